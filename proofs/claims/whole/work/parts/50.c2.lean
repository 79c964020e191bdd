def M_Led_failingAlone : XM := (⟨"HandshakeBinds$Ledger", "failingAlone", "()I"⟩, prog_5_method_14_code, 3, (some .int))
theorem d_Led_failingAlone_0 : decode M_Led_failingAlone.2.1 0 = .ok (.iconst 0, 1) := by decide +kernel
theorem d_Led_failingAlone_1 : decode M_Led_failingAlone.2.1 1 = .ok (.istore_n 1, 1) := by decide +kernel
theorem d_Led_failingAlone_2 : decode M_Led_failingAlone.2.1 2 = .ok (.iconst 0, 1) := by decide +kernel
theorem d_Led_failingAlone_3 : decode M_Led_failingAlone.2.1 3 = .ok (.istore_n 2, 1) := by decide +kernel
theorem d_Led_failingAlone_4 : decode M_Led_failingAlone.2.1 4 = .ok (.iload_n 2, 1) := by decide +kernel
theorem d_Led_failingAlone_5 : decode M_Led_failingAlone.2.1 5 = .ok (.aload_n 0, 1) := by decide +kernel
theorem d_Led_failingAlone_6 : decode M_Led_failingAlone.2.1 6 = .ok (.getfield 27, 3) := by decide +kernel
theorem d_Led_failingAlone_9 : decode M_Led_failingAlone.2.1 9 = .ok (.if_icmp .ge 26, 3) := by decide +kernel
theorem d_Led_failingAlone_35 : decode M_Led_failingAlone.2.1 35 = .ok (.iload_n 1, 1) := by decide +kernel
theorem d_Led_failingAlone_36 : decode M_Led_failingAlone.2.1 36 = .ok (.ireturn, 1) := by decide +kernel
theorem d_Led_failingAlone_12 : decode M_Led_failingAlone.2.1 12 = .ok (.aload_n 0, 1) := by decide +kernel
theorem d_Led_failingAlone_13 : decode M_Led_failingAlone.2.1 13 = .ok (.iconst 1, 1) := by decide +kernel
theorem d_Led_failingAlone_14 : decode M_Led_failingAlone.2.1 14 = .ok (.iload_n 2, 1) := by decide +kernel
theorem d_Led_failingAlone_15 : decode M_Led_failingAlone.2.1 15 = .ok (.ishl, 1) := by decide +kernel
theorem d_Led_failingAlone_16 : decode M_Led_failingAlone.2.1 16 = .ok (.iconst 0, 1) := by decide +kernel
theorem d_Led_failingAlone_17 : decode M_Led_failingAlone.2.1 17 = .ok (.invokevirtual 64, 3) := by decide +kernel
theorem ln_Led_64 : Cond.methodLink "HandshakeBinds$Ledger" 64 M_Led_failing.1 ∈ TB := inTB 402 (by decide +kernel) rfl
theorem lk_Led_failing : LVt M_Led_failing 2 := ⟨⟨inTB 64 (by decide +kernel) rfl, inTB 392 (by decide +kernel) rfl, ⟨by decide, by decide, by decide +kernel⟩, by decide⟩, inTB 390 (by decide +kernel) rfl, inTB 391 (by decide +kernel) rfl⟩
theorem d_Led_failingAlone_20 : decode M_Led_failingAlone.2.1 20 = .ok (.iconst 1, 1) := by decide +kernel
theorem d_Led_failingAlone_21 : decode M_Led_failingAlone.2.1 21 = .ok (.iload_n 2, 1) := by decide +kernel
theorem d_Led_failingAlone_22 : decode M_Led_failingAlone.2.1 22 = .ok (.ishl, 1) := by decide +kernel
theorem d_Led_failingAlone_23 : decode M_Led_failingAlone.2.1 23 = .ok (.if_icmp .ne 6, 3) := by decide +kernel
theorem d_Led_failingAlone_29 : decode M_Led_failingAlone.2.1 29 = .ok (.iinc 2 1, 3) := by decide +kernel
theorem d_Led_failingAlone_32 : decode M_Led_failingAlone.2.1 32 = .ok (.goto (-28), 3) := by decide +kernel
theorem d_Led_failingAlone_26 : decode M_Led_failingAlone.2.1 26 = .ok (.iinc 1 1, 3) := by decide +kernel
def M_Led_rescue : XM := (⟨"HandshakeBinds$Ledger", "rescue", "()I"⟩, prog_5_method_15_code, 3, (some .int))
theorem d_Led_rescue_0 : decode M_Led_rescue.2.1 0 = .ok (.iconst 0, 1) := by decide +kernel
theorem d_Led_rescue_1 : decode M_Led_rescue.2.1 1 = .ok (.istore_n 1, 1) := by decide +kernel
theorem d_Led_rescue_2 : decode M_Led_rescue.2.1 2 = .ok (.iconst 0, 1) := by decide +kernel
theorem d_Led_rescue_3 : decode M_Led_rescue.2.1 3 = .ok (.istore_n 2, 1) := by decide +kernel
theorem d_Led_rescue_4 : decode M_Led_rescue.2.1 4 = .ok (.iload_n 2, 1) := by decide +kernel
theorem d_Led_rescue_5 : decode M_Led_rescue.2.1 5 = .ok (.aload_n 0, 1) := by decide +kernel
theorem d_Led_rescue_6 : decode M_Led_rescue.2.1 6 = .ok (.getfield 27, 3) := by decide +kernel
theorem d_Led_rescue_9 : decode M_Led_rescue.2.1 9 = .ok (.if_icmp .ge 32, 3) := by decide +kernel
theorem d_Led_rescue_41 : decode M_Led_rescue.2.1 41 = .ok (.iload_n 1, 1) := by decide +kernel
theorem d_Led_rescue_42 : decode M_Led_rescue.2.1 42 = .ok (.ireturn, 1) := by decide +kernel
theorem d_Led_rescue_12 : decode M_Led_rescue.2.1 12 = .ok (.aload_n 0, 1) := by decide +kernel
theorem d_Led_rescue_13 : decode M_Led_rescue.2.1 13 = .ok (.iload_n 2, 1) := by decide +kernel
theorem d_Led_rescue_14 : decode M_Led_rescue.2.1 14 = .ok (.aload_n 0, 1) := by decide +kernel
theorem d_Led_rescue_15 : decode M_Led_rescue.2.1 15 = .ok (.getfield 9, 3) := by decide +kernel
theorem d_Led_rescue_18 : decode M_Led_rescue.2.1 18 = .ok (.iload_n 2, 1) := by decide +kernel
theorem d_Led_rescue_19 : decode M_Led_rescue.2.1 19 = .ok (.invokestatic 35, 3) := by decide +kernel
theorem d_Led_rescue_22 : decode M_Led_rescue.2.1 22 = .ok (.iconst 0, 1) := by decide +kernel
theorem d_Led_rescue_23 : decode M_Led_rescue.2.1 23 = .ok (.invokevirtual 60, 3) := by decide +kernel
theorem d_Led_rescue_26 : decode M_Led_rescue.2.1 26 = .ok (.ifCond .eq 9, 3) := by decide +kernel
theorem d_Led_rescue_35 : decode M_Led_rescue.2.1 35 = .ok (.iinc 2 1, 3) := by decide +kernel
theorem d_Led_rescue_38 : decode M_Led_rescue.2.1 38 = .ok (.goto (-34), 3) := by decide +kernel
theorem d_Led_rescue_29 : decode M_Led_rescue.2.1 29 = .ok (.iload_n 1, 1) := by decide +kernel
theorem d_Led_rescue_30 : decode M_Led_rescue.2.1 30 = .ok (.iconst 1, 1) := by decide +kernel
theorem d_Led_rescue_31 : decode M_Led_rescue.2.1 31 = .ok (.iload_n 2, 1) := by decide +kernel
theorem d_Led_rescue_32 : decode M_Led_rescue.2.1 32 = .ok (.ishl, 1) := by decide +kernel
theorem d_Led_rescue_33 : decode M_Led_rescue.2.1 33 = .ok (.ior, 1) := by decide +kernel
theorem d_Led_rescue_34 : decode M_Led_rescue.2.1 34 = .ok (.istore_n 1, 1) := by decide +kernel
def M_Led_gift : XM := (⟨"HandshakeBinds$Ledger", "gift", "(I)I"⟩, prog_5_method_16_code, 4, (some .int))
theorem d_Led_gift_0 : decode M_Led_gift.2.1 0 = .ok (.aload_n 0, 1) := by decide +kernel
theorem d_Led_gift_1 : decode M_Led_gift.2.1 1 = .ok (.iconst 0, 1) := by decide +kernel
theorem d_Led_gift_2 : decode M_Led_gift.2.1 2 = .ok (.iconst 1, 1) := by decide +kernel
theorem d_Led_gift_3 : decode M_Led_gift.2.1 3 = .ok (.iload_n 1, 1) := by decide +kernel
theorem d_Led_gift_4 : decode M_Led_gift.2.1 4 = .ok (.ishl, 1) := by decide +kernel
theorem d_Led_gift_5 : decode M_Led_gift.2.1 5 = .ok (.invokevirtual 64, 3) := by decide +kernel
theorem d_Led_gift_8 : decode M_Led_gift.2.1 8 = .ok (.istore_n 2, 1) := by decide +kernel
theorem d_Led_gift_9 : decode M_Led_gift.2.1 9 = .ok (.aload_n 0, 1) := by decide +kernel
theorem d_Led_gift_10 : decode M_Led_gift.2.1 10 = .ok (.iload_n 1, 1) := by decide +kernel
theorem d_Led_gift_11 : decode M_Led_gift.2.1 11 = .ok (.invokevirtual 50, 3) := by decide +kernel
theorem d_Led_gift_14 : decode M_Led_gift.2.1 14 = .ok (.aload_n 0, 1) := by decide +kernel
theorem d_Led_gift_15 : decode M_Led_gift.2.1 15 = .ok (.getfield 9, 3) := by decide +kernel
theorem d_Led_gift_18 : decode M_Led_gift.2.1 18 = .ok (.iload_n 1, 1) := by decide +kernel
theorem d_Led_gift_19 : decode M_Led_gift.2.1 19 = .ok (.invokestatic 35, 3) := by decide +kernel
theorem d_Led_gift_22 : decode M_Led_gift.2.1 22 = .ok (.isub, 1) := by decide +kernel
theorem d_Led_gift_23 : decode M_Led_gift.2.1 23 = .ok (.aload_n 0, 1) := by decide +kernel
theorem d_Led_gift_24 : decode M_Led_gift.2.1 24 = .ok (.iload_n 1, 1) := by decide +kernel
theorem d_Led_gift_25 : decode M_Led_gift.2.1 25 = .ok (.iload_n 2, 1) := by decide +kernel
theorem d_Led_gift_26 : decode M_Led_gift.2.1 26 = .ok (.invokevirtual 47, 3) := by decide +kernel
theorem d_Led_gift_29 : decode M_Led_gift.2.1 29 = .ok (.isub, 1) := by decide +kernel
theorem d_Led_gift_30 : decode M_Led_gift.2.1 30 = .ok (.istore_n 3, 1) := by decide +kernel
theorem d_Led_gift_31 : decode M_Led_gift.2.1 31 = .ok (.iload_n 3, 1) := by decide +kernel
theorem d_Led_gift_32 : decode M_Led_gift.2.1 32 = .ok (.sipush 9999, 3) := by decide +kernel
theorem d_Led_gift_35 : decode M_Led_gift.2.1 35 = .ok (.if_icmp .le 8, 3) := by decide +kernel
theorem d_Led_gift_43 : decode M_Led_gift.2.1 43 = .ok (.iload_n 3, 1) := by decide +kernel
theorem d_Led_gift_44 : decode M_Led_gift.2.1 44 = .ok (.iconst 0, 1) := by decide +kernel
theorem d_Led_gift_45 : decode M_Led_gift.2.1 45 = .ok (.invokestatic 67, 3) := by decide +kernel
theorem d_Led_gift_48 : decode M_Led_gift.2.1 48 = .ok (.ireturn, 1) := by decide +kernel
theorem d_Led_gift_38 : decode M_Led_gift.2.1 38 = .ok (.bipush (-5), 2) := by decide +kernel
theorem d_Led_gift_40 : decode M_Led_gift.2.1 40 = .ok (.goto 8, 3) := by decide +kernel
def M_Led_ringFrom : XM := (⟨"HandshakeBinds$Ledger", "ringFrom", "(IIII)I"⟩, prog_5_method_19_code, 7, (some .int))
theorem d_Led_ringFrom_21 : decode M_Led_ringFrom.2.1 21 = .ok (.istore 5, 2) := by decide +kernel
theorem d_Led_ringFrom_23 : decode M_Led_ringFrom.2.1 23 = .ok (.iload 4, 2) := by decide +kernel
theorem d_Led_ringFrom_25 : decode M_Led_ringFrom.2.1 25 = .ok (.bipush 6, 2) := by decide +kernel
theorem d_Led_ringFrom_27 : decode M_Led_ringFrom.2.1 27 = .ok (.if_icmp .lt 6, 3) := by decide +kernel
theorem d_Led_ringFrom_33 : decode M_Led_ringFrom.2.1 33 = .ok (.iload_n 1, 1) := by decide +kernel
theorem d_Led_ringFrom_34 : decode M_Led_ringFrom.2.1 34 = .ok (.iconst 1, 1) := by decide +kernel
theorem d_Led_ringFrom_35 : decode M_Led_ringFrom.2.1 35 = .ok (.iadd, 1) := by decide +kernel
theorem d_Led_ringFrom_36 : decode M_Led_ringFrom.2.1 36 = .ok (.istore 6, 2) := by decide +kernel
theorem d_Led_ringFrom_38 : decode M_Led_ringFrom.2.1 38 = .ok (.iload 6, 2) := by decide +kernel
theorem d_Led_ringFrom_40 : decode M_Led_ringFrom.2.1 40 = .ok (.aload_n 0, 1) := by decide +kernel
theorem d_Led_ringFrom_41 : decode M_Led_ringFrom.2.1 41 = .ok (.getfield 27, 3) := by decide +kernel
theorem d_Led_ringFrom_44 : decode M_Led_ringFrom.2.1 44 = .ok (.if_icmp .ge 52, 3) := by decide +kernel
theorem d_Led_ringFrom_96 : decode M_Led_ringFrom.2.1 96 = .ok (.iload 5, 2) := by decide +kernel
theorem d_Led_ringFrom_98 : decode M_Led_ringFrom.2.1 98 = .ok (.ireturn, 1) := by decide +kernel
theorem d_Led_ringFrom_47 : decode M_Led_ringFrom.2.1 47 = .ok (.iload_n 3, 1) := by decide +kernel
theorem d_Led_ringFrom_48 : decode M_Led_ringFrom.2.1 48 = .ok (.iload 6, 2) := by decide +kernel
theorem d_Led_ringFrom_50 : decode M_Led_ringFrom.2.1 50 = .ok (.invokestatic 43, 3) := by decide +kernel
theorem d_Led_ringFrom_53 : decode M_Led_ringFrom.2.1 53 = .ok (.ifCond .ne 37, 3) := by decide +kernel
theorem d_Led_ringFrom_90 : decode M_Led_ringFrom.2.1 90 = .ok (.iinc 6 1, 3) := by decide +kernel
theorem d_Led_ringFrom_93 : decode M_Led_ringFrom.2.1 93 = .ok (.goto (-55), 3) := by decide +kernel
theorem d_Led_ringFrom_56 : decode M_Led_ringFrom.2.1 56 = .ok (.aload_n 0, 1) := by decide +kernel
theorem d_Led_ringFrom_57 : decode M_Led_ringFrom.2.1 57 = .ok (.iload_n 2, 1) := by decide +kernel
theorem d_Led_ringFrom_58 : decode M_Led_ringFrom.2.1 58 = .ok (.iload 6, 2) := by decide +kernel
theorem d_Led_ringFrom_60 : decode M_Led_ringFrom.2.1 60 = .ok (.invokevirtual 39, 3) := by decide +kernel
theorem d_Led_ringFrom_63 : decode M_Led_ringFrom.2.1 63 = .ok (.ifCond .le 27, 3) := by decide +kernel
theorem d_Led_ringFrom_66 : decode M_Led_ringFrom.2.1 66 = .ok (.iload 5, 2) := by decide +kernel
theorem d_Led_ringFrom_68 : decode M_Led_ringFrom.2.1 68 = .ok (.aload_n 0, 1) := by decide +kernel
theorem d_Led_ringFrom_69 : decode M_Led_ringFrom.2.1 69 = .ok (.iload_n 1, 1) := by decide +kernel
theorem d_Led_ringFrom_70 : decode M_Led_ringFrom.2.1 70 = .ok (.iload 6, 2) := by decide +kernel
theorem d_Led_ringFrom_72 : decode M_Led_ringFrom.2.1 72 = .ok (.iload_n 3, 1) := by decide +kernel
theorem d_Led_ringFrom_73 : decode M_Led_ringFrom.2.1 73 = .ok (.iconst 1, 1) := by decide +kernel
theorem d_Led_ringFrom_74 : decode M_Led_ringFrom.2.1 74 = .ok (.iload 6, 2) := by decide +kernel
theorem d_Led_ringFrom_76 : decode M_Led_ringFrom.2.1 76 = .ok (.ishl, 1) := by decide +kernel
theorem d_Led_ringFrom_77 : decode M_Led_ringFrom.2.1 77 = .ok (.ior, 1) := by decide +kernel
theorem d_Led_ringFrom_78 : decode M_Led_ringFrom.2.1 78 = .ok (.iload 4, 2) := by decide +kernel
theorem d_Led_ringFrom_80 : decode M_Led_ringFrom.2.1 80 = .ok (.iconst 1, 1) := by decide +kernel
theorem d_Led_ringFrom_81 : decode M_Led_ringFrom.2.1 81 = .ok (.iadd, 1) := by decide +kernel
theorem d_Led_ringFrom_82 : decode M_Led_ringFrom.2.1 82 = .ok (.invokevirtual 73, 3) := by decide +kernel
theorem ln_Led_73 : Cond.methodLink "HandshakeBinds$Ledger" 73 M_Led_ringFrom.1 ∈ TB := inTB 634 (by decide +kernel) rfl
theorem lk_Led_ringFrom : LVt M_Led_ringFrom 4 := ⟨⟨inTB 64 (by decide +kernel) rfl, inTB 637 (by decide +kernel) rfl, ⟨by decide, by decide, by decide +kernel⟩, by decide⟩, inTB 636 (by decide +kernel) rfl, inTB 15 (by decide +kernel) rfl⟩
theorem d_Led_ringFrom_85 : decode M_Led_ringFrom.2.1 85 = .ok (.invokestatic 67, 3) := by decide +kernel
theorem d_Led_ringFrom_88 : decode M_Led_ringFrom.2.1 88 = .ok (.istore 5, 2) := by decide +kernel
theorem d_Led_ringFrom_30 : decode M_Led_ringFrom.2.1 30 = .ok (.iload 5, 2) := by decide +kernel
theorem d_Led_ringFrom_32 : decode M_Led_ringFrom.2.1 32 = .ok (.ireturn, 1) := by decide +kernel
theorem d_Led_ringFrom_0 : decode M_Led_ringFrom.2.1 0 = .ok (.iload 4, 2) := by decide +kernel
theorem d_Led_ringFrom_2 : decode M_Led_ringFrom.2.1 2 = .ok (.iconst 1, 1) := by decide +kernel
theorem d_Led_ringFrom_3 : decode M_Led_ringFrom.2.1 3 = .ok (.if_icmp .le 17, 3) := by decide +kernel
theorem d_Led_ringFrom_20 : decode M_Led_ringFrom.2.1 20 = .ok (.iconst 0, 1) := by decide +kernel
theorem d_Led_ringFrom_6 : decode M_Led_ringFrom.2.1 6 = .ok (.aload_n 0, 1) := by decide +kernel
theorem d_Led_ringFrom_7 : decode M_Led_ringFrom.2.1 7 = .ok (.iload_n 2, 1) := by decide +kernel
theorem d_Led_ringFrom_8 : decode M_Led_ringFrom.2.1 8 = .ok (.iload_n 1, 1) := by decide +kernel
theorem d_Led_ringFrom_9 : decode M_Led_ringFrom.2.1 9 = .ok (.invokevirtual 39, 3) := by decide +kernel
theorem d_Led_ringFrom_12 : decode M_Led_ringFrom.2.1 12 = .ok (.ifCond .le 8, 3) := by decide +kernel
theorem d_Led_ringFrom_15 : decode M_Led_ringFrom.2.1 15 = .ok (.iload 4, 2) := by decide +kernel
theorem d_Led_ringFrom_17 : decode M_Led_ringFrom.2.1 17 = .ok (.goto 4, 3) := by decide +kernel
def M_Led_longestRing : XM := (⟨"HandshakeBinds$Ledger", "longestRing", "()I"⟩, prog_5_method_18_code, 3, (some .int))
theorem d_Led_longestRing_0 : decode M_Led_longestRing.2.1 0 = .ok (.iconst 0, 1) := by decide +kernel
theorem d_Led_longestRing_1 : decode M_Led_longestRing.2.1 1 = .ok (.istore_n 1, 1) := by decide +kernel
theorem d_Led_longestRing_2 : decode M_Led_longestRing.2.1 2 = .ok (.iconst 0, 1) := by decide +kernel
theorem d_Led_longestRing_3 : decode M_Led_longestRing.2.1 3 = .ok (.istore_n 2, 1) := by decide +kernel
theorem d_Led_longestRing_4 : decode M_Led_longestRing.2.1 4 = .ok (.iload_n 2, 1) := by decide +kernel
theorem d_Led_longestRing_5 : decode M_Led_longestRing.2.1 5 = .ok (.aload_n 0, 1) := by decide +kernel
theorem d_Led_longestRing_6 : decode M_Led_longestRing.2.1 6 = .ok (.getfield 27, 3) := by decide +kernel
theorem d_Led_longestRing_9 : decode M_Led_longestRing.2.1 9 = .ok (.if_icmp .ge 24, 3) := by decide +kernel
theorem d_Led_longestRing_33 : decode M_Led_longestRing.2.1 33 = .ok (.iload_n 1, 1) := by decide +kernel
theorem d_Led_longestRing_34 : decode M_Led_longestRing.2.1 34 = .ok (.ireturn, 1) := by decide +kernel
theorem d_Led_longestRing_12 : decode M_Led_longestRing.2.1 12 = .ok (.iload_n 1, 1) := by decide +kernel
theorem d_Led_longestRing_13 : decode M_Led_longestRing.2.1 13 = .ok (.aload_n 0, 1) := by decide +kernel
theorem d_Led_longestRing_14 : decode M_Led_longestRing.2.1 14 = .ok (.iload_n 2, 1) := by decide +kernel
theorem d_Led_longestRing_15 : decode M_Led_longestRing.2.1 15 = .ok (.iload_n 2, 1) := by decide +kernel
theorem d_Led_longestRing_16 : decode M_Led_longestRing.2.1 16 = .ok (.iconst 1, 1) := by decide +kernel
theorem d_Led_longestRing_17 : decode M_Led_longestRing.2.1 17 = .ok (.iload_n 2, 1) := by decide +kernel
theorem d_Led_longestRing_18 : decode M_Led_longestRing.2.1 18 = .ok (.ishl, 1) := by decide +kernel
theorem d_Led_longestRing_19 : decode M_Led_longestRing.2.1 19 = .ok (.iconst 1, 1) := by decide +kernel
theorem d_Led_longestRing_20 : decode M_Led_longestRing.2.1 20 = .ok (.invokevirtual 73, 3) := by decide +kernel
theorem d_Led_longestRing_23 : decode M_Led_longestRing.2.1 23 = .ok (.invokestatic 67, 3) := by decide +kernel
theorem d_Led_longestRing_26 : decode M_Led_longestRing.2.1 26 = .ok (.istore_n 1, 1) := by decide +kernel
theorem d_Led_longestRing_27 : decode M_Led_longestRing.2.1 27 = .ok (.iinc 2 1, 3) := by decide +kernel
theorem d_Led_longestRing_30 : decode M_Led_longestRing.2.1 30 = .ok (.goto (-26), 3) := by decide +kernel
def M_Led_payments : XM := (⟨"HandshakeBinds$Ledger", "payments", "()I"⟩, prog_5_method_17_code, 6, (some .int))
theorem d_Led_payments_0 : decode M_Led_payments.2.1 0 = .ok (.iconst 1, 1) := by decide +kernel
theorem d_Led_payments_1 : decode M_Led_payments.2.1 1 = .ok (.aload_n 0, 1) := by decide +kernel
theorem d_Led_payments_2 : decode M_Led_payments.2.1 2 = .ok (.getfield 27, 3) := by decide +kernel
theorem d_Led_payments_5 : decode M_Led_payments.2.1 5 = .ok (.ishl, 1) := by decide +kernel
theorem d_Led_payments_6 : decode M_Led_payments.2.1 6 = .ok (.istore_n 1, 1) := by decide +kernel
theorem d_Led_payments_7 : decode M_Led_payments.2.1 7 = .ok (.iconst 1, 1) := by decide +kernel
theorem d_Led_payments_8 : decode M_Led_payments.2.1 8 = .ok (.istore_n 2, 1) := by decide +kernel
theorem d_Led_payments_9 : decode M_Led_payments.2.1 9 = .ok (.iload_n 2, 1) := by decide +kernel
theorem d_Led_payments_10 : decode M_Led_payments.2.1 10 = .ok (.iload_n 1, 1) := by decide +kernel
theorem d_Led_payments_11 : decode M_Led_payments.2.1 11 = .ok (.if_icmp .ge 90, 3) := by decide +kernel
theorem d_Led_payments_101 : decode M_Led_payments.2.1 101 = .ok (.aload_n 0, 1) := by decide +kernel
theorem d_Led_payments_102 : decode M_Led_payments.2.1 102 = .ok (.getfield 27, 3) := by decide +kernel
theorem d_Led_payments_105 : decode M_Led_payments.2.1 105 = .ok (.aload_n 0, 1) := by decide +kernel
theorem d_Led_payments_106 : decode M_Led_payments.2.1 106 = .ok (.getfield 18, 3) := by decide +kernel
theorem gf_Led_18 : GF "HandshakeBinds$Ledger" 18 2 2 := ⟨_, _, _, rfl, by decide, i_Led, inTB 103 (by decide +kernel) rfl⟩
theorem d_Led_payments_109 : decode M_Led_payments.2.1 109 = .ok (.iload_n 1, 1) := by decide +kernel
theorem d_Led_payments_110 : decode M_Led_payments.2.1 110 = .ok (.iconst 1, 1) := by decide +kernel
theorem d_Led_payments_111 : decode M_Led_payments.2.1 111 = .ok (.isub, 1) := by decide +kernel
theorem d_Led_payments_112 : decode M_Led_payments.2.1 112 = .ok (.invokestatic 35, 3) := by decide +kernel
theorem d_Led_payments_115 : decode M_Led_payments.2.1 115 = .ok (.isub, 1) := by decide +kernel
theorem d_Led_payments_116 : decode M_Led_payments.2.1 116 = .ok (.ireturn, 1) := by decide +kernel
theorem d_Led_payments_14 : decode M_Led_payments.2.1 14 = .ok (.iconst 0, 1) := by decide +kernel
theorem d_Led_payments_15 : decode M_Led_payments.2.1 15 = .ok (.istore_n 3, 1) := by decide +kernel
theorem d_Led_payments_16 : decode M_Led_payments.2.1 16 = .ok (.iconst 0, 1) := by decide +kernel
theorem d_Led_payments_17 : decode M_Led_payments.2.1 17 = .ok (.istore 4, 2) := by decide +kernel
theorem d_Led_payments_19 : decode M_Led_payments.2.1 19 = .ok (.iconst 0, 1) := by decide +kernel
theorem d_Led_payments_20 : decode M_Led_payments.2.1 20 = .ok (.istore 5, 2) := by decide +kernel
theorem d_Led_payments_22 : decode M_Led_payments.2.1 22 = .ok (.iload 5, 2) := by decide +kernel
theorem d_Led_payments_24 : decode M_Led_payments.2.1 24 = .ok (.aload_n 0, 1) := by decide +kernel
theorem d_Led_payments_25 : decode M_Led_payments.2.1 25 = .ok (.getfield 27, 3) := by decide +kernel
theorem d_Led_payments_28 : decode M_Led_payments.2.1 28 = .ok (.if_icmp .ge 47, 3) := by decide +kernel
theorem d_Led_payments_75 : decode M_Led_payments.2.1 75 = .ok (.aload_n 0, 1) := by decide +kernel
theorem d_Led_payments_76 : decode M_Led_payments.2.1 76 = .ok (.getfield 18, 3) := by decide +kernel
theorem d_Led_payments_79 : decode M_Led_payments.2.1 79 = .ok (.iload_n 2, 1) := by decide +kernel
theorem d_Led_payments_80 : decode M_Led_payments.2.1 80 = .ok (.iload 4, 2) := by decide +kernel
theorem d_Led_payments_82 : decode M_Led_payments.2.1 82 = .ok (.ifCond .ne 9, 3) := by decide +kernel
theorem d_Led_payments_91 : decode M_Led_payments.2.1 91 = .ok (.iload_n 3, 1) := by decide +kernel
theorem d_Led_payments_92 : decode M_Led_payments.2.1 92 = .ok (.invokestatic 31, 3) := by decide +kernel
theorem d_Led_payments_95 : decode M_Led_payments.2.1 95 = .ok (.iinc 2 1, 3) := by decide +kernel
theorem d_Led_payments_98 : decode M_Led_payments.2.1 98 = .ok (.goto (-89), 3) := by decide +kernel
theorem d_Led_payments_85 : decode M_Led_payments.2.1 85 = .ok (.iload_n 3, 1) := by decide +kernel
theorem d_Led_payments_86 : decode M_Led_payments.2.1 86 = .ok (.iconst 1, 1) := by decide +kernel
theorem d_Led_payments_87 : decode M_Led_payments.2.1 87 = .ok (.iadd, 1) := by decide +kernel
theorem d_Led_payments_88 : decode M_Led_payments.2.1 88 = .ok (.goto 4, 3) := by decide +kernel
theorem d_Led_payments_31 : decode M_Led_payments.2.1 31 = .ok (.iload_n 2, 1) := by decide +kernel
theorem d_Led_payments_32 : decode M_Led_payments.2.1 32 = .ok (.iload 5, 2) := by decide +kernel
theorem d_Led_payments_34 : decode M_Led_payments.2.1 34 = .ok (.invokestatic 43, 3) := by decide +kernel
theorem d_Led_payments_37 : decode M_Led_payments.2.1 37 = .ok (.ifCond .eq 32, 3) := by decide +kernel
theorem d_Led_payments_69 : decode M_Led_payments.2.1 69 = .ok (.iinc 5 1, 3) := by decide +kernel
theorem d_Led_payments_72 : decode M_Led_payments.2.1 72 = .ok (.goto (-50), 3) := by decide +kernel
theorem d_Led_payments_40 : decode M_Led_payments.2.1 40 = .ok (.iload 4, 2) := by decide +kernel
theorem d_Led_payments_42 : decode M_Led_payments.2.1 42 = .ok (.aload_n 0, 1) := by decide +kernel
theorem d_Led_payments_43 : decode M_Led_payments.2.1 43 = .ok (.iload 5, 2) := by decide +kernel
theorem d_Led_payments_45 : decode M_Led_payments.2.1 45 = .ok (.invokevirtual 70, 3) := by decide +kernel
theorem ln_Led_70 : Cond.methodLink "HandshakeBinds$Ledger" 70 M_Led_balance.1 ∈ TB := inTB 629 (by decide +kernel) rfl
theorem lk_Led_balance : LVt M_Led_balance 1 := ⟨⟨inTB 64 (by decide +kernel) rfl, inTB 386 (by decide +kernel) rfl, ⟨by decide, by decide, by decide +kernel⟩, by decide⟩, inTB 384 (by decide +kernel) rfl, inTB 385 (by decide +kernel) rfl⟩
theorem d_Led_payments_48 : decode M_Led_payments.2.1 48 = .ok (.iadd, 1) := by decide +kernel
theorem d_Led_payments_49 : decode M_Led_payments.2.1 49 = .ok (.istore 4, 2) := by decide +kernel
theorem d_Led_payments_51 : decode M_Led_payments.2.1 51 = .ok (.iload_n 3, 1) := by decide +kernel
theorem d_Led_payments_52 : decode M_Led_payments.2.1 52 = .ok (.aload_n 0, 1) := by decide +kernel
theorem d_Led_payments_53 : decode M_Led_payments.2.1 53 = .ok (.getfield 18, 3) := by decide +kernel
theorem d_Led_payments_56 : decode M_Led_payments.2.1 56 = .ok (.iload_n 2, 1) := by decide +kernel
theorem d_Led_payments_57 : decode M_Led_payments.2.1 57 = .ok (.iconst 1, 1) := by decide +kernel
theorem d_Led_payments_58 : decode M_Led_payments.2.1 58 = .ok (.iload 5, 2) := by decide +kernel
theorem d_Led_payments_60 : decode M_Led_payments.2.1 60 = .ok (.ishl, 1) := by decide +kernel
theorem d_Led_payments_61 : decode M_Led_payments.2.1 61 = .ok (.ixor, 1) := by decide +kernel
theorem d_Led_payments_62 : decode M_Led_payments.2.1 62 = .ok (.invokestatic 35, 3) := by decide +kernel
theorem d_Led_payments_65 : decode M_Led_payments.2.1 65 = .ok (.invokestatic 67, 3) := by decide +kernel
theorem d_Led_payments_68 : decode M_Led_payments.2.1 68 = .ok (.istore_n 3, 1) := by decide +kernel
def M_Led_pay : XM := (⟨"HandshakeBinds$Ledger", "pay", "(II)V"⟩, prog_5_method_21_code, 4, none)
theorem d_Led_pay_0 : decode M_Led_pay.2.1 0 = .ok (.aload_n 0, 1) := by decide +kernel
theorem d_Led_pay_1 : decode M_Led_pay.2.1 1 = .ok (.iload_n 1, 1) := by decide +kernel
theorem d_Led_pay_2 : decode M_Led_pay.2.1 2 = .ok (.iload_n 2, 1) := by decide +kernel
theorem d_Led_pay_3 : decode M_Led_pay.2.1 3 = .ok (.invokevirtual 39, 3) := by decide +kernel
theorem d_Led_pay_6 : decode M_Led_pay.2.1 6 = .ok (.aload_n 0, 1) := by decide +kernel
theorem d_Led_pay_7 : decode M_Led_pay.2.1 7 = .ok (.getfield 9, 3) := by decide +kernel
theorem d_Led_pay_10 : decode M_Led_pay.2.1 10 = .ok (.iload_n 1, 1) := by decide +kernel
theorem d_Led_pay_11 : decode M_Led_pay.2.1 11 = .ok (.invokestatic 35, 3) := by decide +kernel
theorem d_Led_pay_14 : decode M_Led_pay.2.1 14 = .ok (.invokestatic 85, 3) := by decide +kernel
theorem d_Led_pay_17 : decode M_Led_pay.2.1 17 = .ok (.istore_n 3, 1) := by decide +kernel
theorem d_Led_pay_18 : decode M_Led_pay.2.1 18 = .ok (.aload_n 0, 1) := by decide +kernel
theorem d_Led_pay_19 : decode M_Led_pay.2.1 19 = .ok (.iload_n 1, 1) := by decide +kernel
theorem d_Led_pay_20 : decode M_Led_pay.2.1 20 = .ok (.iload_n 2, 1) := by decide +kernel
theorem d_Led_pay_21 : decode M_Led_pay.2.1 21 = .ok (.aload_n 0, 1) := by decide +kernel
theorem d_Led_pay_22 : decode M_Led_pay.2.1 22 = .ok (.iload_n 1, 1) := by decide +kernel
theorem d_Led_pay_23 : decode M_Led_pay.2.1 23 = .ok (.iload_n 2, 1) := by decide +kernel
theorem d_Led_pay_24 : decode M_Led_pay.2.1 24 = .ok (.invokevirtual 39, 3) := by decide +kernel
theorem d_Led_pay_27 : decode M_Led_pay.2.1 27 = .ok (.iload_n 3, 1) := by decide +kernel
theorem d_Led_pay_28 : decode M_Led_pay.2.1 28 = .ok (.isub, 1) := by decide +kernel
theorem d_Led_pay_29 : decode M_Led_pay.2.1 29 = .ok (.invokevirtual 81, 3) := by decide +kernel
theorem ln_Led_81 : Cond.methodLink "HandshakeBinds$Ledger" 81 M_Led_setDebt.1 ∈ TB := inTB 728 (by decide +kernel) rfl
theorem lk_Led_setDebt : LVt M_Led_setDebt 3 := ⟨⟨inTB 64 (by decide +kernel) rfl, inTB 416 (by decide +kernel) rfl, ⟨by decide, by decide, by decide +kernel⟩, by decide⟩, inTB 414 (by decide +kernel) rfl, inTB 415 (by decide +kernel) rfl⟩
theorem d_Led_pay_32 : decode M_Led_pay.2.1 32 = .ok (.aload_n 0, 1) := by decide +kernel
theorem d_Led_pay_33 : decode M_Led_pay.2.1 33 = .ok (.getfield 9, 3) := by decide +kernel
theorem d_Led_pay_36 : decode M_Led_pay.2.1 36 = .ok (.iload_n 1, 1) := by decide +kernel
theorem d_Led_pay_37 : decode M_Led_pay.2.1 37 = .ok (.aload_n 0, 1) := by decide +kernel
theorem d_Led_pay_38 : decode M_Led_pay.2.1 38 = .ok (.getfield 9, 3) := by decide +kernel
theorem d_Led_pay_41 : decode M_Led_pay.2.1 41 = .ok (.iload_n 1, 1) := by decide +kernel
theorem d_Led_pay_42 : decode M_Led_pay.2.1 42 = .ok (.invokestatic 35, 3) := by decide +kernel
theorem d_Led_pay_45 : decode M_Led_pay.2.1 45 = .ok (.iload_n 3, 1) := by decide +kernel
theorem d_Led_pay_46 : decode M_Led_pay.2.1 46 = .ok (.isub, 1) := by decide +kernel
theorem d_Led_pay_47 : decode M_Led_pay.2.1 47 = .ok (.invokestatic 31, 3) := by decide +kernel
theorem d_Led_pay_50 : decode M_Led_pay.2.1 50 = .ok (.aload_n 0, 1) := by decide +kernel
theorem d_Led_pay_51 : decode M_Led_pay.2.1 51 = .ok (.getfield 9, 3) := by decide +kernel
theorem d_Led_pay_54 : decode M_Led_pay.2.1 54 = .ok (.iload_n 2, 1) := by decide +kernel
theorem d_Led_pay_55 : decode M_Led_pay.2.1 55 = .ok (.aload_n 0, 1) := by decide +kernel
theorem d_Led_pay_56 : decode M_Led_pay.2.1 56 = .ok (.getfield 9, 3) := by decide +kernel
theorem d_Led_pay_59 : decode M_Led_pay.2.1 59 = .ok (.iload_n 2, 1) := by decide +kernel
theorem d_Led_pay_60 : decode M_Led_pay.2.1 60 = .ok (.invokestatic 35, 3) := by decide +kernel
theorem d_Led_pay_63 : decode M_Led_pay.2.1 63 = .ok (.iload_n 3, 1) := by decide +kernel
theorem d_Led_pay_64 : decode M_Led_pay.2.1 64 = .ok (.iadd, 1) := by decide +kernel
theorem d_Led_pay_65 : decode M_Led_pay.2.1 65 = .ok (.sipush 9999, 3) := by decide +kernel
theorem d_Led_pay_68 : decode M_Led_pay.2.1 68 = .ok (.invokestatic 85, 3) := by decide +kernel
theorem d_Led_pay_71 : decode M_Led_pay.2.1 71 = .ok (.invokestatic 31, 3) := by decide +kernel
theorem d_Led_pay_74 : decode M_Led_pay.2.1 74 = .ok (.return_, 1) := by decide +kernel
def M_Led_follow : XM := (⟨"HandshakeBinds$Ledger", "follow", "(II)V"⟩, prog_5_method_20_code, 4, none)
theorem d_Led_follow_0 : decode M_Led_follow.2.1 0 = .ok (.iconst 0, 1) := by decide +kernel
theorem d_Led_follow_1 : decode M_Led_follow.2.1 1 = .ok (.istore_n 3, 1) := by decide +kernel
theorem d_Led_follow_2 : decode M_Led_follow.2.1 2 = .ok (.iload_n 3, 1) := by decide +kernel
theorem d_Led_follow_3 : decode M_Led_follow.2.1 3 = .ok (.aload_n 0, 1) := by decide +kernel
theorem d_Led_follow_4 : decode M_Led_follow.2.1 4 = .ok (.getfield 27, 3) := by decide +kernel
theorem d_Led_follow_7 : decode M_Led_follow.2.1 7 = .ok (.if_icmp .ge 50, 3) := by decide +kernel
theorem d_Led_follow_57 : decode M_Led_follow.2.1 57 = .ok (.return_, 1) := by decide +kernel
theorem d_Led_follow_10 : decode M_Led_follow.2.1 10 = .ok (.iload_n 1, 1) := by decide +kernel
theorem d_Led_follow_11 : decode M_Led_follow.2.1 11 = .ok (.iconst 1, 1) := by decide +kernel
theorem d_Led_follow_12 : decode M_Led_follow.2.1 12 = .ok (.if_icmp .ne 12, 3) := by decide +kernel
theorem d_Led_follow_24 : decode M_Led_follow.2.1 24 = .ok (.iload_n 1, 1) := by decide +kernel
theorem d_Led_follow_25 : decode M_Led_follow.2.1 25 = .ok (.iconst 2, 1) := by decide +kernel
theorem d_Led_follow_26 : decode M_Led_follow.2.1 26 = .ok (.if_icmp .ne 13, 3) := by decide +kernel
theorem d_Led_follow_39 : decode M_Led_follow.2.1 39 = .ok (.iload_n 1, 1) := by decide +kernel
theorem d_Led_follow_40 : decode M_Led_follow.2.1 40 = .ok (.iconst 3, 1) := by decide +kernel
theorem d_Led_follow_41 : decode M_Led_follow.2.1 41 = .ok (.if_icmp .ne 10, 3) := by decide +kernel
theorem d_Led_follow_51 : decode M_Led_follow.2.1 51 = .ok (.iinc 3 1, 3) := by decide +kernel
theorem d_Led_follow_54 : decode M_Led_follow.2.1 54 = .ok (.goto (-52), 3) := by decide +kernel
theorem d_Led_follow_15 : decode M_Led_follow.2.1 15 = .ok (.aload_n 0, 1) := by decide +kernel
theorem d_Led_follow_16 : decode M_Led_follow.2.1 16 = .ok (.iload_n 2, 1) := by decide +kernel
theorem d_Led_follow_17 : decode M_Led_follow.2.1 17 = .ok (.iload_n 3, 1) := by decide +kernel
theorem d_Led_follow_18 : decode M_Led_follow.2.1 18 = .ok (.invokevirtual 77, 3) := by decide +kernel
theorem ln_Led_77 : Cond.methodLink "HandshakeBinds$Ledger" 77 M_Led_pay.1 ∈ TB := inTB 723 (by decide +kernel) rfl
theorem lk_Led_pay : LVt M_Led_pay 2 := ⟨⟨inTB 64 (by decide +kernel) rfl, inTB 726 (by decide +kernel) rfl, ⟨by decide, by decide, by decide +kernel⟩, by decide⟩, inTB 725 (by decide +kernel) rfl, inTB 16 (by decide +kernel) rfl⟩
theorem d_Led_follow_21 : decode M_Led_follow.2.1 21 = .ok (.goto 30, 3) := by decide +kernel
theorem d_Led_follow_29 : decode M_Led_follow.2.1 29 = .ok (.aload_n 0, 1) := by decide +kernel
theorem d_Led_follow_30 : decode M_Led_follow.2.1 30 = .ok (.iload_n 2, 1) := by decide +kernel
theorem d_Led_follow_31 : decode M_Led_follow.2.1 31 = .ok (.iload_n 3, 1) := by decide +kernel
theorem d_Led_follow_32 : decode M_Led_follow.2.1 32 = .ok (.iconst 0, 1) := by decide +kernel
theorem d_Led_follow_33 : decode M_Led_follow.2.1 33 = .ok (.invokevirtual 81, 3) := by decide +kernel
theorem d_Led_follow_36 : decode M_Led_follow.2.1 36 = .ok (.goto 15, 3) := by decide +kernel
theorem d_Led_follow_44 : decode M_Led_follow.2.1 44 = .ok (.aload_n 0, 1) := by decide +kernel
theorem d_Led_follow_45 : decode M_Led_follow.2.1 45 = .ok (.iload_n 3, 1) := by decide +kernel
theorem d_Led_follow_46 : decode M_Led_follow.2.1 46 = .ok (.iload_n 2, 1) := by decide +kernel
theorem d_Led_follow_47 : decode M_Led_follow.2.1 47 = .ok (.iconst 0, 1) := by decide +kernel
theorem d_Led_follow_48 : decode M_Led_follow.2.1 48 = .ok (.invokevirtual 81, 3) := by decide +kernel
def M_Led_copyFrom : XM := (⟨"HandshakeBinds$Ledger", "copyFrom", "(LHandshakeBinds$Ledger;)V"⟩, prog_5_method_2_code, 2, none)
theorem d_Led_copyFrom_0 : decode M_Led_copyFrom.2.1 0 = .ok (.aload_n 1, 1) := by decide +kernel
theorem d_Led_copyFrom_1 : decode M_Led_copyFrom.2.1 1 = .ok (.getfield 9, 3) := by decide +kernel
theorem d_Led_copyFrom_4 : decode M_Led_copyFrom.2.1 4 = .ok (.iconst 0, 1) := by decide +kernel
theorem d_Led_copyFrom_5 : decode M_Led_copyFrom.2.1 5 = .ok (.aload_n 0, 1) := by decide +kernel
theorem d_Led_copyFrom_6 : decode M_Led_copyFrom.2.1 6 = .ok (.getfield 9, 3) := by decide +kernel
theorem d_Led_copyFrom_9 : decode M_Led_copyFrom.2.1 9 = .ok (.iconst 0, 1) := by decide +kernel
theorem d_Led_copyFrom_10 : decode M_Led_copyFrom.2.1 10 = .ok (.aload_n 0, 1) := by decide +kernel
theorem d_Led_copyFrom_11 : decode M_Led_copyFrom.2.1 11 = .ok (.getfield 9, 3) := by decide +kernel
theorem d_Led_copyFrom_14 : decode M_Led_copyFrom.2.1 14 = .ok (.arraylength, 1) := by decide +kernel
theorem d_Led_copyFrom_15 : decode M_Led_copyFrom.2.1 15 = .ok (.invokestatic 21, 3) := by decide +kernel
theorem d_Led_copyFrom_18 : decode M_Led_copyFrom.2.1 18 = .ok (.aload_n 1, 1) := by decide +kernel
theorem d_Led_copyFrom_19 : decode M_Led_copyFrom.2.1 19 = .ok (.getfield 15, 3) := by decide +kernel
theorem d_Led_copyFrom_22 : decode M_Led_copyFrom.2.1 22 = .ok (.iconst 0, 1) := by decide +kernel
theorem d_Led_copyFrom_23 : decode M_Led_copyFrom.2.1 23 = .ok (.aload_n 0, 1) := by decide +kernel
theorem d_Led_copyFrom_24 : decode M_Led_copyFrom.2.1 24 = .ok (.getfield 15, 3) := by decide +kernel
theorem d_Led_copyFrom_27 : decode M_Led_copyFrom.2.1 27 = .ok (.iconst 0, 1) := by decide +kernel
theorem d_Led_copyFrom_28 : decode M_Led_copyFrom.2.1 28 = .ok (.aload_n 0, 1) := by decide +kernel
theorem d_Led_copyFrom_29 : decode M_Led_copyFrom.2.1 29 = .ok (.getfield 15, 3) := by decide +kernel
theorem d_Led_copyFrom_32 : decode M_Led_copyFrom.2.1 32 = .ok (.arraylength, 1) := by decide +kernel
theorem d_Led_copyFrom_33 : decode M_Led_copyFrom.2.1 33 = .ok (.invokestatic 21, 3) := by decide +kernel
theorem d_Led_copyFrom_36 : decode M_Led_copyFrom.2.1 36 = .ok (.aload_n 0, 1) := by decide +kernel
theorem d_Led_copyFrom_37 : decode M_Led_copyFrom.2.1 37 = .ok (.aload_n 1, 1) := by decide +kernel
theorem d_Led_copyFrom_38 : decode M_Led_copyFrom.2.1 38 = .ok (.getfield 27, 3) := by decide +kernel
theorem d_Led_copyFrom_41 : decode M_Led_copyFrom.2.1 41 = .ok (.putfield 27, 3) := by decide +kernel
theorem d_Led_copyFrom_44 : decode M_Led_copyFrom.2.1 44 = .ok (.return_, 1) := by decide +kernel
theorem c_Led_failing0 (X : Xn) (a : Nat → Nat) (ν : Nat → Nat → Nat) (σ : Nat → Nat → Int32) (τ : Nat → Nat → Int64) (T : Nat) (hn6 : ν 0 3 ≤ 6) (hT : T < 64) : Does X 5 M_Led_failing [.ref (a 0), .int (nI T), .int (nI 0)] (LW X a ν σ τ) 0 0 (fun (vv : Option Value) (ww : va_W) => vv = some (.int (nI (fails (ν 0 3) (σ 1) (σ 2) T))) ∧ ww = LW X a ν σ τ) := by
  have := c_Led_failing X a ν σ τ T 0 hn6 hT (by decide)
  rwa [rp_0] at this
theorem c_Led_failingAlone (X : Xn) (a : Nat → Nat) (ν : Nat → Nat → Nat) (σ : Nat → Nat → Int32) (τ : Nat → Nat → Int64)   (hn6 : ν 0 3 ≤ 6) : Does X 6 M_Led_failingAlone [.ref (a 0)] (LW X a ν σ τ) 0 0 (fun (vv : Option Value) (ww : va_W) => vv = some (.int (nI (alone (ν 0 3) (σ 1) (σ 2) (ν 0 3)))) ∧ ww = LW X a ν σ τ) := by
  generalize hQ : (fun (vv : Option Value) (ww : va_W) => vv = some (.int (nI (alone (ν 0 3) (σ 1) (σ 2) (ν 0 3)))) ∧ ww = LW X a ν σ τ) = Q
  refine Does.go rfl (Nat.le_of_ble_eq_true rfl) [some (.ref (a 0)), none, none] 2 rfl ?_
  refine r_iconst (nI 0) rfl 1 rfl d_Led_failingAlone_0 ?_
  refine r_istore_n (ls2 := [some (.ref (a 0)), some (.int (nI 0)), none]) 2 rfl d_Led_failingAlone_1 (by decide) rfl rfl ?_
  refine r_iconst (nI 0) rfl 3 rfl d_Led_failingAlone_2 ?_
  refine r_istore_n (ls2 := [some (.ref (a 0)), some (.int (nI 0)), some (.int (nI 0))]) 4 rfl d_Led_failingAlone_3 (by decide) rfl rfl ?_
  have L4_1 : ∀ (f : Nat) (k : Nat), (k ≤ ν 0 3) → ν 0 3 - k < f → Runs X 6 M_Led_failingAlone 0 0 Q 4 [some (.ref (a 0)), some (.int (nI (alone (ν 0 3) (σ 1) (σ 2) k))), some (.int (nI k))] [] 0 0 (LW X a ν σ τ) := by
    intro f
    induction f with
    | zero => intro k hk hmu; exact absurd hmu (Nat.not_lt_zero _)
    | succ f ih2 =>
      intro k hk hmu
      refine r_iload_n rfl 5 rfl d_Led_failingAlone_4 ?_
      refine r_aload_n rfl 6 rfl d_Led_failingAlone_5 ?_
      refine r_getf (v := .int (nI (ν 0 3))) gf_Led_27 0 rfl rfl 9 rfl d_Led_failingAlone_6 ?_
      refine r_icmp_geN k (ν 0 3) (by omega) (by omega) 12 35 rfl rfl d_Led_failingAlone_9 (fun h9 => ?_) (fun h9 => ?_)
      · refine r_iload_n rfl 36 rfl d_Led_failingAlone_35 ?_
        exact r_iret rfl (Nat.zero_le _) (Nat.zero_le _) d_Led_failingAlone_36 (by rw [← hQ]; exact ⟨by rw [show k = ν 0 3 by omega], rfl⟩)
      · refine r_aload_n rfl 13 rfl d_Led_failingAlone_12 ?_
        refine r_iconst (nI 1) rfl 14 rfl d_Led_failingAlone_13 ?_
        refine r_iload_n rfl 15 rfl d_Led_failingAlone_14 ?_
        refine r_ishl 16 rfl d_Led_failingAlone_15 ?_
        refine r_topi (nI (1 <<< k)) (nI_shl (by omega) (one_shl (by omega))) ?_
        refine r_iconst (nI 0) rfl 17 rfl d_Led_failingAlone_16 ?_
        refine r_callVA1 (st2 := [.int (nI (fails (ν 0 3) (σ 1) (σ 2) (1 <<< k)))]) (w2 := LW X a ν σ τ) lk_Led_failing ln_Led_64 (c_Led_failing0 X a ν σ τ (1 <<< k) hn6 (shl_lt6 (by omega))) (by first | decide | omega) rfl rfl (Nat.le_of_ble_eq_true rfl) (Nat.le_of_ble_eq_true rfl) (Nat.le_of_ble_eq_true rfl) 0 rfl rfl rfl rfl 20 rfl d_Led_failingAlone_17 ?_
        refine r_iconst (nI 1) rfl 21 rfl d_Led_failingAlone_20 ?_
        refine r_iload_n rfl 22 rfl d_Led_failingAlone_21 ?_
        refine r_ishl 23 rfl d_Led_failingAlone_22 ?_
        refine r_topi (nI (1 <<< k)) (nI_shl (by omega) (one_shl (by omega))) ?_
        refine r_icmp_neN (fails (ν 0 3) (σ 1) (σ 2) (1 <<< k)) (1 <<< k) (Nat.lt_trans (fails_lt hn6 (shl_lt6 (by omega))) (by decide)) (shl_lt31 (by omega)) 26 29 rfl rfl d_Led_failingAlone_23 (fun h23 => ?_) (fun h23 => ?_)
        · have eC : alone (ν 0 3) (σ 1) (σ 2) (k + 1) = alone (ν 0 3) (σ 1) (σ 2) k := if_neg h23
          refine r_iinc (ls2 := [some (.ref (a 0)), some (.int (nI (alone (ν 0 3) (σ 1) (σ 2) k))), some (.int (nI (k + 1)))]) (nI (k + 1)) rfl (nI_1 _) 32 rfl d_Led_failingAlone_29 (by decide) rfl rfl ?_
          refine r_goto 4 rfl d_Led_failingAlone_32 ?_
          refine Runs.cast (ih2 (k + 1) (by omega) (by omega)) (by rw [eC]; try rfl) rfl (rfl)
        · have eC : alone (ν 0 3) (σ 1) (σ 2) (k + 1) = alone (ν 0 3) (σ 1) (σ 2) k + 1 := if_pos h23
          refine r_iinc (ls2 := [some (.ref (a 0)), some (.int (nI ((alone (ν 0 3) (σ 1) (σ 2) k) + 1))), some (.int (nI k))]) (nI ((alone (ν 0 3) (σ 1) (σ 2) k) + 1)) rfl (nI_1 _) 29 rfl d_Led_failingAlone_26 (by decide) rfl rfl ?_
          refine r_iinc (ls2 := [some (.ref (a 0)), some (.int (nI ((alone (ν 0 3) (σ 1) (σ 2) k) + 1))), some (.int (nI (k + 1)))]) (nI (k + 1)) rfl (nI_1 _) 32 rfl d_Led_failingAlone_29 (by decide) rfl rfl ?_
          refine r_goto 4 rfl d_Led_failingAlone_32 ?_
          refine Runs.cast (ih2 (k + 1) (by omega) (by omega)) (by rw [eC]; try rfl) rfl (rfl)
  exact L4_1 _ 0 (by omega) (Nat.lt_succ_self _)
theorem c_Led_rescue (X : Xn) (a : Nat → Nat) (ν : Nat → Nat → Nat) (σ : Nat → Nat → Int32) (τ : Nat → Nat → Int64)   (hn6 : ν 0 3 ≤ 6) : Does X 5 M_Led_rescue [.ref (a 0)] (LW X a ν σ τ) 0 0 (fun (vv : Option Value) (ww : va_W) => vv = some (.int (nI (crs (ν 0 3) (σ 1) (σ 2) (ν 0 3)))) ∧ ww = LW X a ν σ τ) := by
  generalize hQ : (fun (vv : Option Value) (ww : va_W) => vv = some (.int (nI (crs (ν 0 3) (σ 1) (σ 2) (ν 0 3)))) ∧ ww = LW X a ν σ τ) = Q
  refine Does.go rfl (Nat.le_of_ble_eq_true rfl) [some (.ref (a 0)), none, none] 2 rfl ?_
  refine r_iconst (nI 0) rfl 1 rfl d_Led_rescue_0 ?_
  refine r_istore_n (ls2 := [some (.ref (a 0)), some (.int (nI 0)), none]) 2 rfl d_Led_rescue_1 (by decide) rfl rfl ?_
  refine r_iconst (nI 0) rfl 3 rfl d_Led_rescue_2 ?_
  refine r_istore_n (ls2 := [some (.ref (a 0)), some (.int (nI 0)), some (.int (nI 0))]) 4 rfl d_Led_rescue_3 (by decide) rfl rfl ?_
  have L4_1 : ∀ (f : Nat) (k : Nat), (k ≤ ν 0 3) → ν 0 3 - k < f → Runs X 5 M_Led_rescue 0 0 Q 4 [some (.ref (a 0)), some (.int (nI (crs (ν 0 3) (σ 1) (σ 2) k))), some (.int (nI k))] [] 0 0 (LW X a ν σ τ) := by
    intro f
    induction f with
    | zero => intro k hk hmu; exact absurd hmu (Nat.not_lt_zero _)
    | succ f ih2 =>
      intro k hk hmu
      refine r_iload_n rfl 5 rfl d_Led_rescue_4 ?_
      refine r_aload_n rfl 6 rfl d_Led_rescue_5 ?_
      refine r_getf (v := .int (nI (ν 0 3))) gf_Led_27 0 rfl rfl 9 rfl d_Led_rescue_6 ?_
      refine r_icmp_geN k (ν 0 3) (by omega) (by omega) 12 41 rfl rfl d_Led_rescue_9 (fun h9 => ?_) (fun h9 => ?_)
      · refine r_iload_n rfl 42 rfl d_Led_rescue_41 ?_
        exact r_iret rfl (Nat.zero_le _) (Nat.zero_le _) d_Led_rescue_42 (by rw [← hQ]; exact ⟨by rw [show k = ν 0 3 by omega], rfl⟩)
      · refine r_aload_n rfl 13 rfl d_Led_rescue_12 ?_
        refine r_iload_n rfl 14 rfl d_Led_rescue_13 ?_
        refine r_aload_n rfl 15 rfl d_Led_rescue_14 ?_
        refine r_getf (v := .ref (a 1)) gf_Led_9 0 rfl rfl 18 rfl d_Led_rescue_15 ?_
        refine r_iload_n rfl 19 rfl d_Led_rescue_18 ?_
        refine r_callSn1 (st2 := [.int (σ 1 k), .int (nI k), .ref (a 0)]) (w2 := LW X a ν σ τ) lk_HB_at ln_Led_35 (c_at X _ 6 k (σ 1) (by omega) (by decide)) (by first | decide | omega) rfl rfl (Nat.le_of_ble_eq_true rfl) (Nat.le_of_ble_eq_true rfl) (Nat.le_of_ble_eq_true rfl) [1] rfl rfl rfl rfl rfl 22 rfl d_Led_rescue_19 ?_
        refine r_iconst (nI 0) rfl 23 rfl d_Led_rescue_22 ?_
        refine r_callVA1 (st2 := [.int (bI (cantX (ν 0 3) (σ 1 k) (σ 2) 0 k))]) (w2 := LW X a ν σ τ) lk_Led_cannotPay ln_Led_60 (c_Led_cannotPay X a ν σ τ  k (σ 1 k) 0 (hn6) (by omega) (by decide)) (by first | decide | omega) rfl rfl (Nat.le_of_ble_eq_true rfl) (Nat.le_of_ble_eq_true rfl) (Nat.le_of_ble_eq_true rfl) 0 rfl rfl rfl rfl 26 rfl d_Led_rescue_23 ?_
        refine r_if_eqB 29 35 rfl rfl d_Led_rescue_26 (fun h26 => ?_) (fun h26 => ?_)
        · have eC : crs (ν 0 3) (σ 1) (σ 2) (k + 1) = crs (ν 0 3) (σ 1) (σ 2) k := crs_n h26
          refine r_iinc (ls2 := [some (.ref (a 0)), some (.int (nI (crs (ν 0 3) (σ 1) (σ 2) k))), some (.int (nI (k + 1)))]) (nI (k + 1)) rfl (nI_1 _) 38 rfl d_Led_rescue_35 (by decide) rfl rfl ?_
          refine r_goto 4 rfl d_Led_rescue_38 ?_
          refine Runs.cast (ih2 (k + 1) (by omega) (by omega)) (by rw [eC]; try rfl) rfl (rfl)
        · have eC : crs (ν 0 3) (σ 1) (σ 2) (k + 1) = crs (ν 0 3) (σ 1) (σ 2) k ||| 1 <<< k := if_pos h26
          refine r_iload_n rfl 30 rfl d_Led_rescue_29 ?_
          refine r_iconst (nI 1) rfl 31 rfl d_Led_rescue_30 ?_
          refine r_iload_n rfl 32 rfl d_Led_rescue_31 ?_
          refine r_ishl 33 rfl d_Led_rescue_32 ?_
          refine r_topi (nI (1 <<< k)) (nI_shl (by omega) (one_shl (by omega))) ?_
          refine r_ior 34 rfl d_Led_rescue_33 ?_
          refine r_topi (nI ((crs (ν 0 3) (σ 1) (σ 2) k) ||| (1 <<< k))) (nx_or _ _) ?_
          refine r_istore_n (ls2 := [some (.ref (a 0)), some (.int (nI ((crs (ν 0 3) (σ 1) (σ 2) k) ||| (1 <<< k)))), some (.int (nI k))]) 35 rfl d_Led_rescue_34 (by decide) rfl rfl ?_
          refine r_iinc (ls2 := [some (.ref (a 0)), some (.int (nI ((crs (ν 0 3) (σ 1) (σ 2) k) ||| (1 <<< k)))), some (.int (nI (k + 1)))]) (nI (k + 1)) rfl (nI_1 _) 38 rfl d_Led_rescue_35 (by decide) rfl rfl ?_
          refine r_goto 4 rfl d_Led_rescue_38 ?_
          refine Runs.cast (ih2 (k + 1) (by omega) (by omega)) (by rw [eC]; try rfl) rfl (rfl)
  exact L4_1 _ 0 (by omega) (Nat.lt_succ_self _)
theorem c_Led_gift (X : Xn) (a : Nat → Nat) (ν : Nat → Nat → Nat) (σ : Nat → Nat → Int32) (τ : Nat → Nat → Int64)  (p : Nat) (hn6 : ν 0 3 ≤ 6) (hp : p < 6) : Does X 6 M_Led_gift [.ref (a 0), .int (nI p)] (LW X a ν σ τ) 0 0 (fun (vv : Option Value) (ww : va_W) => vv = some (.int (cgift (ν 0 3) (σ 1) (σ 2) p)) ∧ ww = LW X a ν σ τ) := by
  generalize hQ : (fun (vv : Option Value) (ww : va_W) => vv = some (.int (cgift (ν 0 3) (σ 1) (σ 2) p)) ∧ ww = LW X a ν σ τ) = Q
  refine Does.go rfl (Nat.le_of_ble_eq_true rfl) [some (.ref (a 0)), some (.int (nI p)), none, none] 2 rfl ?_
  refine r_aload_n rfl 1 rfl d_Led_gift_0 ?_
  refine r_iconst (nI 0) rfl 2 rfl d_Led_gift_1 ?_
  refine r_iconst (nI 1) rfl 3 rfl d_Led_gift_2 ?_
  refine r_iload_n rfl 4 rfl d_Led_gift_3 ?_
  refine r_ishl 5 rfl d_Led_gift_4 ?_
  refine r_topi (nI (1 <<< p)) (nI_shl (by omega) (one_shl (by omega))) ?_
  refine r_callVA1 (st2 := [.int (nI (fails (ν 0 3) (rp (σ 1) (1 <<< p)) (σ 2) 0))]) (w2 := LW X a ν σ τ) lk_Led_failing ln_Led_64 (c_Led_failing X a ν σ τ  0 (1 <<< p) (hn6) (by decide) (shl_lt6 hp)) (by first | decide | omega) rfl rfl (Nat.le_of_ble_eq_true rfl) (Nat.le_of_ble_eq_true rfl) (Nat.le_of_ble_eq_true rfl) 0 rfl rfl rfl rfl 8 rfl d_Led_gift_5 ?_
  refine r_istore_n (ls2 := [some (.ref (a 0)), some (.int (nI p)), some (.int (nI (fails (ν 0 3) (rp (σ 1) (1 <<< p)) (σ 2) 0))), none]) 9 rfl d_Led_gift_8 (by decide) rfl rfl ?_
  refine r_aload_n rfl 10 rfl d_Led_gift_9 ?_
  refine r_iload_n rfl 11 rfl d_Led_gift_10 ?_
  refine r_callVA1 (st2 := [.int (osum (σ 2) p (ν 0 3))]) (w2 := LW X a ν σ τ) lk_Led_owesAll ln_Led_50 (c_Led_owesAll X a ν σ τ  p (hn6) (by omega)) (by first | decide | omega) rfl rfl (Nat.le_of_ble_eq_true rfl) (Nat.le_of_ble_eq_true rfl) (Nat.le_of_ble_eq_true rfl) 0 rfl rfl rfl rfl 14 rfl d_Led_gift_11 ?_
  refine r_aload_n rfl 15 rfl d_Led_gift_14 ?_
  refine r_getf (v := .ref (a 1)) gf_Led_9 0 rfl rfl 18 rfl d_Led_gift_15 ?_
  refine r_iload_n rfl 19 rfl d_Led_gift_18 ?_
  refine r_callSn1 (st2 := [.int (σ 1 p), .int (osum (σ 2) p (ν 0 3))]) (w2 := LW X a ν σ τ) lk_HB_at ln_Led_35 (c_at X _ 6 p (σ 1) (by omega) (by decide)) (by first | decide | omega) rfl rfl (Nat.le_of_ble_eq_true rfl) (Nat.le_of_ble_eq_true rfl) (Nat.le_of_ble_eq_true rfl) [1] rfl rfl rfl rfl rfl 22 rfl d_Led_gift_19 ?_
  refine r_isub 23 rfl d_Led_gift_22 ?_
  refine r_aload_n rfl 24 rfl d_Led_gift_23 ?_
  refine r_iload_n rfl 25 rfl d_Led_gift_24 ?_
  refine r_iload_n rfl 26 rfl d_Led_gift_25 ?_
  refine r_callVA1 (st2 := [.int (dsum (σ 2) (fails (ν 0 3) (rp (σ 1) (1 <<< p)) (σ 2) 0) p (ν 0 3)), .int ((osum (σ 2) p (ν 0 3)) - (σ 1 p))]) (w2 := LW X a ν σ τ) lk_Led_owedBy ln_Led_47 (c_Led_owedBy X a ν σ τ  p (fails (ν 0 3) (rp (σ 1) (1 <<< p)) (σ 2) 0) (hn6) (by omega) (fails_lt hn6 (by decide))) (by first | decide | omega) rfl rfl (Nat.le_of_ble_eq_true rfl) (Nat.le_of_ble_eq_true rfl) (Nat.le_of_ble_eq_true rfl) 0 rfl rfl rfl rfl 29 rfl d_Led_gift_26 ?_
  refine r_isub 30 rfl d_Led_gift_29 ?_
  refine r_istore_n (ls2 := [some (.ref (a 0)), some (.int (nI p)), some (.int (nI (fails (ν 0 3) (rp (σ 1) (1 <<< p)) (σ 2) 0))), some (.int (((osum (σ 2) p (ν 0 3)) - (σ 1 p)) - (dsum (σ 2) (fails (ν 0 3) (rp (σ 1) (1 <<< p)) (σ 2) 0) p (ν 0 3))))]) 31 rfl d_Led_gift_30 (by decide) rfl rfl ?_
  refine r_iload_n rfl 32 rfl d_Led_gift_31 ?_
  refine r_sipush (nI 9999) rfl 35 rfl d_Led_gift_32 ?_
  refine r_icmp_le 38 43 rfl rfl d_Led_gift_35 (fun h35 => ?_) (fun h35 => ?_)
  · refine r_iload_n rfl 44 rfl d_Led_gift_43 ?_
    refine r_iconst (nI 0) rfl 45 rfl d_Led_gift_44 ?_
    refine r_mmax (inTB 403 (by decide +kernel) rfl) (by first | decide | omega) (Nat.le_of_ble_eq_true rfl) (Nat.le_of_ble_eq_true rfl) (Nat.le_of_ble_eq_true rfl) 48 rfl d_Led_gift_45 ?_
    exact r_iret rfl (Nat.zero_le _) (Nat.zero_le _) d_Led_gift_48 (by rw [← hQ]; exact ⟨by rw [cgift_f (Int32.not_lt.mpr h35)]; rfl, rfl⟩)
  · refine r_bipush ((-5)) rfl 40 rfl d_Led_gift_38 ?_
    refine r_goto 48 rfl d_Led_gift_40 ?_
    exact r_iret rfl (Nat.zero_le _) (Nat.zero_le _) d_Led_gift_48 (by rw [← hQ]; exact ⟨by rw [cgift_t (Int32.not_le.mp h35)], rfl⟩)
theorem c_Led_ringFrom (X : Xn) (a : Nat → Nat) (ν : Nat → Nat → Nat) (σ : Nat → Nat → Int32) (τ : Nat → Nat → Int64)  (w : Nat) (hn6 : ν 0 3 ≤ 6) (hw : w < ν 0 3) : ∀ (fu : Nat) (p S m : Nat), (p < 6) → (S < 64) → (cz S < fu) → (cz S + m = 6) → Does X (2 + fu) M_Led_ringFrom [.ref (a 0), .int (nI w), .int (nI p), .int (nI S), .int (nI m)] (LW X a ν σ τ) 0 0 (fun (vv : Option Value) (ww : va_W) => vv = some (.int (rf (ν 0 3) (σ 2) w fu p S m)) ∧ ww = LW X a ν σ τ) := by
  intro fu
  induction fu with
  | zero => intro p S m hp hS hc hm; exact absurd hc (Nat.not_lt_zero _)
  | succ fu ihf =>
  intro p S m hp hS hc hm
  generalize hQ : (fun (vv : Option Value) (ww : va_W) => vv = some (.int (rf (ν 0 3) (σ 2) w (fu + 1) p S m)) ∧ ww = LW X a ν σ τ) = Q
  refine Does.go rfl (Nat.le_of_ble_eq_true rfl) [some (.ref (a 0)), some (.int (nI w)), some (.int (nI p)), some (.int (nI S)), some (.int (nI m)), none, none] 2 rfl ?_
  have J21_1 : Runs X (2 + (fu + 1)) M_Led_ringFrom 0 0 Q 21 [some (.ref (a 0)), some (.int (nI w)), some (.int (nI p)), some (.int (nI S)), some (.int (nI m)), none, none] [.int (rbase (σ 2) w p m)] 0 0 (LW X a ν σ τ) := by
    refine r_istore (ls2 := [some (.ref (a 0)), some (.int (nI w)), some (.int (nI p)), some (.int (nI S)), some (.int (nI m)), some (.int (rbase (σ 2) w p m)), none]) 23 rfl d_Led_ringFrom_21 (by decide) rfl rfl ?_
    refine r_iload rfl 25 rfl d_Led_ringFrom_23 ?_
    refine r_bipush (nI 6) rfl 27 rfl d_Led_ringFrom_25 ?_
    refine r_icmp_ltN m 6 (by omega) (by omega) 30 33 rfl rfl d_Led_ringFrom_27 (fun h27 => ?_) (fun h27 => ?_)
    · refine r_iload_n rfl 34 rfl d_Led_ringFrom_33 ?_
      refine r_iconst (nI 1) rfl 35 rfl d_Led_ringFrom_34 ?_
      refine r_iadd 36 rfl d_Led_ringFrom_35 ?_
      refine r_topi (nI (w + 1)) (nI_add _ _) ?_
      refine r_istore (ls2 := [some (.ref (a 0)), some (.int (nI w)), some (.int (nI p)), some (.int (nI S)), some (.int (nI m)), some (.int (rbase (σ 2) w p m)), some (.int (nI (w + 1)))]) 38 rfl d_Led_ringFrom_36 (by decide) rfl rfl ?_
      have L38_2 : ∀ (f : Nat) (k : Nat), (w + 1 + k ≤ ν 0 3 ∨ k = 0) → ν 0 3 - (w + 1 + k) < f → Runs X (2 + (fu + 1)) M_Led_ringFrom 0 0 Q 38 [some (.ref (a 0)), some (.int (nI w)), some (.int (nI p)), some (.int (nI S)), some (.int (nI m)), some (.int (foldN (rstep (ν 0 3) (σ 2) w fu p S m) (rbase (σ 2) w p m) k)), some (.int (nI (w + 1 + k)))] [] 0 0 (LW X a ν σ τ) := by
        intro f
        induction f with
        | zero => intro k hk hmu; exact absurd hmu (Nat.not_lt_zero _)
        | succ f ih3 =>
          intro k hk hmu
          refine r_iload rfl 40 rfl d_Led_ringFrom_38 ?_
          refine r_aload_n rfl 41 rfl d_Led_ringFrom_40 ?_
          refine r_getf (v := .int (nI (ν 0 3))) gf_Led_27 0 rfl rfl 44 rfl d_Led_ringFrom_41 ?_
          refine r_icmp_geN (w + 1 + k) (ν 0 3) (by omega) (by omega) 47 96 rfl rfl d_Led_ringFrom_44 (fun h44 => ?_) (fun h44 => ?_)
          · refine r_iload rfl 98 rfl d_Led_ringFrom_96 ?_
            exact r_iret rfl (Nat.zero_le _) (Nat.zero_le _) d_Led_ringFrom_98 (by rw [← hQ]; exact ⟨by rw [rf_end h44 hk], rfl⟩)
          · refine r_iload_n rfl 48 rfl d_Led_ringFrom_47 ?_
            refine r_iload rfl 50 rfl d_Led_ringFrom_48 ?_
            refine r_callSn1 (st2 := [.int (bI (hb S (w + 1 + k)))]) (w2 := LW X a ν σ τ) lk_HB_hasBit ln_Led_43 (c_hasBit X S (w + 1 + k) (hS) (by omega)) (by first | decide | omega) rfl rfl (Nat.le_of_ble_eq_true rfl) (Nat.le_of_ble_eq_true rfl) (Nat.le_of_ble_eq_true rfl) [] rfl rfl rfl rfl rfl 53 rfl d_Led_ringFrom_50 ?_
            refine r_if_neB 56 90 rfl rfl d_Led_ringFrom_53 (fun h53 => ?_) (fun h53 => ?_)
            · refine r_iinc (ls2 := [some (.ref (a 0)), some (.int (nI w)), some (.int (nI p)), some (.int (nI S)), some (.int (nI m)), some (.int (foldN (rstep (ν 0 3) (σ 2) w fu p S m) (rbase (σ 2) w p m) k)), some (.int (nI ((w + 1 + k) + 1)))]) (nI ((w + 1 + k) + 1)) rfl (nI_1 _) 93 rfl d_Led_ringFrom_90 (by decide) rfl rfl ?_
              refine r_goto 38 rfl d_Led_ringFrom_93 ?_
              refine Runs.cast (ih3 (k + 1) (Or.inl (by omega)) (by omega)) (by rw [foldN, rstep_b (fun z => by rw [hb_1 h53] at z; cases z)]; try rfl) rfl (rfl)
            · refine r_aload_n rfl 57 rfl d_Led_ringFrom_56 ?_
              refine r_iload_n rfl 58 rfl d_Led_ringFrom_57 ?_
              refine r_iload rfl 60 rfl d_Led_ringFrom_58 ?_
              refine r_callVA1 (st2 := [.int ((σ 2) (6 * p + (w + 1 + k)))]) (w2 := LW X a ν σ τ) lk_Led_debt ln_Led_39 (c_Led_debt X a ν σ τ  p (w + 1 + k) (by omega) (by omega)) (by first | decide | omega) rfl rfl (Nat.le_of_ble_eq_true rfl) (Nat.le_of_ble_eq_true rfl) (Nat.le_of_ble_eq_true rfl) 0 rfl rfl rfl rfl 63 rfl d_Led_ringFrom_60 ?_
              refine r_if_le 66 90 rfl rfl d_Led_ringFrom_63 (fun h63 => ?_) (fun h63 => ?_)
              · refine r_iinc (ls2 := [some (.ref (a 0)), some (.int (nI w)), some (.int (nI p)), some (.int (nI S)), some (.int (nI m)), some (.int (foldN (rstep (ν 0 3) (σ 2) w fu p S m) (rbase (σ 2) w p m) k)), some (.int (nI ((w + 1 + k) + 1)))]) (nI ((w + 1 + k) + 1)) rfl (nI_1 _) 93 rfl d_Led_ringFrom_90 (by decide) rfl rfl ?_
                refine r_goto 38 rfl d_Led_ringFrom_93 ?_
                refine Runs.cast (ih3 (k + 1) (Or.inl (by omega)) (by omega)) (by rw [foldN, rstep_d h63]; try rfl) rfl (rfl)
              · refine r_iload rfl 68 rfl d_Led_ringFrom_66 ?_
                refine r_aload_n rfl 69 rfl d_Led_ringFrom_68 ?_
                refine r_iload_n rfl 70 rfl d_Led_ringFrom_69 ?_
                refine r_iload rfl 72 rfl d_Led_ringFrom_70 ?_
                refine r_iload_n rfl 73 rfl d_Led_ringFrom_72 ?_
                refine r_iconst (nI 1) rfl 74 rfl d_Led_ringFrom_73 ?_
                refine r_iload rfl 76 rfl d_Led_ringFrom_74 ?_
                refine r_ishl 77 rfl d_Led_ringFrom_76 ?_
                refine r_topi (nI (1 <<< (w + 1 + k))) (nI_shl (by omega) (one_shl (by omega))) ?_
                refine r_ior 78 rfl d_Led_ringFrom_77 ?_
                refine r_topi (nI (S ||| (1 <<< (w + 1 + k)))) (nx_or _ _) ?_
                refine r_iload rfl 80 rfl d_Led_ringFrom_78 ?_
                refine r_iconst (nI 1) rfl 81 rfl d_Led_ringFrom_80 ?_
                refine r_iadd 82 rfl d_Led_ringFrom_81 ?_
                refine r_topi (nI (m + 1)) (nI_add _ _) ?_
                refine r_callVA1 (st2 := [.int (rf (ν 0 3) (σ 2) w fu (w + 1 + k) (S ||| (1 <<< (w + 1 + k))) (m + 1)), .int (foldN (rstep (ν 0 3) (σ 2) w fu p S m) (rbase (σ 2) w p m) k)]) (w2 := LW X a ν σ τ) lk_Led_ringFrom ln_Led_73 (ihf (w + 1 + k) (S ||| (1 <<< (w + 1 + k))) (m + 1) (by omega) (or_lt hS (by omega)) (by have := cz_or hS (show w + 1 + k < 6 by omega) (hb_0 h53); omega) (by have := cz_or1 hS (show w + 1 + k < 6 by omega) (hb_0 h53); omega)) (by first | decide | omega) rfl rfl (Nat.le_of_ble_eq_true rfl) (Nat.le_of_ble_eq_true rfl) (Nat.le_of_ble_eq_true rfl) 0 rfl rfl rfl rfl 85 rfl d_Led_ringFrom_82 ?_
                refine r_mmax (inTB 403 (by decide +kernel) rfl) (by first | decide | omega) (Nat.le_of_ble_eq_true rfl) (Nat.le_of_ble_eq_true rfl) (Nat.le_of_ble_eq_true rfl) 88 rfl d_Led_ringFrom_85 ?_
                refine r_istore (ls2 := [some (.ref (a 0)), some (.int (nI w)), some (.int (nI p)), some (.int (nI S)), some (.int (nI m)), some (.int (if (foldN (rstep (ν 0 3) (σ 2) w fu p S m) (rbase (σ 2) w p m) k) < (rf (ν 0 3) (σ 2) w fu (w + 1 + k) (S ||| (1 <<< (w + 1 + k))) (m + 1)) then (rf (ν 0 3) (σ 2) w fu (w + 1 + k) (S ||| (1 <<< (w + 1 + k))) (m + 1)) else (foldN (rstep (ν 0 3) (σ 2) w fu p S m) (rbase (σ 2) w p m) k))), some (.int (nI (w + 1 + k)))]) 90 rfl d_Led_ringFrom_88 (by decide) rfl rfl ?_
                refine r_iinc (ls2 := [some (.ref (a 0)), some (.int (nI w)), some (.int (nI p)), some (.int (nI S)), some (.int (nI m)), some (.int (if (foldN (rstep (ν 0 3) (σ 2) w fu p S m) (rbase (σ 2) w p m) k) < (rf (ν 0 3) (σ 2) w fu (w + 1 + k) (S ||| (1 <<< (w + 1 + k))) (m + 1)) then (rf (ν 0 3) (σ 2) w fu (w + 1 + k) (S ||| (1 <<< (w + 1 + k))) (m + 1)) else (foldN (rstep (ν 0 3) (σ 2) w fu p S m) (rbase (σ 2) w p m) k))), some (.int (nI ((w + 1 + k) + 1)))]) (nI ((w + 1 + k) + 1)) rfl (nI_1 _) 93 rfl d_Led_ringFrom_90 (by decide) rfl rfl ?_
                refine r_goto 38 rfl d_Led_ringFrom_93 ?_
                refine Runs.cast (ih3 (k + 1) (Or.inl (by omega)) (by omega)) (by rw [foldN, rstep_t (hb_0 h53) h63]; try rfl) rfl (rfl)
      exact L38_2 _ 0 (Or.inr rfl) (Nat.lt_succ_self _)
    · refine r_iload rfl 32 rfl d_Led_ringFrom_30 ?_
      exact r_iret rfl (Nat.zero_le _) (Nat.zero_le _) d_Led_ringFrom_32 (by rw [← hQ]; exact ⟨by rw [rf_full hS hn6 hw (by omega)], rfl⟩)
  refine r_iload rfl 2 rfl d_Led_ringFrom_0 ?_
  refine r_iconst (nI 1) rfl 3 rfl d_Led_ringFrom_2 ?_
  refine r_icmp_leN m 1 (by omega) (by omega) 6 20 rfl rfl d_Led_ringFrom_3 (fun h3 => ?_) (fun h3 => ?_)
  · refine r_iconst (nI 0) rfl 21 rfl d_Led_ringFrom_20 ?_
    refine r_topi (rbase (σ 2) w p m) ((if_neg (fun z => by omega)).symm) ?_
    exact J21_1  
  · refine r_aload_n rfl 7 rfl d_Led_ringFrom_6 ?_
    refine r_iload_n rfl 8 rfl d_Led_ringFrom_7 ?_
    refine r_iload_n rfl 9 rfl d_Led_ringFrom_8 ?_
    refine r_callVA1 (st2 := [.int ((σ 2) (6 * p + w))]) (w2 := LW X a ν σ τ) lk_Led_debt ln_Led_39 (c_Led_debt X a ν σ τ  p w (by omega) (by omega)) (by first | decide | omega) rfl rfl (Nat.le_of_ble_eq_true rfl) (Nat.le_of_ble_eq_true rfl) (Nat.le_of_ble_eq_true rfl) 0 rfl rfl rfl rfl 12 rfl d_Led_ringFrom_9 ?_
    refine r_if_le 15 20 rfl rfl d_Led_ringFrom_12 (fun h12 => ?_) (fun h12 => ?_)
    · refine r_iconst (nI 0) rfl 21 rfl d_Led_ringFrom_20 ?_
      refine r_topi (rbase (σ 2) w p m) ((if_neg (fun z => absurd z.2 (Int32.not_lt.mpr h12))).symm) ?_
      exact J21_1  
    · refine r_iload rfl 17 rfl d_Led_ringFrom_15 ?_
      refine r_goto 21 rfl d_Led_ringFrom_17 ?_
      refine r_topi (rbase (σ 2) w p m) ((if_pos ⟨h3, Int32.not_le.mp h12⟩).symm) ?_
      exact J21_1  
theorem c_Led_longestRing (X : Xn) (a : Nat → Nat) (ν : Nat → Nat → Nat) (σ : Nat → Nat → Int32) (τ : Nat → Nat → Int64)   (hn6 : ν 0 3 ≤ 6) : Does X 10 M_Led_longestRing [.ref (a 0)] (LW X a ν σ τ) 0 0 (fun (vv : Option Value) (ww : va_W) => vv = some (.int (ringA (ν 0 3) (σ 2) (ν 0 3))) ∧ ww = LW X a ν σ τ) := by
  generalize hQ : (fun (vv : Option Value) (ww : va_W) => vv = some (.int (ringA (ν 0 3) (σ 2) (ν 0 3))) ∧ ww = LW X a ν σ τ) = Q
  refine Does.go rfl (Nat.le_of_ble_eq_true rfl) [some (.ref (a 0)), none, none] 2 rfl ?_
  refine r_iconst (nI 0) rfl 1 rfl d_Led_longestRing_0 ?_
  refine r_istore_n (ls2 := [some (.ref (a 0)), some (.int (nI 0)), none]) 2 rfl d_Led_longestRing_1 (by decide) rfl rfl ?_
  refine r_iconst (nI 0) rfl 3 rfl d_Led_longestRing_2 ?_
  refine r_istore_n (ls2 := [some (.ref (a 0)), some (.int (nI 0)), some (.int (nI 0))]) 4 rfl d_Led_longestRing_3 (by decide) rfl rfl ?_
  have L4_1 : ∀ (f : Nat) (k : Nat), (k ≤ ν 0 3) → ν 0 3 - k < f → Runs X 10 M_Led_longestRing 0 0 Q 4 [some (.ref (a 0)), some (.int (ringA (ν 0 3) (σ 2) k)), some (.int (nI k))] [] 0 0 (LW X a ν σ τ) := by
    intro f
    induction f with
    | zero => intro k hk hmu; exact absurd hmu (Nat.not_lt_zero _)
    | succ f ih2 =>
      intro k hk hmu
      refine r_iload_n rfl 5 rfl d_Led_longestRing_4 ?_
      refine r_aload_n rfl 6 rfl d_Led_longestRing_5 ?_
      refine r_getf (v := .int (nI (ν 0 3))) gf_Led_27 0 rfl rfl 9 rfl d_Led_longestRing_6 ?_
      refine r_icmp_geN k (ν 0 3) (by omega) (by omega) 12 33 rfl rfl d_Led_longestRing_9 (fun h9 => ?_) (fun h9 => ?_)
      · refine r_iload_n rfl 34 rfl d_Led_longestRing_33 ?_
        exact r_iret rfl (Nat.zero_le _) (Nat.zero_le _) d_Led_longestRing_34 (by rw [← hQ]; exact ⟨by rw [show k = ν 0 3 by omega], rfl⟩)
      · refine r_iload_n rfl 13 rfl d_Led_longestRing_12 ?_
        refine r_aload_n rfl 14 rfl d_Led_longestRing_13 ?_
        refine r_iload_n rfl 15 rfl d_Led_longestRing_14 ?_
        refine r_iload_n rfl 16 rfl d_Led_longestRing_15 ?_
        refine r_iconst (nI 1) rfl 17 rfl d_Led_longestRing_16 ?_
        refine r_iload_n rfl 18 rfl d_Led_longestRing_17 ?_
        refine r_ishl 19 rfl d_Led_longestRing_18 ?_
        refine r_topi (nI (1 <<< k)) (nI_shl (by omega) (one_shl (by omega))) ?_
        refine r_iconst (nI 1) rfl 20 rfl d_Led_longestRing_19 ?_
        refine r_callVA1 (st2 := [.int (rf (ν 0 3) (σ 2) k 7 k (1 <<< k) 1), .int (ringA (ν 0 3) (σ 2) k)]) (w2 := LW X a ν σ τ) lk_Led_ringFrom ln_Led_73 (c_Led_ringFrom X a ν σ τ k hn6 (by omega) 7 k (1 <<< k) 1 (by omega) (shl_lt6 (by omega)) (Nat.lt_of_le_of_lt (cz_le _) (by decide)) (cz_one (by omega))) (by first | decide | omega) rfl rfl (Nat.le_of_ble_eq_true rfl) (Nat.le_of_ble_eq_true rfl) (Nat.le_of_ble_eq_true rfl) 0 rfl rfl rfl rfl 23 rfl d_Led_longestRing_20 ?_
        refine r_mmax (inTB 403 (by decide +kernel) rfl) (by first | decide | omega) (Nat.le_of_ble_eq_true rfl) (Nat.le_of_ble_eq_true rfl) (Nat.le_of_ble_eq_true rfl) 26 rfl d_Led_longestRing_23 ?_
        refine r_istore_n (ls2 := [some (.ref (a 0)), some (.int (if (ringA (ν 0 3) (σ 2) k) < (rf (ν 0 3) (σ 2) k 7 k (1 <<< k) 1) then (rf (ν 0 3) (σ 2) k 7 k (1 <<< k) 1) else (ringA (ν 0 3) (σ 2) k))), some (.int (nI k))]) 27 rfl d_Led_longestRing_26 (by decide) rfl rfl ?_
        refine r_iinc (ls2 := [some (.ref (a 0)), some (.int (if (ringA (ν 0 3) (σ 2) k) < (rf (ν 0 3) (σ 2) k 7 k (1 <<< k) 1) then (rf (ν 0 3) (σ 2) k 7 k (1 <<< k) 1) else (ringA (ν 0 3) (σ 2) k))), some (.int (nI (k + 1)))]) (nI (k + 1)) rfl (nI_1 _) 30 rfl d_Led_longestRing_27 (by decide) rfl rfl ?_
        refine r_goto 4 rfl d_Led_longestRing_30 ?_
        exact ih2 (k + 1) (by omega) (by omega)
  exact L4_1 _ 0 (by omega) (Nat.lt_succ_self _)
theorem c_Led_payments (X : Xn) (a : Nat → Nat) (ν : Nat → Nat → Nat) (σ : Nat → Nat → Int32) (τ : Nat → Nat → Int64)   (hn6 : ν 0 3 ≤ 6) : Does X 6 M_Led_payments [.ref (a 0)] (LW X a ν σ τ) 0 0 (fun (vv : Option Value) (ww : va_W) => vv = some (.int (nI (ν 0 3) - ctab (ν 0 3) (σ 2) (σ 3) (1 <<< ν 0 3 - 1) (1 <<< ν 0 3 - 1))) ∧ ww = LW X a ν (u2 σ 3 (ctab (ν 0 3) (σ 2) (σ 3) (1 <<< ν 0 3 - 1))) τ) := by
  generalize hQ : (fun (vv : Option Value) (ww : va_W) => vv = some (.int (nI (ν 0 3) - ctab (ν 0 3) (σ 2) (σ 3) (1 <<< ν 0 3 - 1) (1 <<< ν 0 3 - 1))) ∧ ww = LW X a ν (u2 σ 3 (ctab (ν 0 3) (σ 2) (σ 3) (1 <<< ν 0 3 - 1))) τ) = Q
  refine Does.go rfl (Nat.le_of_ble_eq_true rfl) [some (.ref (a 0)), none, none, none, none, none] 5 rfl ?_
  have hK : 1 <<< ν 0 3 ≤ 64 := shl_lt hn6
  have hK1 : 1 ≤ 1 <<< ν 0 3 := shl_pos _
  refine r_iconst (nI 1) rfl 1 rfl d_Led_payments_0 ?_
  refine r_aload_n rfl 2 rfl d_Led_payments_1 ?_
  refine r_getf (v := .int (nI (ν 0 3))) gf_Led_27 0 rfl rfl 5 rfl d_Led_payments_2 ?_
  refine r_ishl 6 rfl d_Led_payments_5 ?_
  refine r_topi (nI (1 <<< (ν 0 3))) (nI_shl (by omega) (one_shl (by omega))) ?_
  refine r_istore_n (ls2 := [some (.ref (a 0)), some (.int (nI (1 <<< (ν 0 3)))), none, none, none, none]) 7 rfl d_Led_payments_6 (by decide) rfl rfl ?_
  refine r_iconst (nI 1) rfl 8 rfl d_Led_payments_7 ?_
  refine r_istore_n (ls2 := [some (.ref (a 0)), some (.int (nI (1 <<< (ν 0 3)))), some (.int (nI 1)), none, none, none]) 9 rfl d_Led_payments_8 (by decide) rfl rfl ?_
  have L9_1 : ∀ (f : Nat) (s : Nat), (s + 1 ≤ 1 <<< ν 0 3) → 1 <<< ν 0 3 - s < f → Runs X 6 M_Led_payments 0 0 Q 9 [some (.ref (a 0)), some (.int (nI (1 <<< ν 0 3))), some (.int (nI (s + 1))), none, none, none] [] 0 0 (LW X a ν (u2 σ 3 (ctab (ν 0 3) (σ 2) (σ 3) s)) τ) := by
    intro f
    induction f with
    | zero => intro s hs hmu; exact absurd hmu (Nat.not_lt_zero _)
    | succ f ih2 =>
      intro s hs hmu
      refine r_iload_n rfl 10 rfl d_Led_payments_9 ?_
      refine r_iload_n rfl 11 rfl d_Led_payments_10 ?_
      refine r_icmp_geN (s + 1) (1 <<< ν 0 3) (by omega) (shl_lt31 (by omega)) 14 101 rfl rfl d_Led_payments_11 (fun h11 => ?_) (fun h11 => ?_)
      · refine r_aload_n rfl 102 rfl d_Led_payments_101 ?_
        refine r_getf (v := .int (nI (ν 0 3))) gf_Led_27 0 rfl rfl 105 rfl d_Led_payments_102 ?_
        refine r_aload_n rfl 106 rfl d_Led_payments_105 ?_
        refine r_getf (v := .ref (a 3)) gf_Led_18 0 rfl rfl 109 rfl d_Led_payments_106 ?_
        refine r_iload_n rfl 110 rfl d_Led_payments_109 ?_
        refine r_iconst (nI 1) rfl 111 rfl d_Led_payments_110 ?_
        refine r_isub 112 rfl d_Led_payments_111 ?_
        refine r_topi (nI (1 <<< ν 0 3 - 1)) (pk_sub hK1) ?_
        refine r_callSn1 (st2 := [.int ((ctab (ν 0 3) (σ 2) (σ 3) s) (1 <<< ν 0 3 - 1)), .int (nI (ν 0 3))]) (w2 := LW X a ν (u2 σ 3 (ctab (ν 0 3) (σ 2) (σ 3) s)) τ) lk_HB_at ln_Led_35 (c_at X _ 64 (1 <<< ν 0 3 - 1) (ctab (ν 0 3) (σ 2) (σ 3) s) (by omega) (by decide)) (by first | decide | omega) rfl rfl (Nat.le_of_ble_eq_true rfl) (Nat.le_of_ble_eq_true rfl) (Nat.le_of_ble_eq_true rfl) [3] rfl rfl rfl rfl rfl 115 rfl d_Led_payments_112 ?_
        refine r_isub 116 rfl d_Led_payments_115 ?_
        exact r_iret rfl (Nat.zero_le _) (Nat.zero_le _) d_Led_payments_116 (by rw [← hQ]; exact ⟨by rw [show s = 1 <<< ν 0 3 - 1 by omega], by rw [show s = 1 <<< ν 0 3 - 1 by omega]⟩)
      · refine r_iconst (nI 0) rfl 15 rfl d_Led_payments_14 ?_
        refine r_istore_n (ls2 := [some (.ref (a 0)), some (.int (nI (1 <<< ν 0 3))), some (.int (nI (s + 1))), some (.int (nI 0)), none, none]) 16 rfl d_Led_payments_15 (by decide) rfl rfl ?_
        refine r_iconst (nI 0) rfl 17 rfl d_Led_payments_16 ?_
        refine r_istore (ls2 := [some (.ref (a 0)), some (.int (nI (1 <<< ν 0 3))), some (.int (nI (s + 1))), some (.int (nI 0)), some (.int (nI 0)), none]) 19 rfl d_Led_payments_17 (by decide) rfl rfl ?_
        refine r_iconst (nI 0) rfl 20 rfl d_Led_payments_19 ?_
        refine r_istore (ls2 := [some (.ref (a 0)), some (.int (nI (1 <<< ν 0 3))), some (.int (nI (s + 1))), some (.int (nI 0)), some (.int (nI 0)), some (.int (nI 0))]) 22 rfl d_Led_payments_20 (by decide) rfl rfl ?_
        have L22_3 : ∀ (f : Nat) (k : Nat), (k ≤ ν 0 3) → ν 0 3 - k < f → Runs X 6 M_Led_payments 0 0 Q 22 [some (.ref (a 0)), some (.int (nI (1 <<< ν 0 3))), some (.int (nI (s + 1))), some (.int (cmost (ctab (ν 0 3) (σ 2) (σ 3) s) (s + 1) k)), some (.int (bsum (ν 0 3) (σ 2) (s + 1) k)), some (.int (nI k))] [] 0 0 (LW X a ν (u2 σ 3 (ctab (ν 0 3) (σ 2) (σ 3) s)) τ) := by
          intro f
          induction f with
          | zero => intro k hk hmu; exact absurd hmu (Nat.not_lt_zero _)
          | succ f ih4 =>
            intro k hk hmu
            refine r_iload rfl 24 rfl d_Led_payments_22 ?_
            refine r_aload_n rfl 25 rfl d_Led_payments_24 ?_
            refine r_getf (v := .int (nI (ν 0 3))) gf_Led_27 0 rfl rfl 28 rfl d_Led_payments_25 ?_
            refine r_icmp_geN k (ν 0 3) (by omega) (by omega) 31 75 rfl rfl d_Led_payments_28 (fun h28 => ?_) (fun h28 => ?_)
            · have ek : k = ν 0 3 := by omega
              refine r_aload_n rfl 76 rfl d_Led_payments_75 ?_
              refine r_getf (v := .ref (a 3)) gf_Led_18 0 rfl rfl 79 rfl d_Led_payments_76 ?_
              refine r_iload_n rfl 80 rfl d_Led_payments_79 ?_
              refine r_iload rfl 82 rfl d_Led_payments_80 ?_
              refine r_if_ne 85 91 rfl rfl d_Led_payments_82 (fun h82 => ?_) (fun h82 => ?_)
              · rw [ek] at h82
                refine r_iload_n rfl 92 rfl d_Led_payments_91 ?_
                refine r_callSn1 (st2 := []) (w2 := LW X a ν (u2 (u2 σ 3 (ctab (ν 0 3) (σ 2) (σ 3) s)) 3 (upd (ctab (ν 0 3) (σ 2) (σ 3) s) (s + 1) (cmost (ctab (ν 0 3) (σ 2) (σ 3) s) (s + 1) k))) τ) lk_HB_put ln_Led_31 (c_put X _ 64 (s + 1) (cmost (ctab (ν 0 3) (σ 2) (σ 3) s) (s + 1) k) (ctab (ν 0 3) (σ 2) (σ 3) s) (by omega) (by decide)) (by first | decide | omega) rfl rfl (Nat.le_of_ble_eq_true rfl) (Nat.le_of_ble_eq_true rfl) (Nat.le_of_ble_eq_true rfl) [3] rfl rfl rfl rfl rfl 95 rfl d_Led_payments_92 ?_
                refine r_iinc (ls2 := [some (.ref (a 0)), some (.int (nI (1 <<< ν 0 3))), some (.int (nI ((s + 1) + 1))), some (.int (cmost (ctab (ν 0 3) (σ 2) (σ 3) s) (s + 1) k)), some (.int (bsum (ν 0 3) (σ 2) (s + 1) k)), some (.int (nI k))]) (nI ((s + 1) + 1)) rfl (nI_1 _) 98 rfl d_Led_payments_95 (by decide) rfl rfl ?_
                refine r_goto 9 rfl d_Led_payments_98 ?_
                refine r_forget (ls2 := [some (.ref (a 0)), some (.int (nI (1 <<< ν 0 3))), some (.int (nI ((s + 1) + 1))), none, some (.int (bsum (ν 0 3) (σ 2) (s + 1) k)), some (.int (nI k))]) 3 rfl ?_
                refine r_forget (ls2 := [some (.ref (a 0)), some (.int (nI (1 <<< ν 0 3))), some (.int (nI ((s + 1) + 1))), none, none, some (.int (nI k))]) 4 rfl ?_
                refine r_forget (ls2 := [some (.ref (a 0)), some (.int (nI (1 <<< ν 0 3))), some (.int (nI ((s + 1) + 1))), none, none, none]) 5 rfl ?_
                refine Runs.cast (ih2 (s + 1) (by omega) (by omega)) (rfl) rfl (by rw [u2_u2, ek, ctab, if_neg h82]; try rfl)
              · rw [ek] at h82
                refine r_iload_n rfl 86 rfl d_Led_payments_85 ?_
                refine r_iconst (nI 1) rfl 87 rfl d_Led_payments_86 ?_
                refine r_iadd 88 rfl d_Led_payments_87 ?_
                refine r_goto 92 rfl d_Led_payments_88 ?_
                refine r_callSn1 (st2 := []) (w2 := LW X a ν (u2 (u2 σ 3 (ctab (ν 0 3) (σ 2) (σ 3) s)) 3 (upd (ctab (ν 0 3) (σ 2) (σ 3) s) (s + 1) ((cmost (ctab (ν 0 3) (σ 2) (σ 3) s) (s + 1) k) + (nI 1)))) τ) lk_HB_put ln_Led_31 (c_put X _ 64 (s + 1) ((cmost (ctab (ν 0 3) (σ 2) (σ 3) s) (s + 1) k) + (nI 1)) (ctab (ν 0 3) (σ 2) (σ 3) s) (by omega) (by decide)) (by first | decide | omega) rfl rfl (Nat.le_of_ble_eq_true rfl) (Nat.le_of_ble_eq_true rfl) (Nat.le_of_ble_eq_true rfl) [3] rfl rfl rfl rfl rfl 95 rfl d_Led_payments_92 ?_
                refine r_iinc (ls2 := [some (.ref (a 0)), some (.int (nI (1 <<< ν 0 3))), some (.int (nI ((s + 1) + 1))), some (.int (cmost (ctab (ν 0 3) (σ 2) (σ 3) s) (s + 1) k)), some (.int (bsum (ν 0 3) (σ 2) (s + 1) k)), some (.int (nI k))]) (nI ((s + 1) + 1)) rfl (nI_1 _) 98 rfl d_Led_payments_95 (by decide) rfl rfl ?_
                refine r_goto 9 rfl d_Led_payments_98 ?_
                refine r_forget (ls2 := [some (.ref (a 0)), some (.int (nI (1 <<< ν 0 3))), some (.int (nI ((s + 1) + 1))), none, some (.int (bsum (ν 0 3) (σ 2) (s + 1) k)), some (.int (nI k))]) 3 rfl ?_
                refine r_forget (ls2 := [some (.ref (a 0)), some (.int (nI (1 <<< ν 0 3))), some (.int (nI ((s + 1) + 1))), none, none, some (.int (nI k))]) 4 rfl ?_
                refine r_forget (ls2 := [some (.ref (a 0)), some (.int (nI (1 <<< ν 0 3))), some (.int (nI ((s + 1) + 1))), none, none, none]) 5 rfl ?_
                refine Runs.cast (ih2 (s + 1) (by omega) (by omega)) (rfl) rfl (by rw [u2_u2, ek, ctab, if_pos h82]; try rfl)
            · refine r_iload_n rfl 32 rfl d_Led_payments_31 ?_
              refine r_iload rfl 34 rfl d_Led_payments_32 ?_
              refine r_callSn1 (st2 := [.int (bI (hb (s + 1) k))]) (w2 := LW X a ν (u2 σ 3 (ctab (ν 0 3) (σ 2) (σ 3) s)) τ) lk_HB_hasBit ln_Led_43 (c_hasBit X (s + 1) k (by omega) (by omega)) (by first | decide | omega) rfl rfl (Nat.le_of_ble_eq_true rfl) (Nat.le_of_ble_eq_true rfl) (Nat.le_of_ble_eq_true rfl) [] rfl rfl rfl rfl rfl 37 rfl d_Led_payments_34 ?_
              refine r_if_eqB 40 69 rfl rfl d_Led_payments_37 (fun h37 => ?_) (fun h37 => ?_)
              · have eC : cmost (ctab (ν 0 3) (σ 2) (σ 3) s) (s + 1) (k + 1) = cmost (ctab (ν 0 3) (σ 2) (σ 3) s) (s + 1) k := cm_n (hb_0 h37)
                have eB : bsum (ν 0 3) (σ 2) (s + 1) (k + 1) = bsum (ν 0 3) (σ 2) (s + 1) k := bs_n (hb_0 h37)
                refine r_iinc (ls2 := [some (.ref (a 0)), some (.int (nI (1 <<< ν 0 3))), some (.int (nI (s + 1))), some (.int (cmost (ctab (ν 0 3) (σ 2) (σ 3) s) (s + 1) k)), some (.int (bsum (ν 0 3) (σ 2) (s + 1) k)), some (.int (nI (k + 1)))]) (nI (k + 1)) rfl (nI_1 _) 72 rfl d_Led_payments_69 (by decide) rfl rfl ?_
                refine r_goto 22 rfl d_Led_payments_72 ?_
                refine Runs.cast (ih4 (k + 1) (by omega) (by omega)) (by rw [eC, eB]; try rfl) rfl (rfl)
              · have eC := cm_y (t := ctab (ν 0 3) (σ 2) (σ 3) s) (S := s + 1) (k := k) (hb_1 h37)
                have eB := bs_y (n := ν 0 3) (de := σ 2) (S := s + 1) (k := k) (hb_1 h37)
                refine r_iload rfl 42 rfl d_Led_payments_40 ?_
                refine r_aload_n rfl 43 rfl d_Led_payments_42 ?_
                refine r_iload rfl 45 rfl d_Led_payments_43 ?_
                refine r_callVA1 (st2 := [.int (bal (ν 0 3) (σ 2) k), .int (bsum (ν 0 3) (σ 2) (s + 1) k)]) (w2 := LW X a ν (u2 σ 3 (ctab (ν 0 3) (σ 2) (σ 3) s)) τ) lk_Led_balance ln_Led_70 (c_Led_balance X a ν (u2 σ 3 (ctab (ν 0 3) (σ 2) (σ 3) s)) τ  k (hn6) (by omega)) (by first | decide | omega) rfl rfl (Nat.le_of_ble_eq_true rfl) (Nat.le_of_ble_eq_true rfl) (Nat.le_of_ble_eq_true rfl) 0 rfl rfl rfl rfl 48 rfl d_Led_payments_45 ?_
                refine r_iadd 49 rfl d_Led_payments_48 ?_
                refine r_istore (ls2 := [some (.ref (a 0)), some (.int (nI (1 <<< ν 0 3))), some (.int (nI (s + 1))), some (.int (cmost (ctab (ν 0 3) (σ 2) (σ 3) s) (s + 1) k)), some (.int ((bsum (ν 0 3) (σ 2) (s + 1) k) + (bal (ν 0 3) (σ 2) k))), some (.int (nI k))]) 51 rfl d_Led_payments_49 (by decide) rfl rfl ?_
                refine r_iload_n rfl 52 rfl d_Led_payments_51 ?_
                refine r_aload_n rfl 53 rfl d_Led_payments_52 ?_
                refine r_getf (v := .ref (a 3)) gf_Led_18 0 rfl rfl 56 rfl d_Led_payments_53 ?_
                refine r_iload_n rfl 57 rfl d_Led_payments_56 ?_
                refine r_iconst (nI 1) rfl 58 rfl d_Led_payments_57 ?_
                refine r_iload rfl 60 rfl d_Led_payments_58 ?_
                refine r_ishl 61 rfl d_Led_payments_60 ?_
                refine r_topi (nI (1 <<< k)) (nI_shl (by omega) (one_shl (by omega))) ?_
                refine r_ixor 62 rfl d_Led_payments_61 ?_
                refine r_topi (nI ((s + 1) ^^^ (1 <<< k))) (nx_xor _ _) ?_
                refine r_callSn1 (st2 := [.int ((ctab (ν 0 3) (σ 2) (σ 3) s) ((s + 1) ^^^ (1 <<< k))), .int (cmost (ctab (ν 0 3) (σ 2) (σ 3) s) (s + 1) k)]) (w2 := LW X a ν (u2 σ 3 (ctab (ν 0 3) (σ 2) (σ 3) s)) τ) lk_HB_at ln_Led_35 (c_at X _ 64 ((s + 1) ^^^ (1 <<< k)) (ctab (ν 0 3) (σ 2) (σ 3) s) (xor_lt (by omega) (by omega)) (by decide)) (by first | decide | omega) rfl rfl (Nat.le_of_ble_eq_true rfl) (Nat.le_of_ble_eq_true rfl) (Nat.le_of_ble_eq_true rfl) [3] rfl rfl rfl rfl rfl 65 rfl d_Led_payments_62 ?_
                refine r_mmax (inTB 403 (by decide +kernel) rfl) (by first | decide | omega) (Nat.le_of_ble_eq_true rfl) (Nat.le_of_ble_eq_true rfl) (Nat.le_of_ble_eq_true rfl) 68 rfl d_Led_payments_65 ?_
                refine r_istore_n (ls2 := [some (.ref (a 0)), some (.int (nI (1 <<< ν 0 3))), some (.int (nI (s + 1))), some (.int (if (cmost (ctab (ν 0 3) (σ 2) (σ 3) s) (s + 1) k) < ((ctab (ν 0 3) (σ 2) (σ 3) s) ((s + 1) ^^^ (1 <<< k))) then ((ctab (ν 0 3) (σ 2) (σ 3) s) ((s + 1) ^^^ (1 <<< k))) else (cmost (ctab (ν 0 3) (σ 2) (σ 3) s) (s + 1) k))), some (.int ((bsum (ν 0 3) (σ 2) (s + 1) k) + (bal (ν 0 3) (σ 2) k))), some (.int (nI k))]) 69 rfl d_Led_payments_68 (by decide) rfl rfl ?_
                refine r_iinc (ls2 := [some (.ref (a 0)), some (.int (nI (1 <<< ν 0 3))), some (.int (nI (s + 1))), some (.int (if (cmost (ctab (ν 0 3) (σ 2) (σ 3) s) (s + 1) k) < ((ctab (ν 0 3) (σ 2) (σ 3) s) ((s + 1) ^^^ (1 <<< k))) then ((ctab (ν 0 3) (σ 2) (σ 3) s) ((s + 1) ^^^ (1 <<< k))) else (cmost (ctab (ν 0 3) (σ 2) (σ 3) s) (s + 1) k))), some (.int ((bsum (ν 0 3) (σ 2) (s + 1) k) + (bal (ν 0 3) (σ 2) k))), some (.int (nI (k + 1)))]) (nI (k + 1)) rfl (nI_1 _) 72 rfl d_Led_payments_69 (by decide) rfl rfl ?_
                refine r_goto 22 rfl d_Led_payments_72 ?_
                refine Runs.cast (ih4 (k + 1) (by omega) (by omega)) (by rw [eC, eB]; try rfl) rfl (rfl)
        exact L22_3 _ 0 (by omega) (Nat.lt_succ_self _)
  refine Runs.cast (L9_1 _ 0 (by omega) (Nat.lt_succ_self _)) (rfl) rfl (by rw [show ctab (ν 0 3) (σ 2) (σ 3) 0 = σ 3 from rfl, u2_self])
theorem c_Led_pay (X : Xn) (a : Nat → Nat) (ν : Nat → Nat → Nat) (σ : Nat → Nat → Int32) (τ : Nat → Nat → Int64)  (p : Nat) (q : Nat) (hp : p < 6) (hq : q < 6) : Does X 3 M_Led_pay [.ref (a 0), .int (nI p), .int (nI q)] (LW X a ν σ τ) 0 0 (fun (vv : Option Value) (ww : va_W) => vv = none ∧ ww = LW X a ν (u2 (u2 σ 1 ((payS p ((σ 1), (σ 2)) q).1)) 2 ((payS p ((σ 1), (σ 2)) q).2)) τ) := by
  generalize hQ : (fun (vv : Option Value) (ww : va_W) => vv = none ∧ ww = LW X a ν (u2 (u2 σ 1 ((payS p ((σ 1), (σ 2)) q).1)) 2 ((payS p ((σ 1), (σ 2)) q).2)) τ) = Q
  refine Does.go rfl (Nat.le_of_ble_eq_true rfl) [some (.ref (a 0)), some (.int (nI p)), some (.int (nI q)), none] 1 rfl ?_
  refine r_aload_n rfl 1 rfl d_Led_pay_0 ?_
  refine r_iload_n rfl 2 rfl d_Led_pay_1 ?_
  refine r_iload_n rfl 3 rfl d_Led_pay_2 ?_
  refine r_callVA1 (st2 := [.int ((σ 2) (6 * p + q))]) (w2 := LW X a ν σ τ) lk_Led_debt ln_Led_39 (c_Led_debt X a ν σ τ  p q (by omega) (by omega)) (by first | decide | omega) rfl rfl (Nat.le_of_ble_eq_true rfl) (Nat.le_of_ble_eq_true rfl) (Nat.le_of_ble_eq_true rfl) 0 rfl rfl rfl rfl 6 rfl d_Led_pay_3 ?_
  refine r_aload_n rfl 7 rfl d_Led_pay_6 ?_
  refine r_getf (v := .ref (a 1)) gf_Led_9 0 rfl rfl 10 rfl d_Led_pay_7 ?_
  refine r_iload_n rfl 11 rfl d_Led_pay_10 ?_
  refine r_callSn1 (st2 := [.int (σ 1 p), .int ((σ 2) (6 * p + q))]) (w2 := LW X a ν σ τ) lk_HB_at ln_Led_35 (c_at X _ 6 p (σ 1) (by omega) (by decide)) (by first | decide | omega) rfl rfl (Nat.le_of_ble_eq_true rfl) (Nat.le_of_ble_eq_true rfl) (Nat.le_of_ble_eq_true rfl) [1] rfl rfl rfl rfl rfl 14 rfl d_Led_pay_11 ?_
  refine r_mmin (inTB 727 (by decide +kernel) rfl) (by first | decide | omega) (Nat.le_of_ble_eq_true rfl) (Nat.le_of_ble_eq_true rfl) (Nat.le_of_ble_eq_true rfl) 17 rfl d_Led_pay_14 ?_
  refine r_topi (mn (σ 1 p) (σ 2 (6 * p + q))) (mn_comm _ _) ?_
  refine r_istore_n (ls2 := [some (.ref (a 0)), some (.int (nI p)), some (.int (nI q)), some (.int (mn (σ 1 p) (σ 2 (6 * p + q))))]) 18 rfl d_Led_pay_17 (by decide) rfl rfl ?_
  refine r_aload_n rfl 19 rfl d_Led_pay_18 ?_
  refine r_iload_n rfl 20 rfl d_Led_pay_19 ?_
  refine r_iload_n rfl 21 rfl d_Led_pay_20 ?_
  refine r_aload_n rfl 22 rfl d_Led_pay_21 ?_
  refine r_iload_n rfl 23 rfl d_Led_pay_22 ?_
  refine r_iload_n rfl 24 rfl d_Led_pay_23 ?_
  refine r_callVA1 (st2 := [.int ((σ 2) (6 * p + q)), .int (nI q), .int (nI p), .ref (a 0)]) (w2 := LW X a ν σ τ) lk_Led_debt ln_Led_39 (c_Led_debt X a ν σ τ  p q (by omega) (by omega)) (by first | decide | omega) rfl rfl (Nat.le_of_ble_eq_true rfl) (Nat.le_of_ble_eq_true rfl) (Nat.le_of_ble_eq_true rfl) 0 rfl rfl rfl rfl 27 rfl d_Led_pay_24 ?_
  refine r_iload_n rfl 28 rfl d_Led_pay_27 ?_
  refine r_isub 29 rfl d_Led_pay_28 ?_
  refine r_callVA1 (st2 := []) (w2 := LW X a ν (u2 σ 2 (upd (σ 2) (6 * p + q) (((σ 2) (6 * p + q)) - (mn (σ 1 p) (σ 2 (6 * p + q)))))) τ) lk_Led_setDebt ln_Led_81 (c_Led_setDebt X a ν σ τ  p q (((σ 2) (6 * p + q)) - (mn (σ 1 p) (σ 2 (6 * p + q)))) (by omega) (by omega)) (by first | decide | omega) rfl rfl (Nat.le_of_ble_eq_true rfl) (Nat.le_of_ble_eq_true rfl) (Nat.le_of_ble_eq_true rfl) 0 rfl rfl rfl rfl 32 rfl d_Led_pay_29 ?_
  refine r_aload_n rfl 33 rfl d_Led_pay_32 ?_
  refine r_getf (v := .ref (a 1)) gf_Led_9 0 rfl rfl 36 rfl d_Led_pay_33 ?_
  refine r_iload_n rfl 37 rfl d_Led_pay_36 ?_
  refine r_aload_n rfl 38 rfl d_Led_pay_37 ?_
  refine r_getf (v := .ref (a 1)) gf_Led_9 0 rfl rfl 41 rfl d_Led_pay_38 ?_
  refine r_iload_n rfl 42 rfl d_Led_pay_41 ?_
  refine r_callSn1 (st2 := [.int (σ 1 p), .int (nI p), .ref (a 1)]) (w2 := LW X a ν (u2 σ 2 (upd (σ 2) (6 * p + q) (((σ 2) (6 * p + q)) - (mn (σ 1 p) (σ 2 (6 * p + q)))))) τ) lk_HB_at ln_Led_35 (c_at X _ 6 p (σ 1) (by omega) (by decide)) (by first | decide | omega) rfl rfl (Nat.le_of_ble_eq_true rfl) (Nat.le_of_ble_eq_true rfl) (Nat.le_of_ble_eq_true rfl) [1] rfl rfl rfl rfl rfl 45 rfl d_Led_pay_42 ?_
  refine r_iload_n rfl 46 rfl d_Led_pay_45 ?_
  refine r_isub 47 rfl d_Led_pay_46 ?_
  refine r_callSn1 (st2 := []) (w2 := LW X a ν (u2 (u2 σ 2 (upd (σ 2) (6 * p + q) (((σ 2) (6 * p + q)) - (mn (σ 1 p) (σ 2 (6 * p + q)))))) 1 (upd (σ 1) p ((σ 1 p) - (mn (σ 1 p) (σ 2 (6 * p + q)))))) τ) lk_HB_put ln_Led_31 (c_put X _ 6 p ((σ 1 p) - (mn (σ 1 p) (σ 2 (6 * p + q)))) (σ 1) (by omega) (by decide)) (by first | decide | omega) rfl rfl (Nat.le_of_ble_eq_true rfl) (Nat.le_of_ble_eq_true rfl) (Nat.le_of_ble_eq_true rfl) [1] rfl rfl rfl rfl rfl 50 rfl d_Led_pay_47 ?_
  refine r_aload_n rfl 51 rfl d_Led_pay_50 ?_
  refine r_getf (v := .ref (a 1)) gf_Led_9 0 rfl rfl 54 rfl d_Led_pay_51 ?_
  refine r_iload_n rfl 55 rfl d_Led_pay_54 ?_
  refine r_aload_n rfl 56 rfl d_Led_pay_55 ?_
  refine r_getf (v := .ref (a 1)) gf_Led_9 0 rfl rfl 59 rfl d_Led_pay_56 ?_
  refine r_iload_n rfl 60 rfl d_Led_pay_59 ?_
  refine r_callSn1 (st2 := [.int ((upd (σ 1) p ((σ 1 p) - (mn (σ 1 p) (σ 2 (6 * p + q))))) q), .int (nI q), .ref (a 1)]) (w2 := LW X a ν (u2 (u2 σ 2 (upd (σ 2) (6 * p + q) (((σ 2) (6 * p + q)) - (mn (σ 1 p) (σ 2 (6 * p + q)))))) 1 (upd (σ 1) p ((σ 1 p) - (mn (σ 1 p) (σ 2 (6 * p + q)))))) τ) lk_HB_at ln_Led_35 (c_at X _ 6 q (upd (σ 1) p ((σ 1 p) - (mn (σ 1 p) (σ 2 (6 * p + q))))) (by omega) (by decide)) (by first | decide | omega) rfl rfl (Nat.le_of_ble_eq_true rfl) (Nat.le_of_ble_eq_true rfl) (Nat.le_of_ble_eq_true rfl) [1] rfl rfl rfl rfl rfl 63 rfl d_Led_pay_60 ?_
  refine r_iload_n rfl 64 rfl d_Led_pay_63 ?_
  refine r_iadd 65 rfl d_Led_pay_64 ?_
  refine r_sipush (nI 9999) rfl 68 rfl d_Led_pay_65 ?_
  refine r_mmin (inTB 727 (by decide +kernel) rfl) (by first | decide | omega) (Nat.le_of_ble_eq_true rfl) (Nat.le_of_ble_eq_true rfl) (Nat.le_of_ble_eq_true rfl) 71 rfl d_Led_pay_68 ?_
  refine r_topi (mn (nI 9999) (upd (σ 1) p (σ 1 p - mn (σ 1 p) (σ 2 (6 * p + q))) q + mn (σ 1 p) (σ 2 (6 * p + q)))) (mn_comm _ _) ?_
  refine r_callSn1 (st2 := []) (w2 := LW X a ν (u2 (u2 (u2 σ 2 (upd (σ 2) (6 * p + q) (((σ 2) (6 * p + q)) - (mn (σ 1 p) (σ 2 (6 * p + q)))))) 1 (upd (σ 1) p ((σ 1 p) - (mn (σ 1 p) (σ 2 (6 * p + q)))))) 1 (upd (upd (σ 1) p ((σ 1 p) - (mn (σ 1 p) (σ 2 (6 * p + q))))) q (mn (nI 9999) (upd (σ 1) p (σ 1 p - mn (σ 1 p) (σ 2 (6 * p + q))) q + mn (σ 1 p) (σ 2 (6 * p + q)))))) τ) lk_HB_put ln_Led_31 (c_put X _ 6 q (mn (nI 9999) (upd (σ 1) p (σ 1 p - mn (σ 1 p) (σ 2 (6 * p + q))) q + mn (σ 1 p) (σ 2 (6 * p + q)))) (upd (σ 1) p ((σ 1 p) - (mn (σ 1 p) (σ 2 (6 * p + q))))) (by omega) (by decide)) (by first | decide | omega) rfl rfl (Nat.le_of_ble_eq_true rfl) (Nat.le_of_ble_eq_true rfl) (Nat.le_of_ble_eq_true rfl) [1] rfl rfl rfl rfl rfl 74 rfl d_Led_pay_71 ?_
  exact r_vret rfl (Nat.zero_le _) (Nat.zero_le _) d_Led_pay_74 (by rw [← hQ]; exact ⟨rfl, rfl⟩)
theorem c_Led_follow0 (X : Xn) (a : Nat → Nat) (ν : Nat → Nat → Nat) (σ : Nat → Nat → Int32) (τ : Nat → Nat → Int64)  (x : Int32) (hn6 : ν 0 3 ≤ 6) : Does X 4 M_Led_follow [.ref (a 0), .int (nI 0), .int x] (LW X a ν σ τ) 0 0 (fun (vv : Option Value) (ww : va_W) => vv = none ∧ ww = LW X a ν σ τ) := by
  generalize hQ : (fun (vv : Option Value) (ww : va_W) => vv = none ∧ ww = LW X a ν σ τ) = Q
  refine Does.go rfl (Nat.le_of_ble_eq_true rfl) [some (.ref (a 0)), some (.int (nI 0)), some (.int x), none] 1 rfl ?_
  refine r_iconst (nI 0) rfl 1 rfl d_Led_follow_0 ?_
  refine r_istore_n (ls2 := [some (.ref (a 0)), some (.int (nI 0)), some (.int x), some (.int (nI 0))]) 2 rfl d_Led_follow_1 (by decide) rfl rfl ?_
  have L2_1 : ∀ (f : Nat) (k : Nat), (k ≤ ν 0 3) → ν 0 3 - k < f → Runs X 4 M_Led_follow 0 0 Q 2 [some (.ref (a 0)), some (.int (nI 0)), some (.int x), some (.int (nI k))] [] 0 0 (LW X a ν σ τ) := by
    intro f
    induction f with
    | zero => intro k hk hmu; exact absurd hmu (Nat.not_lt_zero _)
    | succ f ih2 =>
      intro k hk hmu
      refine r_iload_n rfl 3 rfl d_Led_follow_2 ?_
      refine r_aload_n rfl 4 rfl d_Led_follow_3 ?_
      refine r_getf (v := .int (nI (ν 0 3))) gf_Led_27 0 rfl rfl 7 rfl d_Led_follow_4 ?_
      refine r_icmp_geN k (ν 0 3) (by omega) (by omega) 10 57 rfl rfl d_Led_follow_7 (fun h7 => ?_) (fun h7 => ?_)
      · exact r_vret rfl (Nat.zero_le _) (Nat.zero_le _) d_Led_follow_57 (by rw [← hQ]; exact ⟨rfl, rfl⟩)
      · refine r_iload_n rfl 11 rfl d_Led_follow_10 ?_
        refine r_iconst (nI 1) rfl 12 rfl d_Led_follow_11 ?_
        refine r_icmp_neN_t 0 1 (by omega) (by omega) 24 rfl d_Led_follow_12 (by decide) ?_
        refine r_iload_n rfl 25 rfl d_Led_follow_24 ?_
        refine r_iconst (nI 2) rfl 26 rfl d_Led_follow_25 ?_
        refine r_icmp_neN_t 0 2 (by omega) (by omega) 39 rfl d_Led_follow_26 (by decide) ?_
        refine r_iload_n rfl 40 rfl d_Led_follow_39 ?_
        refine r_iconst (nI 3) rfl 41 rfl d_Led_follow_40 ?_
        refine r_icmp_neN_t 0 3 (by omega) (by omega) 51 rfl d_Led_follow_41 (by decide) ?_
        refine r_iinc (ls2 := [some (.ref (a 0)), some (.int (nI 0)), some (.int x), some (.int (nI (k + 1)))]) (nI (k + 1)) rfl (nI_1 _) 54 rfl d_Led_follow_51 (by decide) rfl rfl ?_
        refine r_goto 2 rfl d_Led_follow_54 ?_
        exact ih2 (k + 1) (by omega) (by omega)
  exact L2_1 _ 0 (by omega) (Nat.lt_succ_self _)
theorem c_Led_follow1 (X : Xn) (a : Nat → Nat) (ν : Nat → Nat → Nat) (σ : Nat → Nat → Int32) (τ : Nat → Nat → Int64)  (p : Nat) (hn6 : ν 0 3 ≤ 6) (hp : p < 6) : Does X 4 M_Led_follow [.ref (a 0), .int (nI 1), .int (nI p)] (LW X a ν σ τ) 0 0 (fun (vv : Option Value) (ww : va_W) => vv = none ∧ ww = LW X a ν (u2 (u2 σ 1 ((paysN p (σ 1, σ 2) (ν 0 3)).1)) 2 ((paysN p (σ 1, σ 2) (ν 0 3)).2)) τ) := by
  generalize hQ : (fun (vv : Option Value) (ww : va_W) => vv = none ∧ ww = LW X a ν (u2 (u2 σ 1 ((paysN p (σ 1, σ 2) (ν 0 3)).1)) 2 ((paysN p (σ 1, σ 2) (ν 0 3)).2)) τ) = Q
  refine Does.go rfl (Nat.le_of_ble_eq_true rfl) [some (.ref (a 0)), some (.int (nI 1)), some (.int (nI p)), none] 1 rfl ?_
  refine r_iconst (nI 0) rfl 1 rfl d_Led_follow_0 ?_
  refine r_istore_n (ls2 := [some (.ref (a 0)), some (.int (nI 1)), some (.int (nI p)), some (.int (nI 0))]) 2 rfl d_Led_follow_1 (by decide) rfl rfl ?_
  have L2_1 : ∀ (f : Nat) (k : Nat), (k ≤ ν 0 3) → ν 0 3 - k < f → Runs X 4 M_Led_follow 0 0 Q 2 [some (.ref (a 0)), some (.int (nI 1)), some (.int (nI p)), some (.int (nI k))] [] 0 0 (LW X a ν (u2 (u2 σ 1 ((paysN p (σ 1, σ 2) k).1)) 2 ((paysN p (σ 1, σ 2) k).2)) τ) := by
    intro f
    induction f with
    | zero => intro k hk hmu; exact absurd hmu (Nat.not_lt_zero _)
    | succ f ih2 =>
      intro k hk hmu
      refine r_iload_n rfl 3 rfl d_Led_follow_2 ?_
      refine r_aload_n rfl 4 rfl d_Led_follow_3 ?_
      refine r_getf (v := .int (nI (ν 0 3))) gf_Led_27 0 rfl rfl 7 rfl d_Led_follow_4 ?_
      refine r_icmp_geN k (ν 0 3) (by omega) (by omega) 10 57 rfl rfl d_Led_follow_7 (fun h7 => ?_) (fun h7 => ?_)
      · exact r_vret rfl (Nat.zero_le _) (Nat.zero_le _) d_Led_follow_57 (by rw [← hQ]; exact ⟨rfl, by rw [show k = ν 0 3 by omega]⟩)
      · refine r_iload_n rfl 11 rfl d_Led_follow_10 ?_
        refine r_iconst (nI 1) rfl 12 rfl d_Led_follow_11 ?_
        refine r_icmp_neN_f 1 1 (by omega) (by omega) 15 rfl 24 rfl d_Led_follow_12 (by decide) ?_
        refine r_aload_n rfl 16 rfl d_Led_follow_15 ?_
        refine r_iload_n rfl 17 rfl d_Led_follow_16 ?_
        refine r_iload_n rfl 18 rfl d_Led_follow_17 ?_
        refine r_callVA1 (st2 := []) (w2 := LW X a ν (u2 (u2 (u2 (u2 σ 1 ((paysN p (σ 1, σ 2) k).1)) 2 ((paysN p (σ 1, σ 2) k).2)) 1 ((payS p (((paysN p (σ 1, σ 2) k).1), ((paysN p (σ 1, σ 2) k).2)) k).1)) 2 ((payS p (((paysN p (σ 1, σ 2) k).1), ((paysN p (σ 1, σ 2) k).2)) k).2)) τ) lk_Led_pay ln_Led_77 (c_Led_pay X a ν (u2 (u2 σ 1 ((paysN p (σ 1, σ 2) k).1)) 2 ((paysN p (σ 1, σ 2) k).2)) τ  p k (by omega) (by omega)) (by first | decide | omega) rfl rfl (Nat.le_of_ble_eq_true rfl) (Nat.le_of_ble_eq_true rfl) (Nat.le_of_ble_eq_true rfl) 0 rfl rfl rfl rfl 21 rfl d_Led_follow_18 ?_
        refine r_goto 51 rfl d_Led_follow_21 ?_
        refine r_iinc (ls2 := [some (.ref (a 0)), some (.int (nI 1)), some (.int (nI p)), some (.int (nI (k + 1)))]) (nI (k + 1)) rfl (nI_1 _) 54 rfl d_Led_follow_51 (by decide) rfl rfl ?_
        refine r_goto 2 rfl d_Led_follow_54 ?_
        refine Runs.cast (ih2 (k + 1) (by omega) (by omega)) (rfl) rfl (by rw [u2_12]; rfl; try rfl)
  refine Runs.cast (L2_1 _ 0 (by omega) (Nat.lt_succ_self _)) (rfl) rfl (by show LW X a ν σ τ = LW X a ν (u2 (u2 σ 1 (σ 1)) 2 (σ 2)) τ; rw [u2_0])
theorem c_Led_follow2 (X : Xn) (a : Nat → Nat) (ν : Nat → Nat → Nat) (σ : Nat → Nat → Int32) (τ : Nat → Nat → Int64)  (p : Nat) (hn6 : ν 0 3 ≤ 6) (hp : p < 6) : Does X 4 M_Led_follow [.ref (a 0), .int (nI 2), .int (nI p)] (LW X a ν σ τ) 0 0 (fun (vv : Option Value) (ww : va_W) => vv = none ∧ ww = LW X a ν (u2 σ 2 (z2 (σ 2) p (ν 0 3))) τ) := by
  generalize hQ : (fun (vv : Option Value) (ww : va_W) => vv = none ∧ ww = LW X a ν (u2 σ 2 (z2 (σ 2) p (ν 0 3))) τ) = Q
  refine Does.go rfl (Nat.le_of_ble_eq_true rfl) [some (.ref (a 0)), some (.int (nI 2)), some (.int (nI p)), none] 1 rfl ?_
  refine r_iconst (nI 0) rfl 1 rfl d_Led_follow_0 ?_
  refine r_istore_n (ls2 := [some (.ref (a 0)), some (.int (nI 2)), some (.int (nI p)), some (.int (nI 0))]) 2 rfl d_Led_follow_1 (by decide) rfl rfl ?_
  have L2_1 : ∀ (f : Nat) (k : Nat), (k ≤ ν 0 3) → ν 0 3 - k < f → Runs X 4 M_Led_follow 0 0 Q 2 [some (.ref (a 0)), some (.int (nI 2)), some (.int (nI p)), some (.int (nI k))] [] 0 0 (LW X a ν (u2 σ 2 (z2 (σ 2) p k)) τ) := by
    intro f
    induction f with
    | zero => intro k hk hmu; exact absurd hmu (Nat.not_lt_zero _)
    | succ f ih2 =>
      intro k hk hmu
      refine r_iload_n rfl 3 rfl d_Led_follow_2 ?_
      refine r_aload_n rfl 4 rfl d_Led_follow_3 ?_
      refine r_getf (v := .int (nI (ν 0 3))) gf_Led_27 0 rfl rfl 7 rfl d_Led_follow_4 ?_
      refine r_icmp_geN k (ν 0 3) (by omega) (by omega) 10 57 rfl rfl d_Led_follow_7 (fun h7 => ?_) (fun h7 => ?_)
      · exact r_vret rfl (Nat.zero_le _) (Nat.zero_le _) d_Led_follow_57 (by rw [← hQ]; exact ⟨rfl, by rw [show k = ν 0 3 by omega]⟩)
      · refine r_iload_n rfl 11 rfl d_Led_follow_10 ?_
        refine r_iconst (nI 1) rfl 12 rfl d_Led_follow_11 ?_
        refine r_icmp_neN_t 2 1 (by omega) (by omega) 24 rfl d_Led_follow_12 (by decide) ?_
        refine r_iload_n rfl 25 rfl d_Led_follow_24 ?_
        refine r_iconst (nI 2) rfl 26 rfl d_Led_follow_25 ?_
        refine r_icmp_neN_f 2 2 (by omega) (by omega) 29 rfl 39 rfl d_Led_follow_26 (by decide) ?_
        refine r_aload_n rfl 30 rfl d_Led_follow_29 ?_
        refine r_iload_n rfl 31 rfl d_Led_follow_30 ?_
        refine r_iload_n rfl 32 rfl d_Led_follow_31 ?_
        refine r_iconst (nI 0) rfl 33 rfl d_Led_follow_32 ?_
        refine r_callVA1 (st2 := []) (w2 := LW X a ν (u2 (u2 σ 2 (z2 (σ 2) p k)) 2 (upd (z2 (σ 2) p k) (6 * p + k) (nI 0))) τ) lk_Led_setDebt ln_Led_81 (c_Led_setDebt X a ν (u2 σ 2 (z2 (σ 2) p k)) τ  p k (nI 0) (by omega) (by omega)) (by first | decide | omega) rfl rfl (Nat.le_of_ble_eq_true rfl) (Nat.le_of_ble_eq_true rfl) (Nat.le_of_ble_eq_true rfl) 0 rfl rfl rfl rfl 36 rfl d_Led_follow_33 ?_
        refine r_goto 51 rfl d_Led_follow_36 ?_
        refine r_iinc (ls2 := [some (.ref (a 0)), some (.int (nI 2)), some (.int (nI p)), some (.int (nI (k + 1)))]) (nI (k + 1)) rfl (nI_1 _) 54 rfl d_Led_follow_51 (by decide) rfl rfl ?_
        refine r_goto 2 rfl d_Led_follow_54 ?_
        refine Runs.cast (ih2 (k + 1) (by omega) (by omega)) (rfl) rfl (by rw [u2_u2]; rfl; try rfl)
  refine Runs.cast (L2_1 _ 0 (by omega) (Nat.lt_succ_self _)) (rfl) rfl (by rw [show z2 (σ 2) p 0 = σ 2 from rfl, u2_self])
theorem c_Led_follow3 (X : Xn) (a : Nat → Nat) (ν : Nat → Nat → Nat) (σ : Nat → Nat → Int32) (τ : Nat → Nat → Int64)  (p : Nat) (hn6 : ν 0 3 ≤ 6) (hp : p < 6) : Does X 4 M_Led_follow [.ref (a 0), .int (nI 3), .int (nI p)] (LW X a ν σ τ) 0 0 (fun (vv : Option Value) (ww : va_W) => vv = none ∧ ww = LW X a ν (u2 σ 2 (z3 (σ 2) p (ν 0 3))) τ) := by
  generalize hQ : (fun (vv : Option Value) (ww : va_W) => vv = none ∧ ww = LW X a ν (u2 σ 2 (z3 (σ 2) p (ν 0 3))) τ) = Q
  refine Does.go rfl (Nat.le_of_ble_eq_true rfl) [some (.ref (a 0)), some (.int (nI 3)), some (.int (nI p)), none] 1 rfl ?_
  refine r_iconst (nI 0) rfl 1 rfl d_Led_follow_0 ?_
  refine r_istore_n (ls2 := [some (.ref (a 0)), some (.int (nI 3)), some (.int (nI p)), some (.int (nI 0))]) 2 rfl d_Led_follow_1 (by decide) rfl rfl ?_
  have L2_1 : ∀ (f : Nat) (k : Nat), (k ≤ ν 0 3) → ν 0 3 - k < f → Runs X 4 M_Led_follow 0 0 Q 2 [some (.ref (a 0)), some (.int (nI 3)), some (.int (nI p)), some (.int (nI k))] [] 0 0 (LW X a ν (u2 σ 2 (z3 (σ 2) p k)) τ) := by
    intro f
    induction f with
    | zero => intro k hk hmu; exact absurd hmu (Nat.not_lt_zero _)
    | succ f ih2 =>
      intro k hk hmu
      refine r_iload_n rfl 3 rfl d_Led_follow_2 ?_
      refine r_aload_n rfl 4 rfl d_Led_follow_3 ?_
      refine r_getf (v := .int (nI (ν 0 3))) gf_Led_27 0 rfl rfl 7 rfl d_Led_follow_4 ?_
      refine r_icmp_geN k (ν 0 3) (by omega) (by omega) 10 57 rfl rfl d_Led_follow_7 (fun h7 => ?_) (fun h7 => ?_)
      · exact r_vret rfl (Nat.zero_le _) (Nat.zero_le _) d_Led_follow_57 (by rw [← hQ]; exact ⟨rfl, by rw [show k = ν 0 3 by omega]⟩)
      · refine r_iload_n rfl 11 rfl d_Led_follow_10 ?_
        refine r_iconst (nI 1) rfl 12 rfl d_Led_follow_11 ?_
        refine r_icmp_neN_t 3 1 (by omega) (by omega) 24 rfl d_Led_follow_12 (by decide) ?_
        refine r_iload_n rfl 25 rfl d_Led_follow_24 ?_
        refine r_iconst (nI 2) rfl 26 rfl d_Led_follow_25 ?_
        refine r_icmp_neN_t 3 2 (by omega) (by omega) 39 rfl d_Led_follow_26 (by decide) ?_
        refine r_iload_n rfl 40 rfl d_Led_follow_39 ?_
        refine r_iconst (nI 3) rfl 41 rfl d_Led_follow_40 ?_
        refine r_icmp_neN_f 3 3 (by omega) (by omega) 44 rfl 51 rfl d_Led_follow_41 (by decide) ?_
        refine r_aload_n rfl 45 rfl d_Led_follow_44 ?_
        refine r_iload_n rfl 46 rfl d_Led_follow_45 ?_
        refine r_iload_n rfl 47 rfl d_Led_follow_46 ?_
        refine r_iconst (nI 0) rfl 48 rfl d_Led_follow_47 ?_
        refine r_callVA1 (st2 := []) (w2 := LW X a ν (u2 (u2 σ 2 (z3 (σ 2) p k)) 2 (upd (z3 (σ 2) p k) (6 * k + p) (nI 0))) τ) lk_Led_setDebt ln_Led_81 (c_Led_setDebt X a ν (u2 σ 2 (z3 (σ 2) p k)) τ  k p (nI 0) (by omega) (by omega)) (by first | decide | omega) rfl rfl (Nat.le_of_ble_eq_true rfl) (Nat.le_of_ble_eq_true rfl) (Nat.le_of_ble_eq_true rfl) 0 rfl rfl rfl rfl 51 rfl d_Led_follow_48 ?_
        refine r_iinc (ls2 := [some (.ref (a 0)), some (.int (nI 3)), some (.int (nI p)), some (.int (nI (k + 1)))]) (nI (k + 1)) rfl (nI_1 _) 54 rfl d_Led_follow_51 (by decide) rfl rfl ?_
        refine r_goto 2 rfl d_Led_follow_54 ?_
        refine Runs.cast (ih2 (k + 1) (by omega) (by omega)) (rfl) rfl (by rw [u2_u2]; rfl; try rfl)
  refine Runs.cast (L2_1 _ 0 (by omega) (Nat.lt_succ_self _)) (rfl) rfl (by rw [show z3 (σ 2) p 0 = σ 2 from rfl, u2_self])
theorem c_Led_follow (X : Xn) (a : Nat → Nat) (ν : Nat → Nat → Nat) (σ : Nat → Nat → Int32) (τ : Nat → Nat → Int64) (hn6 : ν 0 3 ≤ 6) (w : Nat) (hw : w ≤ 3) (x : Int32) (p : Nat) (hx : ¬ w = 0 → x = nI p ∧ p < 6) : Does X 4 M_Led_follow [.ref (a 0), .int (nI w), .int x] (LW X a ν σ τ) 0 0 (fun (vv : Option Value) (ww : va_W) => vv = none ∧ ww = LW X a ν (u2 (u2 σ 1 (planS (ν 0 3) w p (σ 1, σ 2)).1) 2 (planS (ν 0 3) w p (σ 1, σ 2)).2) τ) := by
  rcases (show w = 0 ∨ w = 1 ∨ w = 2 ∨ w = 3 by omega) with rfl | rfl | rfl | rfl
  · refine (c_Led_follow0 X a ν σ τ x hn6).mono (fun v w' h => ⟨h.1, ?_⟩)
    rw [h.2, show (planS (ν 0 3) 0 p (σ 1, σ 2)) = (σ 1, σ 2) from rfl]; exact congrArg (fun z => LW X a ν z τ) u2_0.symm
  · obtain ⟨rfl, hp⟩ := hx (by decide)
    exact c_Led_follow1 X a ν σ τ p hn6 hp
  · obtain ⟨rfl, hp⟩ := hx (by decide)
    refine (c_Led_follow2 X a ν σ τ p hn6 hp).mono (fun v w' h => ⟨h.1, ?_⟩)
    rw [h.2]; exact congrArg (fun z => LW X a ν z τ) (u2_01 _).symm
  · obtain ⟨rfl, hp⟩ := hx (by decide)
    refine (c_Led_follow3 X a ν σ τ p hn6 hp).mono (fun v w' h => ⟨h.1, ?_⟩)
    rw [h.2]; exact congrArg (fun z => LW X a ν z τ) (u2_01 _).symm
theorem c_Led_copyFrom (X : Xn) (a : Nat → Nat) (ν : Nat → Nat → Nat) (σ : Nat → Nat → Int32) (τ : Nat → Nat → Int64)   : Does X 2 M_Led_copyFrom [.ref (a 0), .ref (a 4)] (LL X a ν σ τ) 0 0 (fun (vv : Option Value) (ww : va_W) => vv = none ∧ ww = LL X a (pu ν 0 (u1 (ν 0) 3 (ν 4 3))) (u2 (u2 σ 1 (va_cpy (σ 5) (σ 1) 0 0 6)) 2 (va_cpy (σ 6) (σ 2) 0 0 36)) τ) := by
  generalize hQ : (fun (vv : Option Value) (ww : va_W) => vv = none ∧ ww = LL X a (pu ν 0 (u1 (ν 0) 3 (ν 4 3))) (u2 (u2 σ 1 (va_cpy (σ 5) (σ 1) 0 0 6)) 2 (va_cpy (σ 6) (σ 2) 0 0 36)) τ) = Q
  refine Does.go rfl (Nat.le_of_ble_eq_true rfl) [some (.ref (a 0)), some (.ref (a 4))] 0 rfl ?_
  refine r_aload_n rfl 1 rfl d_Led_copyFrom_0 ?_
  refine r_getf (v := .ref (a 5)) gf_Led_9 4 rfl rfl 4 rfl d_Led_copyFrom_1 ?_
  refine r_iconst (nI 0) rfl 5 rfl d_Led_copyFrom_4 ?_
  refine r_aload_n rfl 6 rfl d_Led_copyFrom_5 ?_
  refine r_getf (v := .ref (a 1)) gf_Led_9 0 rfl rfl 9 rfl d_Led_copyFrom_6 ?_
  refine r_iconst (nI 0) rfl 10 rfl d_Led_copyFrom_9 ?_
  refine r_aload_n rfl 11 rfl d_Led_copyFrom_10 ?_
  refine r_getf (v := .ref (a 1)) gf_Led_9 0 rfl rfl 14 rfl d_Led_copyFrom_11 ?_
  refine r_alenI 1 rfl 15 rfl d_Led_copyFrom_14 ?_
  refine r_copyi (w2 := LL X a ν (u2 σ 1 (va_cpy (σ 5) (σ 1) 0 0 6)) τ) (inTB 716 (by decide +kernel) rfl) (by first | decide | omega) (Nat.le_of_ble_eq_true rfl) 5 1 rfl rfl 0 0 6 rfl rfl rfl (by omega) (by omega) (by omega) (by omega) rfl 18 rfl d_Led_copyFrom_15 ?_
  refine r_aload_n rfl 19 rfl d_Led_copyFrom_18 ?_
  refine r_getf (v := .ref (a 6)) gf_Led_15 4 rfl rfl 22 rfl d_Led_copyFrom_19 ?_
  refine r_iconst (nI 0) rfl 23 rfl d_Led_copyFrom_22 ?_
  refine r_aload_n rfl 24 rfl d_Led_copyFrom_23 ?_
  refine r_getf (v := .ref (a 2)) gf_Led_15 0 rfl rfl 27 rfl d_Led_copyFrom_24 ?_
  refine r_iconst (nI 0) rfl 28 rfl d_Led_copyFrom_27 ?_
  refine r_aload_n rfl 29 rfl d_Led_copyFrom_28 ?_
  refine r_getf (v := .ref (a 2)) gf_Led_15 0 rfl rfl 32 rfl d_Led_copyFrom_29 ?_
  refine r_alenI 2 rfl 33 rfl d_Led_copyFrom_32 ?_
  refine r_copyi (w2 := LL X a ν (u2 (u2 σ 1 (va_cpy (σ 5) (σ 1) 0 0 6)) 2 (va_cpy (σ 6) (σ 2) 0 0 36)) τ) (inTB 716 (by decide +kernel) rfl) (by first | decide | omega) (Nat.le_of_ble_eq_true rfl) 6 2 rfl rfl 0 0 36 rfl rfl rfl (by omega) (by omega) (by omega) (by omega) rfl 36 rfl d_Led_copyFrom_33 ?_
  refine r_aload_n rfl 37 rfl d_Led_copyFrom_36 ?_
  refine r_aload_n rfl 38 rfl d_Led_copyFrom_37 ?_
  refine r_getf (v := .int (nI (ν 4 3))) gf_Led_27 4 rfl rfl 41 rfl d_Led_copyFrom_38 ?_
  refine r_putf (w2 := LL X a (pu ν 0 (u1 (ν 0) 3 (ν 4 3))) (u2 (u2 σ 1 (va_cpy (σ 5) (σ 1) 0 0 6)) 2 (va_cpy (σ 6) (σ 2) 0 0 36)) τ) pf_Led_27 0 rfl (rfl) rfl (Nat.le_of_ble_eq_true rfl) rfl 44 rfl d_Led_copyFrom_41 ?_
  exact r_vret rfl (Nat.zero_le _) (Nat.zero_le _) d_Led_copyFrom_44 (by rw [← hQ]; exact ⟨rfl, rfl⟩)
