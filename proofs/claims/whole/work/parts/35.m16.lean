def M_JStr_coder : XM := (⟨"java/lang/String", "coder", "()B"⟩, prog_15_method_152_code, 1, (some .byte))
theorem d_JStr_coder_0 : decode M_JStr_coder.2.1 0 = .ok (.getstatic 38, 3) := by decide +kernel
theorem d_JStr_coder_3 : decode M_JStr_coder.2.1 3 = .ok (.ifCond .eq 10, 3) := by decide +kernel
theorem d_JStr_coder_6 : decode M_JStr_coder.2.1 6 = .ok (.aload_n 0, 1) := by decide +kernel
theorem d_JStr_coder_7 : decode M_JStr_coder.2.1 7 = .ok (.getfield 15, 3) := by decide +kernel
theorem d_JStr_coder_10 : decode M_JStr_coder.2.1 10 = .ok (.goto 4, 3) := by decide +kernel
theorem d_JStr_coder_14 : decode M_JStr_coder.2.1 14 = .ok (.ireturn, 1) := by decide +kernel
def M_JStr_length : XM := (⟨"java/lang/String", "length", "()I"⟩, prog_15_method_54_code, 1, (some .int))
theorem d_JStr_length_0 : decode M_JStr_length.2.1 0 = .ok (.aload_n 0, 1) := by decide +kernel
theorem d_JStr_length_1 : decode M_JStr_length.2.1 1 = .ok (.getfield 9, 3) := by decide +kernel
theorem d_JStr_length_4 : decode M_JStr_length.2.1 4 = .ok (.arraylength, 1) := by decide +kernel
theorem d_JStr_length_5 : decode M_JStr_length.2.1 5 = .ok (.aload_n 0, 1) := by decide +kernel
theorem d_JStr_length_6 : decode M_JStr_length.2.1 6 = .ok (.invokevirtual 335, 3) := by decide +kernel
theorem ln_JStr_335 : Cond.methodLink "java/lang/String" 335 M_JStr_coder.1 ∈ TB := inTB 538 (by decide +kernel) rfl
theorem lk_JStr_coder : LVt M_JStr_coder 0 := ⟨⟨inTB 73 (by decide +kernel) rfl, inTB 541 (by decide +kernel) rfl, ⟨by decide, by decide, by decide +kernel⟩, by decide⟩, inTB 539 (by decide +kernel) rfl, inTB 540 (by decide +kernel) rfl⟩
theorem d_JStr_length_9 : decode M_JStr_length.2.1 9 = .ok (.ishr, 1) := by decide +kernel
theorem d_JStr_length_10 : decode M_JStr_length.2.1 10 = .ok (.ireturn, 1) := by decide +kernel
def M_JStr_isLatin1 : XM := (⟨"java/lang/String", "isLatin1", "()Z"⟩, prog_15_method_154_code, 1, (some .boolean))
theorem d_JStr_isLatin1_0 : decode M_JStr_isLatin1.2.1 0 = .ok (.getstatic 38, 3) := by decide +kernel
theorem d_JStr_isLatin1_3 : decode M_JStr_isLatin1.2.1 3 = .ok (.ifCond .eq 14, 3) := by decide +kernel
theorem d_JStr_isLatin1_6 : decode M_JStr_isLatin1.2.1 6 = .ok (.aload_n 0, 1) := by decide +kernel
theorem d_JStr_isLatin1_7 : decode M_JStr_isLatin1.2.1 7 = .ok (.getfield 15, 3) := by decide +kernel
theorem d_JStr_isLatin1_10 : decode M_JStr_isLatin1.2.1 10 = .ok (.ifCond .ne 7, 3) := by decide +kernel
theorem d_JStr_isLatin1_13 : decode M_JStr_isLatin1.2.1 13 = .ok (.iconst 1, 1) := by decide +kernel
theorem d_JStr_isLatin1_14 : decode M_JStr_isLatin1.2.1 14 = .ok (.goto 4, 3) := by decide +kernel
theorem d_JStr_isLatin1_18 : decode M_JStr_isLatin1.2.1 18 = .ok (.ireturn, 1) := by decide +kernel
def M_JPre_checkIndex : XM := (⟨"jdk/internal/util/Preconditions", "checkIndex", "(IILjava/util/function/BiFunction;)I"⟩, prog_19_method_11_code, 3, (some .int))
theorem d_JPre_checkIndex_0 : decode M_JPre_checkIndex.2.1 0 = .ok (.iload_n 0, 1) := by decide +kernel
theorem d_JPre_checkIndex_1 : decode M_JPre_checkIndex.2.1 1 = .ok (.ifCond .lt 8, 3) := by decide +kernel
theorem d_JPre_checkIndex_4 : decode M_JPre_checkIndex.2.1 4 = .ok (.iload_n 0, 1) := by decide +kernel
theorem d_JPre_checkIndex_5 : decode M_JPre_checkIndex.2.1 5 = .ok (.iload_n 1, 1) := by decide +kernel
theorem d_JPre_checkIndex_6 : decode M_JPre_checkIndex.2.1 6 = .ok (.if_icmp .lt 10, 3) := by decide +kernel
theorem d_JPre_checkIndex_16 : decode M_JPre_checkIndex.2.1 16 = .ok (.iload_n 0, 1) := by decide +kernel
theorem d_JPre_checkIndex_17 : decode M_JPre_checkIndex.2.1 17 = .ok (.ireturn, 1) := by decide +kernel
def M_JStr_checkIndex : XM := (⟨"java/lang/String", "checkIndex", "(II)V"⟩, prog_15_method_155_code, 2, none)
theorem d_JStr_checkIndex_0 : decode M_JStr_checkIndex.2.1 0 = .ok (.iload_n 0, 1) := by decide +kernel
theorem d_JStr_checkIndex_1 : decode M_JStr_checkIndex.2.1 1 = .ok (.iload_n 1, 1) := by decide +kernel
theorem d_JStr_checkIndex_2 : decode M_JStr_checkIndex.2.1 2 = .ok (.getstatic 1053, 3) := by decide +kernel
theorem d_JStr_checkIndex_5 : decode M_JStr_checkIndex.2.1 5 = .ok (.invokestatic 1059, 3) := by decide +kernel
theorem ln_JStr_1059 : Cond.methodLink "java/lang/String" 1059 M_JPre_checkIndex.1 ∈ TB := inTB 560 (by decide +kernel) rfl
theorem lk_JPre_checkIndex : LSt M_JPre_checkIndex 3 := ⟨⟨inTB 75 (by decide +kernel) rfl, inTB 562 (by decide +kernel) rfl, ⟨by decide, by decide, by decide +kernel⟩, by decide⟩, inTB 561 (by decide +kernel) rfl⟩
theorem d_JStr_checkIndex_8 : decode M_JStr_checkIndex.2.1 8 = .ok (.pop, 1) := by decide +kernel
theorem d_JStr_checkIndex_9 : decode M_JStr_checkIndex.2.1 9 = .ok (.return_, 1) := by decide +kernel
def M_JLat_charAt : XM := (⟨"java/lang/StringLatin1", "charAt", "([BI)C"⟩, prog_16_method_2_code, 2, (some .char))
theorem d_JLat_charAt_0 : decode M_JLat_charAt.2.1 0 = .ok (.iload_n 1, 1) := by decide +kernel
theorem d_JLat_charAt_1 : decode M_JLat_charAt.2.1 1 = .ok (.aload_n 0, 1) := by decide +kernel
theorem d_JLat_charAt_2 : decode M_JLat_charAt.2.1 2 = .ok (.arraylength, 1) := by decide +kernel
theorem d_JLat_charAt_3 : decode M_JLat_charAt.2.1 3 = .ok (.invokestatic 9, 3) := by decide +kernel
theorem ln_JLat_9 : Cond.methodLink "java/lang/StringLatin1" 9 M_JStr_checkIndex.1 ∈ TB := inTB 555 (by decide +kernel) rfl
theorem lk_JStr_checkIndex : LSt M_JStr_checkIndex 2 := ⟨⟨inTB 73 (by decide +kernel) rfl, inTB 557 (by decide +kernel) rfl, ⟨by decide, by decide, by decide +kernel⟩, by decide⟩, inTB 556 (by decide +kernel) rfl⟩
theorem d_JLat_charAt_6 : decode M_JLat_charAt.2.1 6 = .ok (.aload_n 0, 1) := by decide +kernel
theorem d_JLat_charAt_7 : decode M_JLat_charAt.2.1 7 = .ok (.iload_n 1, 1) := by decide +kernel
theorem d_JLat_charAt_8 : decode M_JLat_charAt.2.1 8 = .ok (.baload, 1) := by decide +kernel
theorem d_JLat_charAt_9 : decode M_JLat_charAt.2.1 9 = .ok (.sipush 255, 3) := by decide +kernel
theorem d_JLat_charAt_12 : decode M_JLat_charAt.2.1 12 = .ok (.iand, 1) := by decide +kernel
theorem d_JLat_charAt_13 : decode M_JLat_charAt.2.1 13 = .ok (.i2c, 1) := by decide +kernel
theorem d_JLat_charAt_14 : decode M_JLat_charAt.2.1 14 = .ok (.ireturn, 1) := by decide +kernel
def M_JStr_charAt : XM := (⟨"java/lang/String", "charAt", "(I)C"⟩, prog_15_method_56_code, 2, (some .char))
theorem d_JStr_charAt_0 : decode M_JStr_charAt.2.1 0 = .ok (.aload_n 0, 1) := by decide +kernel
theorem d_JStr_charAt_1 : decode M_JStr_charAt.2.1 1 = .ok (.invokevirtual 492, 3) := by decide +kernel
theorem ln_JStr_492 : Cond.methodLink "java/lang/String" 492 M_JStr_isLatin1.1 ∈ TB := inTB 548 (by decide +kernel) rfl
theorem lk_JStr_isLatin1 : LVt M_JStr_isLatin1 0 := ⟨⟨inTB 73 (by decide +kernel) rfl, inTB 551 (by decide +kernel) rfl, ⟨by decide, by decide, by decide +kernel⟩, by decide⟩, inTB 549 (by decide +kernel) rfl, inTB 550 (by decide +kernel) rfl⟩
theorem d_JStr_charAt_4 : decode M_JStr_charAt.2.1 4 = .ok (.ifCond .eq 12, 3) := by decide +kernel
theorem d_JStr_charAt_7 : decode M_JStr_charAt.2.1 7 = .ok (.aload_n 0, 1) := by decide +kernel
theorem d_JStr_charAt_8 : decode M_JStr_charAt.2.1 8 = .ok (.getfield 9, 3) := by decide +kernel
theorem d_JStr_charAt_11 : decode M_JStr_charAt.2.1 11 = .ok (.iload_n 1, 1) := by decide +kernel
theorem d_JStr_charAt_12 : decode M_JStr_charAt.2.1 12 = .ok (.invokestatic 495, 3) := by decide +kernel
theorem ln_JStr_495 : Cond.methodLink "java/lang/String" 495 M_JLat_charAt.1 ∈ TB := inTB 552 (by decide +kernel) rfl
theorem lk_JLat_charAt : LSt M_JLat_charAt 2 := ⟨⟨inTB 74 (by decide +kernel) rfl, inTB 554 (by decide +kernel) rfl, ⟨by decide, by decide, by decide +kernel⟩, by decide⟩, inTB 553 (by decide +kernel) rfl⟩
theorem d_JStr_charAt_15 : decode M_JStr_charAt.2.1 15 = .ok (.ireturn, 1) := by decide +kernel
def M_JLat_canEncode : XM := (⟨"java/lang/StringLatin1", "canEncode", "(I)Z"⟩, prog_16_method_4_code, 1, (some .boolean))
theorem d_JLat_canEncode_0 : decode M_JLat_canEncode.2.1 0 = .ok (.iload_n 0, 1) := by decide +kernel
theorem d_JLat_canEncode_1 : decode M_JLat_canEncode.2.1 1 = .ok (.ifCond .lt 14, 3) := by decide +kernel
theorem d_JLat_canEncode_4 : decode M_JLat_canEncode.2.1 4 = .ok (.iload_n 0, 1) := by decide +kernel
theorem d_JLat_canEncode_5 : decode M_JLat_canEncode.2.1 5 = .ok (.sipush 255, 3) := by decide +kernel
theorem d_JLat_canEncode_8 : decode M_JLat_canEncode.2.1 8 = .ok (.if_icmp .gt 7, 3) := by decide +kernel
theorem d_JLat_canEncode_11 : decode M_JLat_canEncode.2.1 11 = .ok (.iconst 1, 1) := by decide +kernel
theorem d_JLat_canEncode_12 : decode M_JLat_canEncode.2.1 12 = .ok (.goto 4, 3) := by decide +kernel
theorem d_JLat_canEncode_16 : decode M_JLat_canEncode.2.1 16 = .ok (.ireturn, 1) := by decide +kernel
def M_JLat_indexOfChar : XM := (⟨"java/lang/StringLatin1", "indexOfChar", "([BIII)I"⟩, prog_16_method_23_code, 6, (some .int))
theorem d_JLat_indexOfChar_0 : decode M_JLat_indexOfChar.2.1 0 = .ok (.iload_n 1, 1) := by decide +kernel
theorem d_JLat_indexOfChar_1 : decode M_JLat_indexOfChar.2.1 1 = .ok (.i2b, 1) := by decide +kernel
theorem d_JLat_indexOfChar_2 : decode M_JLat_indexOfChar.2.1 2 = .ok (.istore 4, 2) := by decide +kernel
theorem d_JLat_indexOfChar_4 : decode M_JLat_indexOfChar.2.1 4 = .ok (.iload_n 2, 1) := by decide +kernel
theorem d_JLat_indexOfChar_5 : decode M_JLat_indexOfChar.2.1 5 = .ok (.istore 5, 2) := by decide +kernel
theorem d_JLat_indexOfChar_7 : decode M_JLat_indexOfChar.2.1 7 = .ok (.iload 5, 2) := by decide +kernel
theorem d_JLat_indexOfChar_9 : decode M_JLat_indexOfChar.2.1 9 = .ok (.iload_n 3, 1) := by decide +kernel
theorem d_JLat_indexOfChar_10 : decode M_JLat_indexOfChar.2.1 10 = .ok (.if_icmp .ge 21, 3) := by decide +kernel
theorem d_JLat_indexOfChar_31 : decode M_JLat_indexOfChar.2.1 31 = .ok (.iconst (-1), 1) := by decide +kernel
theorem d_JLat_indexOfChar_32 : decode M_JLat_indexOfChar.2.1 32 = .ok (.ireturn, 1) := by decide +kernel
theorem d_JLat_indexOfChar_13 : decode M_JLat_indexOfChar.2.1 13 = .ok (.aload_n 0, 1) := by decide +kernel
theorem d_JLat_indexOfChar_14 : decode M_JLat_indexOfChar.2.1 14 = .ok (.iload 5, 2) := by decide +kernel
theorem d_JLat_indexOfChar_16 : decode M_JLat_indexOfChar.2.1 16 = .ok (.baload, 1) := by decide +kernel
theorem d_JLat_indexOfChar_17 : decode M_JLat_indexOfChar.2.1 17 = .ok (.iload 4, 2) := by decide +kernel
theorem d_JLat_indexOfChar_19 : decode M_JLat_indexOfChar.2.1 19 = .ok (.if_icmp .ne 6, 3) := by decide +kernel
theorem d_JLat_indexOfChar_25 : decode M_JLat_indexOfChar.2.1 25 = .ok (.iinc 5 1, 3) := by decide +kernel
theorem d_JLat_indexOfChar_28 : decode M_JLat_indexOfChar.2.1 28 = .ok (.goto (-21), 3) := by decide +kernel
theorem d_JLat_indexOfChar_22 : decode M_JLat_indexOfChar.2.1 22 = .ok (.iload 5, 2) := by decide +kernel
theorem d_JLat_indexOfChar_24 : decode M_JLat_indexOfChar.2.1 24 = .ok (.ireturn, 1) := by decide +kernel
def M_JLat_indexOf : XM := (⟨"java/lang/StringLatin1", "indexOf", "([BIII)I"⟩, prog_16_method_22_code, 4, (some .int))
theorem d_JLat_indexOf_0 : decode M_JLat_indexOf.2.1 0 = .ok (.iload_n 1, 1) := by decide +kernel
theorem d_JLat_indexOf_1 : decode M_JLat_indexOf.2.1 1 = .ok (.invokestatic 88, 3) := by decide +kernel
theorem ln_JLat_88 : Cond.methodLink "java/lang/StringLatin1" 88 M_JLat_canEncode.1 ∈ TB := inTB 1112 (by decide +kernel) rfl
theorem lk_JLat_canEncode : LSt M_JLat_canEncode 1 := ⟨⟨inTB 74 (by decide +kernel) rfl, inTB 1114 (by decide +kernel) rfl, ⟨by decide, by decide, by decide +kernel⟩, by decide⟩, inTB 1113 (by decide +kernel) rfl⟩
theorem d_JLat_indexOf_4 : decode M_JLat_indexOf.2.1 4 = .ok (.ifCond .ne 5, 3) := by decide +kernel
theorem d_JLat_indexOf_9 : decode M_JLat_indexOf.2.1 9 = .ok (.iload_n 2, 1) := by decide +kernel
theorem d_JLat_indexOf_10 : decode M_JLat_indexOf.2.1 10 = .ok (.iconst 0, 1) := by decide +kernel
theorem d_JLat_indexOf_11 : decode M_JLat_indexOf.2.1 11 = .ok (.invokestatic 92, 3) := by decide +kernel
theorem d_JLat_indexOf_14 : decode M_JLat_indexOf.2.1 14 = .ok (.istore_n 2, 1) := by decide +kernel
theorem d_JLat_indexOf_15 : decode M_JLat_indexOf.2.1 15 = .ok (.iload_n 3, 1) := by decide +kernel
theorem d_JLat_indexOf_16 : decode M_JLat_indexOf.2.1 16 = .ok (.aload_n 0, 1) := by decide +kernel
theorem d_JLat_indexOf_17 : decode M_JLat_indexOf.2.1 17 = .ok (.arraylength, 1) := by decide +kernel
theorem d_JLat_indexOf_18 : decode M_JLat_indexOf.2.1 18 = .ok (.invokestatic 38, 3) := by decide +kernel
theorem d_JLat_indexOf_21 : decode M_JLat_indexOf.2.1 21 = .ok (.istore_n 3, 1) := by decide +kernel
theorem d_JLat_indexOf_22 : decode M_JLat_indexOf.2.1 22 = .ok (.iload_n 2, 1) := by decide +kernel
theorem d_JLat_indexOf_23 : decode M_JLat_indexOf.2.1 23 = .ok (.iload_n 3, 1) := by decide +kernel
theorem d_JLat_indexOf_24 : decode M_JLat_indexOf.2.1 24 = .ok (.if_icmp .lt 5, 3) := by decide +kernel
theorem d_JLat_indexOf_29 : decode M_JLat_indexOf.2.1 29 = .ok (.aload_n 0, 1) := by decide +kernel
theorem d_JLat_indexOf_30 : decode M_JLat_indexOf.2.1 30 = .ok (.iload_n 1, 1) := by decide +kernel
theorem d_JLat_indexOf_31 : decode M_JLat_indexOf.2.1 31 = .ok (.iload_n 2, 1) := by decide +kernel
theorem d_JLat_indexOf_32 : decode M_JLat_indexOf.2.1 32 = .ok (.iload_n 3, 1) := by decide +kernel
theorem d_JLat_indexOf_33 : decode M_JLat_indexOf.2.1 33 = .ok (.invokestatic 95, 3) := by decide +kernel
theorem ln_JLat_95 : Cond.methodLink "java/lang/StringLatin1" 95 M_JLat_indexOfChar.1 ∈ TB := inTB 1117 (by decide +kernel) rfl
theorem lk_JLat_indexOfChar : LSt M_JLat_indexOfChar 4 := ⟨⟨inTB 74 (by decide +kernel) rfl, inTB 1119 (by decide +kernel) rfl, ⟨by decide, by decide, by decide +kernel⟩, by decide⟩, inTB 1118 (by decide +kernel) rfl⟩
theorem d_JLat_indexOf_36 : decode M_JLat_indexOf.2.1 36 = .ok (.ireturn, 1) := by decide +kernel
def M_JStr_indexOf_1 : XM := (⟨"java/lang/String", "indexOf", "(II)I"⟩, prog_15_method_80_code, 3, (some .int))
theorem d_JStr_indexOf_1_0 : decode M_JStr_indexOf_1.2.1 0 = .ok (.aload_n 0, 1) := by decide +kernel
theorem d_JStr_indexOf_1_1 : decode M_JStr_indexOf_1.2.1 1 = .ok (.invokevirtual 492, 3) := by decide +kernel
theorem d_JStr_indexOf_1_4 : decode M_JStr_indexOf_1.2.1 4 = .ok (.ifCond .eq 19, 3) := by decide +kernel
theorem d_JStr_indexOf_1_7 : decode M_JStr_indexOf_1.2.1 7 = .ok (.aload_n 0, 1) := by decide +kernel
theorem d_JStr_indexOf_1_8 : decode M_JStr_indexOf_1.2.1 8 = .ok (.getfield 9, 3) := by decide +kernel
theorem d_JStr_indexOf_1_11 : decode M_JStr_indexOf_1.2.1 11 = .ok (.iload_n 1, 1) := by decide +kernel
theorem d_JStr_indexOf_1_12 : decode M_JStr_indexOf_1.2.1 12 = .ok (.iload_n 2, 1) := by decide +kernel
theorem d_JStr_indexOf_1_13 : decode M_JStr_indexOf_1.2.1 13 = .ok (.aload_n 0, 1) := by decide +kernel
theorem d_JStr_indexOf_1_14 : decode M_JStr_indexOf_1.2.1 14 = .ok (.invokevirtual 505, 3) := by decide +kernel
theorem ln_JStr_505 : Cond.methodLink "java/lang/String" 505 M_JStr_length.1 ∈ TB := inTB 1108 (by decide +kernel) rfl
theorem lk_JStr_length : LVt M_JStr_length 0 := ⟨⟨inTB 73 (by decide +kernel) rfl, inTB 537 (by decide +kernel) rfl, ⟨by decide, by decide, by decide +kernel⟩, by decide⟩, inTB 535 (by decide +kernel) rfl, inTB 536 (by decide +kernel) rfl⟩
theorem d_JStr_indexOf_1_17 : decode M_JStr_indexOf_1.2.1 17 = .ok (.invokestatic 637, 3) := by decide +kernel
theorem ln_JStr_637 : Cond.methodLink "java/lang/String" 637 M_JLat_indexOf.1 ∈ TB := inTB 1109 (by decide +kernel) rfl
theorem lk_JLat_indexOf : LSt M_JLat_indexOf 4 := ⟨⟨inTB 74 (by decide +kernel) rfl, inTB 1111 (by decide +kernel) rfl, ⟨by decide, by decide, by decide +kernel⟩, by decide⟩, inTB 1110 (by decide +kernel) rfl⟩
theorem d_JStr_indexOf_1_20 : decode M_JStr_indexOf_1.2.1 20 = .ok (.goto 16, 3) := by decide +kernel
theorem d_JStr_indexOf_1_36 : decode M_JStr_indexOf_1.2.1 36 = .ok (.ireturn, 1) := by decide +kernel
def M_JStr_indexOf_0 : XM := (⟨"java/lang/String", "indexOf", "(I)I"⟩, prog_15_method_79_code, 2, (some .int))
theorem d_JStr_indexOf_0_0 : decode M_JStr_indexOf_0.2.1 0 = .ok (.aload_n 0, 1) := by decide +kernel
theorem d_JStr_indexOf_0_1 : decode M_JStr_indexOf_0.2.1 1 = .ok (.iload_n 1, 1) := by decide +kernel
theorem d_JStr_indexOf_0_2 : decode M_JStr_indexOf_0.2.1 2 = .ok (.iconst 0, 1) := by decide +kernel
theorem d_JStr_indexOf_0_3 : decode M_JStr_indexOf_0.2.1 3 = .ok (.invokevirtual 633, 3) := by decide +kernel
theorem ln_JStr_633 : Cond.methodLink "java/lang/String" 633 M_JStr_indexOf_1.1 ∈ TB := inTB 1104 (by decide +kernel) rfl
theorem lk_JStr_indexOf_1 : LVt M_JStr_indexOf_1 2 := ⟨⟨inTB 73 (by decide +kernel) rfl, inTB 1107 (by decide +kernel) rfl, ⟨by decide, by decide, by decide +kernel⟩, by decide⟩, inTB 1105 (by decide +kernel) rfl, inTB 1106 (by decide +kernel) rfl⟩
theorem d_JStr_indexOf_0_6 : decode M_JStr_indexOf_0.2.1 6 = .ok (.ireturn, 1) := by decide +kernel
theorem c_JStr_coder (X : Xn) (i : Nat) (hi8 : i < 8)  : Does X 1 M_JStr_coder [.ref (X.2.2.2 (10 + i))] ([]) 0 0 (fun (vv : Option Value) (ww : va_W) => vv = some (.int (nI 0)) ∧ ww = []) := by
  generalize hQ : (fun (vv : Option Value) (ww : va_W) => vv = some (.int (nI 0)) ∧ ww = []) = Q
  refine Does.go rfl (Nat.le_of_ble_eq_true rfl) [some (.ref (X.2.2.2 (10 + i)))] 0 rfl ?_
  have hl10 := (lit_len ⟨i, hi8⟩).2
  simp only at hl10
  refine r_gets (v := .int (nI 1)) (fun A U H h => h.2.2.2.2.1) (inTB 542 (by decide +kernel) rfl) 3 rfl d_JStr_coder_0 ?_
  refine r_if_eqN_f 1 (by omega) 6 rfl 13 rfl d_JStr_coder_3 (by decide) ?_
  refine r_aload_n rfl 7 rfl d_JStr_coder_6 ?_
  refine r_getfS (nm := "coder") (dd := "B") (v := .int 0) (fun A U H h => (Xs h i hi8).2.1) (inTB 1380 (by decide +kernel) rfl) 10 rfl d_JStr_coder_7 ?_
  refine r_goto 14 rfl d_JStr_coder_10 ?_
  exact r_zret rfl (rfl) (Nat.zero_le _) (Nat.zero_le _) d_JStr_coder_14 (by rw [← hQ]; exact ⟨rfl, rfl⟩)
theorem c_JStr_length (X : Xn) (i : Nat) (hi8 : i < 8)  : Does X 2 M_JStr_length [.ref (X.2.2.2 (10 + i))] ([]) 0 0 (fun (vv : Option Value) (ww : va_W) => vv = some (.int (nI (litL.getD i 0))) ∧ ww = []) := by
  generalize hQ : (fun (vv : Option Value) (ww : va_W) => vv = some (.int (nI (litL.getD i 0))) ∧ ww = []) = Q
  refine Does.go rfl (Nat.le_of_ble_eq_true rfl) [some (.ref (X.2.2.2 (10 + i)))] 0 rfl ?_
  have hl10 := (lit_len ⟨i, hi8⟩).2
  simp only at hl10
  refine r_aload_n rfl 1 rfl d_JStr_length_0 ?_
  refine r_getfS (nm := "value") (dd := "[B") (v := .ref (X.2.2.2 (30 + i))) (fun A U H h => (Xs h i hi8).2.2.1) (inTB 1379 (by decide +kernel) rfl) 4 rfl d_JStr_length_1 ?_
  refine r_alenS i hi8 5 rfl d_JStr_length_4 ?_
  refine r_aload_n rfl 6 rfl d_JStr_length_5 ?_
  refine r_callVs1 (st2 := [.int (nI 0), .int (nI (litL.getD i 0))]) i hi8 rfl lk_JStr_coder ln_JStr_335 (c_JStr_coder X i hi8) (by first | decide | omega) rfl rfl (Nat.le_of_ble_eq_true rfl) (Nat.le_of_ble_eq_true rfl) (Nat.le_of_ble_eq_true rfl) rfl 9 rfl d_JStr_length_6 ?_
  refine r_ishr 10 rfl d_JStr_length_9 ?_
  refine r_topi (nI ((litL.getD i 0) >>> 0)) (nI_shr (by omega) (by omega)) ?_
  refine r_topi (nI (litL.getD i 0)) (by rw [Nat.shiftRight_zero]) ?_
  exact r_iret rfl (Nat.zero_le _) (Nat.zero_le _) d_JStr_length_10 (by rw [← hQ]; exact ⟨rfl, rfl⟩)
theorem c_JStr_isLatin1 (X : Xn) (i : Nat) (hi8 : i < 8)  : Does X 1 M_JStr_isLatin1 [.ref (X.2.2.2 (10 + i))] ([]) 0 0 (fun (vv : Option Value) (ww : va_W) => vv = some (.int (nI 1)) ∧ ww = []) := by
  generalize hQ : (fun (vv : Option Value) (ww : va_W) => vv = some (.int (nI 1)) ∧ ww = []) = Q
  refine Does.go rfl (Nat.le_of_ble_eq_true rfl) [some (.ref (X.2.2.2 (10 + i)))] 0 rfl ?_
  have hl10 := (lit_len ⟨i, hi8⟩).2
  simp only at hl10
  refine r_gets (v := .int (nI 1)) (fun A U H h => h.2.2.2.2.1) (inTB 542 (by decide +kernel) rfl) 3 rfl d_JStr_isLatin1_0 ?_
  refine r_if_eqN_f 1 (by omega) 6 rfl 17 rfl d_JStr_isLatin1_3 (by decide) ?_
  refine r_aload_n rfl 7 rfl d_JStr_isLatin1_6 ?_
  refine r_getfS (nm := "coder") (dd := "B") (v := .int 0) (fun A U H h => (Xs h i hi8).2.1) (inTB 1380 (by decide +kernel) rfl) 10 rfl d_JStr_isLatin1_7 ?_
  refine r_if_neN_f 0 (by omega) 13 rfl 17 rfl d_JStr_isLatin1_10 (rfl) ?_
  refine r_iconst (nI 1) rfl 14 rfl d_JStr_isLatin1_13 ?_
  refine r_goto 18 rfl d_JStr_isLatin1_14 ?_
  exact r_zret rfl (rfl) (Nat.zero_le _) (Nat.zero_le _) d_JStr_isLatin1_18 (by rw [← hQ]; exact ⟨rfl, rfl⟩)
theorem c_JPre_checkIndexN (X : Xn) (k n : Nat) (hk : k < n) (hn : n < 10) : Does X 1 M_JPre_checkIndex [.int (nI k), .int (nI n), .null] ([]) 0 0 (fun (vv : Option Value) (ww : va_W) => vv = some (.int (nI k)) ∧ ww = []) := by
  generalize hQ : (fun (vv : Option Value) (ww : va_W) => vv = some (.int (nI k)) ∧ ww = []) = Q
  refine Does.go rfl (Nat.le_of_ble_eq_true rfl) [some (.int (nI k)), some (.int (nI n)), some (.null)] 0 rfl ?_
  refine r_iload_n rfl 1 rfl d_JPre_checkIndex_0 ?_
  refine r_if_ltN_f k (by omega) 4 rfl 9 rfl d_JPre_checkIndex_1 (Nat.zero_le _) ?_
  refine r_iload_n rfl 5 rfl d_JPre_checkIndex_4 ?_
  refine r_iload_n rfl 6 rfl d_JPre_checkIndex_5 ?_
  refine r_icmp_ltN_t k n (by omega) (by omega) 16 rfl d_JPre_checkIndex_6 (hk) ?_
  refine r_iload_n rfl 17 rfl d_JPre_checkIndex_16 ?_
  exact r_iret rfl (Nat.zero_le _) (Nat.zero_le _) d_JPre_checkIndex_17 (by rw [← hQ]; exact ⟨rfl, rfl⟩)
theorem c_JPre_checkIndexR (X : Xn) (k n : Nat) (hk : k < n) (hn : n < 10) (z : Nat) : Does X 1 M_JPre_checkIndex [.int (nI k), .int (nI n), .ref z] ([]) 0 0 (fun (vv : Option Value) (ww : va_W) => vv = some (.int (nI k)) ∧ ww = []) := by
  generalize hQ : (fun (vv : Option Value) (ww : va_W) => vv = some (.int (nI k)) ∧ ww = []) = Q
  refine Does.go rfl (Nat.le_of_ble_eq_true rfl) [some (.int (nI k)), some (.int (nI n)), some (.ref z)] 0 rfl ?_
  refine r_iload_n rfl 1 rfl d_JPre_checkIndex_0 ?_
  refine r_if_ltN_f k (by omega) 4 rfl 9 rfl d_JPre_checkIndex_1 (Nat.zero_le _) ?_
  refine r_iload_n rfl 5 rfl d_JPre_checkIndex_4 ?_
  refine r_iload_n rfl 6 rfl d_JPre_checkIndex_5 ?_
  refine r_icmp_ltN_t k n (by omega) (by omega) 16 rfl d_JPre_checkIndex_6 (hk) ?_
  refine r_iload_n rfl 17 rfl d_JPre_checkIndex_16 ?_
  exact r_iret rfl (Nat.zero_le _) (Nat.zero_le _) d_JPre_checkIndex_17 (by rw [← hQ]; exact ⟨rfl, rfl⟩)
theorem c_JStr_checkIndex (X : Xn) (k n : Nat) (hk : k < n) (hn : n < 10) : Does X 2 M_JStr_checkIndex [.int (nI k), .int (nI n)] ([]) 0 0 (fun (vv : Option Value) (ww : va_W) => vv = none ∧ ww = []) := by
  generalize hQ : (fun (vv : Option Value) (ww : va_W) => vv = none ∧ ww = []) = Q
  refine Does.go rfl (Nat.le_of_ble_eq_true rfl) [some (.int (nI k)), some (.int (nI n))] 0 rfl ?_
  refine r_iload_n rfl 1 rfl d_JStr_checkIndex_0 ?_
  refine r_iload_n rfl 2 rfl d_JStr_checkIndex_1 ?_
  refine r_getsQ (fun A U H h => h.2.2.2.2.2.1) (inTB 558 (by decide +kernel) rfl) 5 rfl d_JStr_checkIndex_2 (fun vq hvq => ?_)
  rcases hvq with rfl | ⟨z, rfl⟩
  · refine r_callS1 (st2 := [.int (nI k)]) (w2 := []) lk_JPre_checkIndex ln_JStr_1059 (c_JPre_checkIndexN X k n hk hn) (by first | decide | omega) rfl rfl (Nat.le_of_ble_eq_true rfl) (Nat.le_of_ble_eq_true rfl) (Nat.le_of_ble_eq_true rfl) [] rfl rfl rfl rfl rfl 8 rfl d_JStr_checkIndex_5 ?_
    refine r_pop rfl 9 rfl d_JStr_checkIndex_8 ?_
    exact r_vret rfl (Nat.zero_le _) (Nat.zero_le _) d_JStr_checkIndex_9 (by rw [← hQ]; exact ⟨rfl, rfl⟩)
  · refine r_callS1 (st2 := [.int (nI k)]) (w2 := []) lk_JPre_checkIndex ln_JStr_1059 (c_JPre_checkIndexR X k n hk hn z) (by first | decide | omega) rfl rfl (Nat.le_of_ble_eq_true rfl) (Nat.le_of_ble_eq_true rfl) (Nat.le_of_ble_eq_true rfl) [] rfl rfl rfl rfl rfl 8 rfl d_JStr_checkIndex_5 ?_
    refine r_pop rfl 9 rfl d_JStr_checkIndex_8 ?_
    exact r_vret rfl (Nat.zero_le _) (Nat.zero_le _) d_JStr_checkIndex_9 (by rw [← hQ]; exact ⟨rfl, rfl⟩)
theorem c_JLat_charAt (X : Xn) (i : Nat) (hi8 : i < 8) (k : Nat) (hk : k < litL.getD i 0) (hk6 : k < 6) : Does X 3 M_JLat_charAt [.ref (X.2.2.2 (30 + i)), .int (nI k)] ([]) 0 0 (fun (vv : Option Value) (ww : va_W) => vv = some (.int (chS i k)) ∧ ww = []) := by
  generalize hQ : (fun (vv : Option Value) (ww : va_W) => vv = some (.int (chS i k)) ∧ ww = []) = Q
  refine Does.go rfl (Nat.le_of_ble_eq_true rfl) [some (.ref (X.2.2.2 (30 + i))), some (.int (nI k))] 0 rfl ?_
  have hl10 := (lit_len ⟨i, hi8⟩).2
  simp only at hl10
  refine r_iload_n rfl 1 rfl d_JLat_charAt_0 ?_
  refine r_aload_n rfl 2 rfl d_JLat_charAt_1 ?_
  refine r_alenS i hi8 3 rfl d_JLat_charAt_2 ?_
  refine r_callS1 (st2 := []) (w2 := []) lk_JStr_checkIndex ln_JLat_9 (c_JStr_checkIndex X k (litL.getD i 0) (by omega) (by omega)) (by first | decide | omega) rfl rfl (Nat.le_of_ble_eq_true rfl) (Nat.le_of_ble_eq_true rfl) (Nat.le_of_ble_eq_true rfl) [] rfl rfl rfl rfl rfl 6 rfl d_JLat_charAt_3 ?_
  refine r_aload_n rfl 7 rfl d_JLat_charAt_6 ?_
  refine r_iload_n rfl 8 rfl d_JLat_charAt_7 ?_
  refine r_baldS i hi8 k rfl (by omega) (by omega) 9 rfl d_JLat_charAt_8 ?_
  refine r_sipush (nI 255) rfl 12 rfl d_JLat_charAt_9 ?_
  refine r_iand 13 rfl d_JLat_charAt_12 ?_
  refine r_i2c 14 rfl d_JLat_charAt_13 ?_
  refine r_topi (chS i k) rfl ?_
  exact r_zret rfl (chS_nar ⟨i, hi8⟩ ⟨k, hk6⟩) (Nat.zero_le _) (Nat.zero_le _) d_JLat_charAt_14 (by rw [← hQ]; exact ⟨rfl, rfl⟩)
theorem c_JStr_charAt (X : Xn) (i : Nat) (hi8 : i < 8) (k : Nat) (hk : k < litL.getD i 0) (hk6 : k < 6) : Does X 4 M_JStr_charAt [.ref (X.2.2.2 (10 + i)), .int (nI k)] ([]) 0 0 (fun (vv : Option Value) (ww : va_W) => vv = some (.int (chS i k)) ∧ ww = []) := by
  generalize hQ : (fun (vv : Option Value) (ww : va_W) => vv = some (.int (chS i k)) ∧ ww = []) = Q
  refine Does.go rfl (Nat.le_of_ble_eq_true rfl) [some (.ref (X.2.2.2 (10 + i))), some (.int (nI k))] 0 rfl ?_
  have hl10 := (lit_len ⟨i, hi8⟩).2
  simp only at hl10
  refine r_aload_n rfl 1 rfl d_JStr_charAt_0 ?_
  refine r_callVs1 (st2 := [.int (nI 1)]) i hi8 rfl lk_JStr_isLatin1 ln_JStr_492 (c_JStr_isLatin1 X i hi8) (by first | decide | omega) rfl rfl (Nat.le_of_ble_eq_true rfl) (Nat.le_of_ble_eq_true rfl) (Nat.le_of_ble_eq_true rfl) rfl 4 rfl d_JStr_charAt_1 ?_
  refine r_if_eqN_f 1 (by omega) 7 rfl 16 rfl d_JStr_charAt_4 (by decide) ?_
  refine r_aload_n rfl 8 rfl d_JStr_charAt_7 ?_
  refine r_getfS (nm := "value") (dd := "[B") (v := .ref (X.2.2.2 (30 + i))) (fun A U H h => (Xs h i hi8).2.2.1) (inTB 1379 (by decide +kernel) rfl) 11 rfl d_JStr_charAt_8 ?_
  refine r_iload_n rfl 12 rfl d_JStr_charAt_11 ?_
  refine r_callS1 (st2 := [.int (chS i k)]) (w2 := []) lk_JLat_charAt ln_JStr_495 (c_JLat_charAt X i hi8 k hk hk6) (by first | decide | omega) rfl rfl (Nat.le_of_ble_eq_true rfl) (Nat.le_of_ble_eq_true rfl) (Nat.le_of_ble_eq_true rfl) [] rfl rfl rfl rfl rfl 15 rfl d_JStr_charAt_12 ?_
  exact r_zret rfl (chS_nar ⟨i, hi8⟩ ⟨k, hk6⟩) (Nat.zero_le _) (Nat.zero_le _) d_JStr_charAt_15 (by rw [← hQ]; exact ⟨rfl, rfl⟩)
theorem c_JLat_canEncode (X : Xn) (c : Nat) (hc : c < 128) : Does X 1 M_JLat_canEncode [.int (nI c)] ([]) 0 0 (fun (vv : Option Value) (ww : va_W) => vv = some (.int (nI 1)) ∧ ww = []) := by
  generalize hQ : (fun (vv : Option Value) (ww : va_W) => vv = some (.int (nI 1)) ∧ ww = []) = Q
  refine Does.go rfl (Nat.le_of_ble_eq_true rfl) [some (.int (nI c))] 0 rfl ?_
  refine r_iload_n rfl 1 rfl d_JLat_canEncode_0 ?_
  refine r_if_ltN_f c (by omega) 4 rfl 15 rfl d_JLat_canEncode_1 (Nat.zero_le _) ?_
  refine r_iload_n rfl 5 rfl d_JLat_canEncode_4 ?_
  refine r_sipush (nI 255) rfl 8 rfl d_JLat_canEncode_5 ?_
  refine r_icmp_gtN_f c 255 (by omega) (by omega) 11 rfl 15 rfl d_JLat_canEncode_8 (by omega) ?_
  refine r_iconst (nI 1) rfl 12 rfl d_JLat_canEncode_11 ?_
  refine r_goto 16 rfl d_JLat_canEncode_12 ?_
  exact r_zret rfl (rfl) (Nat.zero_le _) (Nat.zero_le _) d_JLat_canEncode_16 (by rw [← hQ]; exact ⟨rfl, rfl⟩)
theorem c_JLat_indexOfChar (X : Xn) (i : Nat) (hi8 : i < 8) (c : Nat) (hc : c < 128) : Does X 1 M_JLat_indexOfChar [.ref (X.2.2.2 (30 + i)), .int (nI c), .int (nI 0), .int (nI (litL.getD i 0))] ([]) 0 0 (fun (vv : Option Value) (ww : va_W) => vv = some (.int (ixS i c)) ∧ ww = []) := by
  generalize hQ : (fun (vv : Option Value) (ww : va_W) => vv = some (.int (ixS i c)) ∧ ww = []) = Q
  refine Does.go rfl (Nat.le_of_ble_eq_true rfl) [some (.ref (X.2.2.2 (30 + i))), some (.int (nI c)), some (.int (nI 0)), some (.int (nI (litL.getD i 0))), none, none] 2 rfl ?_
  have hl10 := (lit_len ⟨i, hi8⟩).2
  simp only at hl10
  refine r_iload_n rfl 1 rfl d_JLat_indexOfChar_0 ?_
  refine r_i2b 2 rfl d_JLat_indexOfChar_1 ?_
  refine r_topi (nI c) (i8 ⟨c, hc⟩) ?_
  refine r_istore (ls2 := [some (.ref (X.2.2.2 (30 + i))), some (.int (nI c)), some (.int (nI 0)), some (.int (nI (litL.getD i 0))), some (.int (nI c)), none]) 4 rfl d_JLat_indexOfChar_2 (by decide) rfl rfl ?_
  refine r_iload_n rfl 5 rfl d_JLat_indexOfChar_4 ?_
  refine r_istore (ls2 := [some (.ref (X.2.2.2 (30 + i))), some (.int (nI c)), some (.int (nI 0)), some (.int (nI (litL.getD i 0))), some (.int (nI c)), some (.int (nI 0))]) 7 rfl d_JLat_indexOfChar_5 (by decide) rfl rfl ?_
  have L7_1 : ∀ (f : Nat) (k : Nat), (k ≤ litL.getD i 0) → (ixS i c = ixF c ((litB.getD i []).drop k) k) → litL.getD i 0 - k < f → Runs X 1 M_JLat_indexOfChar 0 0 Q 7 [some (.ref (X.2.2.2 (30 + i))), some (.int (nI c)), some (.int (nI 0)), some (.int (nI (litL.getD i 0))), some (.int (nI c)), some (.int (nI k))] [] 0 0 ([]) := by
    intro f
    induction f with
    | zero => intro k hk hr hmu; exact absurd hmu (Nat.not_lt_zero _)
    | succ f ih2 =>
      intro k hk hr hmu
      refine r_iload rfl 9 rfl d_JLat_indexOfChar_7 ?_
      refine r_iload_n rfl 10 rfl d_JLat_indexOfChar_9 ?_
      refine r_icmp_geN k (litL.getD i 0) (by omega) (by omega) 13 31 rfl rfl d_JLat_indexOfChar_10 (fun h10 => ?_) (fun h10 => ?_)
      · refine r_iconst ((-1)) rfl 32 rfl d_JLat_indexOfChar_31 ?_
        exact r_iret rfl (Nat.zero_le _) (Nat.zero_le _) d_JLat_indexOfChar_32 (by rw [← hQ]; exact ⟨by rw [hr, List.drop_eq_nil_of_le (by have := (lit_len ⟨i, hi8⟩).1; simp only at this; omega)]; rfl, rfl⟩)
      · refine r_aload_n rfl 14 rfl d_JLat_indexOfChar_13 ?_
        refine r_iload rfl 16 rfl d_JLat_indexOfChar_14 ?_
        refine r_baldS i hi8 k rfl (by omega) (by omega) 17 rfl d_JLat_indexOfChar_16 ?_
        refine r_iload rfl 19 rfl d_JLat_indexOfChar_17 ?_
        refine r_icmp_ne 22 25 rfl rfl d_JLat_indexOfChar_19 (fun h19 => ?_) (fun h19 => ?_)
        · refine r_iinc (ls2 := [some (.ref (X.2.2.2 (30 + i))), some (.int (nI c)), some (.int (nI 0)), some (.int (nI (litL.getD i 0))), some (.int (nI c)), some (.int (nI (k + 1)))]) (nI (k + 1)) rfl (nI_1 _) 28 rfl d_JLat_indexOfChar_25 (by decide) rfl rfl ?_
          refine r_goto 7 rfl d_JLat_indexOfChar_28 ?_
          exact ih2 (k + 1) (by omega) (by rw [hr, ixF_s (by have := (lit_len ⟨i, hi8⟩).1; simp only at this; omega), if_neg h19]) (by omega)
        · refine r_iload rfl 24 rfl d_JLat_indexOfChar_22 ?_
          exact r_iret rfl (Nat.zero_le _) (Nat.zero_le _) d_JLat_indexOfChar_24 (by rw [← hQ]; exact ⟨by rw [hr, ixF_s (by have := (lit_len ⟨i, hi8⟩).1; simp only at this; omega), if_pos h19], rfl⟩)
  exact L7_1 _ 0 (Nat.zero_le _) (rfl) (Nat.lt_succ_self _)
theorem c_JLat_indexOf (X : Xn) (i : Nat) (hi8 : i < 8) (c : Nat) (hc : c < 128) (hl0 : 0 < litL.getD i 0) : Does X 2 M_JLat_indexOf [.ref (X.2.2.2 (30 + i)), .int (nI c), .int (nI 0), .int (nI (litL.getD i 0))] ([]) 0 0 (fun (vv : Option Value) (ww : va_W) => vv = some (.int (ixS i c)) ∧ ww = []) := by
  generalize hQ : (fun (vv : Option Value) (ww : va_W) => vv = some (.int (ixS i c)) ∧ ww = []) = Q
  refine Does.go rfl (Nat.le_of_ble_eq_true rfl) [some (.ref (X.2.2.2 (30 + i))), some (.int (nI c)), some (.int (nI 0)), some (.int (nI (litL.getD i 0)))] 0 rfl ?_
  have hl10 := (lit_len ⟨i, hi8⟩).2
  simp only at hl10
  refine r_iload_n rfl 1 rfl d_JLat_indexOf_0 ?_
  refine r_callS1 (st2 := [.int (nI 1)]) (w2 := []) lk_JLat_canEncode ln_JLat_88 (c_JLat_canEncode X c (by omega)) (by first | decide | omega) rfl rfl (Nat.le_of_ble_eq_true rfl) (Nat.le_of_ble_eq_true rfl) (Nat.le_of_ble_eq_true rfl) [] rfl rfl rfl rfl rfl 4 rfl d_JLat_indexOf_1 ?_
  refine r_if_neN_t 1 (by omega) 9 rfl d_JLat_indexOf_4 (by decide) ?_
  refine r_iload_n rfl 10 rfl d_JLat_indexOf_9 ?_
  refine r_iconst (nI 0) rfl 11 rfl d_JLat_indexOf_10 ?_
  refine r_mmax (inTB 1115 (by decide +kernel) rfl) (by first | decide | omega) (Nat.le_of_ble_eq_true rfl) (Nat.le_of_ble_eq_true rfl) (Nat.le_of_ble_eq_true rfl) 14 rfl d_JLat_indexOf_11 ?_
  refine r_topi (nI 0) (by decide) ?_
  refine r_istore_n (ls2 := [some (.ref (X.2.2.2 (30 + i))), some (.int (nI c)), some (.int (nI 0)), some (.int (nI (litL.getD i 0)))]) 15 rfl d_JLat_indexOf_14 (by decide) rfl rfl ?_
  refine r_iload_n rfl 16 rfl d_JLat_indexOf_15 ?_
  refine r_aload_n rfl 17 rfl d_JLat_indexOf_16 ?_
  refine r_alenS i hi8 18 rfl d_JLat_indexOf_17 ?_
  refine r_mmin (inTB 1116 (by decide +kernel) rfl) (by first | decide | omega) (Nat.le_of_ble_eq_true rfl) (Nat.le_of_ble_eq_true rfl) (Nat.le_of_ble_eq_true rfl) 21 rfl d_JLat_indexOf_18 ?_
  refine r_topi (nI (litL.getD i 0)) (by rw [if_neg (fun z => by have := (nI_ltI (by omega) (by omega)).mp z; omega)]) ?_
  refine r_istore_n (ls2 := [some (.ref (X.2.2.2 (30 + i))), some (.int (nI c)), some (.int (nI 0)), some (.int (nI (litL.getD i 0)))]) 22 rfl d_JLat_indexOf_21 (by decide) rfl rfl ?_
  refine r_iload_n rfl 23 rfl d_JLat_indexOf_22 ?_
  refine r_iload_n rfl 24 rfl d_JLat_indexOf_23 ?_
  refine r_icmp_ltN_t 0 (litL.getD i 0) (by omega) (by omega) 29 rfl d_JLat_indexOf_24 (hl0) ?_
  refine r_aload_n rfl 30 rfl d_JLat_indexOf_29 ?_
  refine r_iload_n rfl 31 rfl d_JLat_indexOf_30 ?_
  refine r_iload_n rfl 32 rfl d_JLat_indexOf_31 ?_
  refine r_iload_n rfl 33 rfl d_JLat_indexOf_32 ?_
  refine r_callS1 (st2 := [.int (ixS i c)]) (w2 := []) lk_JLat_indexOfChar ln_JLat_95 (c_JLat_indexOfChar X i hi8 c (by omega)) (by first | decide | omega) rfl rfl (Nat.le_of_ble_eq_true rfl) (Nat.le_of_ble_eq_true rfl) (Nat.le_of_ble_eq_true rfl) [] rfl rfl rfl rfl rfl 36 rfl d_JLat_indexOf_33 ?_
  exact r_iret rfl (Nat.zero_le _) (Nat.zero_le _) d_JLat_indexOf_36 (by rw [← hQ]; exact ⟨rfl, rfl⟩)
theorem c_JStr_indexOf2 (X : Xn) (i : Nat) (hi8 : i < 8) (c : Nat) (hc : c < 128) (hl0 : 0 < litL.getD i 0) : Does X 4 M_JStr_indexOf_1 [.ref (X.2.2.2 (10 + i)), .int (nI c), .int (nI 0)] ([]) 0 0 (fun (vv : Option Value) (ww : va_W) => vv = some (.int (ixS i c)) ∧ ww = []) := by
  generalize hQ : (fun (vv : Option Value) (ww : va_W) => vv = some (.int (ixS i c)) ∧ ww = []) = Q
  refine Does.go rfl (Nat.le_of_ble_eq_true rfl) [some (.ref (X.2.2.2 (10 + i))), some (.int (nI c)), some (.int (nI 0))] 0 rfl ?_
  have hl10 := (lit_len ⟨i, hi8⟩).2
  simp only at hl10
  refine r_aload_n rfl 1 rfl d_JStr_indexOf_1_0 ?_
  refine r_callVs1 (st2 := [.int (nI 1)]) i hi8 rfl lk_JStr_isLatin1 ln_JStr_492 (c_JStr_isLatin1 X i hi8) (by first | decide | omega) rfl rfl (Nat.le_of_ble_eq_true rfl) (Nat.le_of_ble_eq_true rfl) (Nat.le_of_ble_eq_true rfl) rfl 4 rfl d_JStr_indexOf_1_1 ?_
  refine r_if_eqN_f 1 (by omega) 7 rfl 23 rfl d_JStr_indexOf_1_4 (by decide) ?_
  refine r_aload_n rfl 8 rfl d_JStr_indexOf_1_7 ?_
  refine r_getfS (nm := "value") (dd := "[B") (v := .ref (X.2.2.2 (30 + i))) (fun A U H h => (Xs h i hi8).2.2.1) (inTB 1379 (by decide +kernel) rfl) 11 rfl d_JStr_indexOf_1_8 ?_
  refine r_iload_n rfl 12 rfl d_JStr_indexOf_1_11 ?_
  refine r_iload_n rfl 13 rfl d_JStr_indexOf_1_12 ?_
  refine r_aload_n rfl 14 rfl d_JStr_indexOf_1_13 ?_
  refine r_callVs1 (st2 := [.int (nI (litL.getD i 0)), .int (nI 0), .int (nI c), .ref (X.2.2.2 (30 + i))]) i hi8 rfl lk_JStr_length ln_JStr_505 (c_JStr_length X i hi8) (by first | decide | omega) rfl rfl (Nat.le_of_ble_eq_true rfl) (Nat.le_of_ble_eq_true rfl) (Nat.le_of_ble_eq_true rfl) rfl 17 rfl d_JStr_indexOf_1_14 ?_
  refine r_callS1 (st2 := [.int (ixS i c)]) (w2 := []) lk_JLat_indexOf ln_JStr_637 (c_JLat_indexOf X i hi8 c (by omega) hl0) (by first | decide | omega) rfl rfl (Nat.le_of_ble_eq_true rfl) (Nat.le_of_ble_eq_true rfl) (Nat.le_of_ble_eq_true rfl) [] rfl rfl rfl rfl rfl 20 rfl d_JStr_indexOf_1_17 ?_
  refine r_goto 36 rfl d_JStr_indexOf_1_20 ?_
  exact r_iret rfl (Nat.zero_le _) (Nat.zero_le _) d_JStr_indexOf_1_36 (by rw [← hQ]; exact ⟨rfl, rfl⟩)
theorem c_JStr_indexOf (X : Xn) (i : Nat) (hi8 : i < 8) (c : Nat) (hc : c < 128) (hl0 : 0 < litL.getD i 0) : Does X 5 M_JStr_indexOf_0 [.ref (X.2.2.2 (10 + i)), .int (nI c)] ([]) 0 0 (fun (vv : Option Value) (ww : va_W) => vv = some (.int (ixS i c)) ∧ ww = []) := by
  generalize hQ : (fun (vv : Option Value) (ww : va_W) => vv = some (.int (ixS i c)) ∧ ww = []) = Q
  refine Does.go rfl (Nat.le_of_ble_eq_true rfl) [some (.ref (X.2.2.2 (10 + i))), some (.int (nI c))] 0 rfl ?_
  have hl10 := (lit_len ⟨i, hi8⟩).2
  simp only at hl10
  refine r_aload_n rfl 1 rfl d_JStr_indexOf_0_0 ?_
  refine r_iload_n rfl 2 rfl d_JStr_indexOf_0_1 ?_
  refine r_iconst (nI 0) rfl 3 rfl d_JStr_indexOf_0_2 ?_
  refine r_callVs1 (st2 := [.int (ixS i c)]) i hi8 rfl lk_JStr_indexOf_1 ln_JStr_633 (c_JStr_indexOf2 X i hi8 c (by omega) hl0) (by first | decide | omega) rfl rfl (Nat.le_of_ble_eq_true rfl) (Nat.le_of_ble_eq_true rfl) (Nat.le_of_ble_eq_true rfl) rfl 6 rfl d_JStr_indexOf_0_3 ?_
  exact r_iret rfl (Nat.zero_le _) (Nat.zero_le _) d_JStr_indexOf_0_6 (by rw [← hQ]; exact ⟨rfl, rfl⟩)
