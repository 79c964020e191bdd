theorem CWt {X : Xn} {a : Nat → Nat} {ν : Nat → Nat → Nat} {σ : Nat → Nat → Int32} {τ : Nat → Nat → Int64} {t : Nat} (h : t < 6) : (CW X a ν σ τ)[71 + 2 * t]? = some (a (71 + 2 * t), .inr (8, [.ref (a (72 + 2 * t)), .int (σ (71 + 2 * t) 1), .int (nI (ν (71 + 2 * t) 2))])) := by
  rcases (show t = 0 ∨ t = 1 ∨ t = 2 ∨ t = 3 ∨ t = 4 ∨ t = 5 by omega) with rfl | rfl | rfl | rfl | rfl | rfl <;> rfl
theorem CWi {X : Xn} {a : Nat → Nat} {ν : Nat → Nat → Nat} {σ : Nat → Nat → Int32} {τ : Nat → Nat → Int64} {t : Nat} (h : t < 6) : (CW X a ν σ τ)[72 + 2 * t]? = some (a (72 + 2 * t), .inl (X.2.2.1 1, 60, .inr (.inl (τ (72 + 2 * t))))) := by
  rcases (show t = 0 ∨ t = 1 ∨ t = 2 ∨ t = 3 ∨ t = 4 ∨ t = 5 by omega) with rfl | rfl | rfl | rfl | rfl | rfl <;> rfl
theorem CWis {X : Xn} {a : Nat → Nat} {ν : Nat → Nat → Nat} {σ : Nat → Nat → Int32} {τ : Nat → Nat → Int64} {t : Nat} {f : Nat → Int64} (h : t < 6) : (CW X a ν σ τ).set (72 + 2 * t) (a (72 + 2 * t), .inl (X.2.2.1 1, 60, .inr (.inl f))) = CW X a ν σ (pu τ (72 + 2 * t) f) := by
  rcases (show t = 0 ∨ t = 1 ∨ t = 2 ∨ t = 3 ∨ t = 4 ∨ t = 5 by omega) with rfl | rfl | rfl | rfl | rfl | rfl <;> rfl
theorem inR_m1 {s : Int32} {h : Nat} (h1 : ¬ s = -1) (h2 : s < 0) : inR s (-1) (nI h) = false := by
  unfold inR
  rw [decide_eq_false (p := (-1 : Int32) ≤ s) (fun z => h1 (Int32.le_antisymm ?_ z))]
  · rfl
  · have a := Int32.lt_iff_toInt_lt.mp h2
    refine Int32.le_iff_toInt_le.mpr ?_
    rw [show (0 : Int32).toInt = 0 from rfl] at a; rw [show (-1 : Int32).toInt = -1 from by decide]; omega
theorem inR_m2 {s : Int32} {h : Nat} (h1 : ¬ s < 0) (h2 : ¬ nI h < s) : inR s (-1) (nI h) = true :=
  inR_in (fun z => h1 (Int32.lt_trans z (by decide))) h2
theorem inR_m3 {s : Int32} {h : Nat} (h2 : nI h < s) : inR s (-1) (nI h) = false := inR_gt h2
def cSo (σ : Nat → Nat → Int32) : Nat → Int32 := fun t => σ (71 + 2 * t) 1
def cSz (ν : Nat → Nat → Nat) : Nat → Int32 := fun t => nI (ν (71 + 2 * t) 2)
def cTa (τ : Nat → Nat → Int64) : Nat → Int64 := fun z => τ (72 + 2 * (z / 60)) (z % 60)
theorem cTa_at {τ : Nat → Nat → Int64} {t i : Nat} (h : i < 60) : cTa τ (60 * t + i) = τ (72 + 2 * t) i := by
  unfold cTa; rw [show (60 * t + i) / 60 = t by omega, show (60 * t + i) % 60 = i by omega]
theorem jd_lt {z k I : Nat} (hz : z ≤ 60) (hk : k ≤ 6) (hI : I < 2 ^ 31) : nI I < nI z - nI k ↔ I + k < z := by
  rw [Int32.lt_iff_toInt_lt, nI_toInt hI, pk_sub_toInt (by omega) (by omega)]; omega
theorem runB_t {z : Nat} {i n : Int32} (hz : z ≤ 60) (h : runB z i n = true) : ∃ I N : Nat, I + N ≤ z ∧ i = nI I ∧ n = nI N := by
  simp only [runB, Bool.and_eq_true, Bool.not_eq_true', decide_eq_false_iff_not, decide_eq_true_eq] at h
  obtain ⟨h1, h2, h3, h4⟩ := h
  obtain ⟨N, hN, rfl⟩ := nI_of (x := n) h1
  obtain ⟨I, hI, rfl⟩ := nI_of (x := i) h2
  rw [nI_leI hN (by omega)] at h3
  rw [Int32.le_iff_toInt_le, nI_toInt hI, pk_sub_toInt (by omega) (by omega)] at h4
  exact ⟨I, N, by omega, rfl, rfl⟩
theorem runB_i {z I N : Nat} (hz : z ≤ 60) (h : I + N ≤ z) : runB z (nI I) (nI N) = true := by
  simp only [runB, Bool.and_eq_true, Bool.not_eq_true', decide_eq_false_iff_not, decide_eq_true_eq]
  refine ⟨fun q => ?_, fun q => ?_, ?_, ?_⟩
  · rw [nI_l0 (by omega)] at q; omega
  · rw [nI_l0 (by omega)] at q; omega
  · rw [nI_leI (by omega) (by omega)]; omega
  · rw [Int32.le_iff_toInt_le, nI_toInt (by omega), pk_sub_toInt (by omega) (by omega)]; omega
/-- in both tapes there is as much -/
theorem shift_b {ν : Nat → Nat → Nat} {σ : Nat → Nat → Int32} {t o : Nat} {i j n : Int32} (ht : t < 6) (ho : o < 6) (hz : ν (71 + 2 * t) 2 ≤ 60) (hz2 : ν (71 + 2 * o) 2 ≤ 60) (h1 : ¬ σ (71 + 2 * t) 1 < 0) (h2 : ¬ σ (71 + 2 * o) 1 < 0) (he : σ (71 + 2 * t) 1 = σ (71 + 2 * o) 1) : b_shift (cSo σ) (cSz ν) (nI t) i (nI o) j n = (runB (ν (71 + 2 * t) 2) i n && runB (ν (71 + 2 * o) 2) j n) := by
  unfold b_shift cSo cSz
  rw [cn_nI (show t < 2 ^ 31 by omega), cn_nI (show o < 2 ^ 31 by omega), cn_nI (show ν (71 + 2 * t) 2 < 2 ^ 31 by omega), cn_nI (show ν (71 + 2 * o) 2 < 2 ^ 31 by omega), inR_in (v := nI t) (by rw [nI_ltI (by omega) (by omega)]; omega) (by rw [nI_ltI (by omega) (by omega)]; omega), inR_in (v := nI o) (by rw [nI_ltI (by omega) (by omega)]; omega) (by rw [nI_ltI (by omega) (by omega)]; omega), decide_eq_true (Int32.not_lt.mp h1), decide_eq_true (Int32.not_lt.mp h2), decide_eq_true he]
  simp only [Bool.true_and]
  rw [Bool.eq_iff_iff]
  simp only [Bool.and_eq_true, decide_eq_true_eq]
  constructor
  · rintro ⟨⟨h3, h4, h5⟩, h6, h7⟩
    obtain ⟨N, hN, rfl⟩ := nI_of (x := n) (Int32.not_lt.mpr h3)
    obtain ⟨I, hI, rfl⟩ := nI_of (x := i) (Int32.not_lt.mpr h4)
    obtain ⟨J, hJ, rfl⟩ := nI_of (x := j) (Int32.not_lt.mpr h5)
    rw [cn_nI hI, cn_nI hN] at h6; rw [cn_nI hJ, cn_nI hN] at h7
    exact ⟨runB_i hz h6, runB_i hz2 h7⟩
  · rintro ⟨h3, h4⟩
    obtain ⟨I, N, hI, rfl, rfl⟩ := runB_t hz h3
    obtain ⟨J, M, hJ, rfl, e⟩ := runB_t hz2 h4
    have hM : M = N := ((nI_eq (by omega) (by omega)).mp e).symm
    subst hM
    rw [cn_nI (show I < 2 ^ 31 by omega), cn_nI (show M < 2 ^ 31 by omega), cn_nI (show J < 2 ^ 31 by omega)]
    refine ⟨⟨?_, ?_, ?_⟩, hI, hJ⟩ <;> exact Int32.not_lt.mp (fun q => by rw [nI_l0 (by omega)] at q; omega)
def M_HB_tapeAt : XM := (⟨"HandshakeBinds", "tapeAt", "(I)LHandshakeBinds$Tape;"⟩, prog_1_method_38_code, 2, (some (.object "HandshakeBinds$Tape")))
theorem d_HB_tapeAt_0 : decode M_HB_tapeAt.2.1 0 = .ok (.iload_n 1, 1) := by decide +kernel
theorem d_HB_tapeAt_1 : decode M_HB_tapeAt.2.1 1 = .ok (.ifCond .lt 21, 3) := by decide +kernel
theorem d_HB_tapeAt_4 : decode M_HB_tapeAt.2.1 4 = .ok (.iload_n 1, 1) := by decide +kernel
theorem d_HB_tapeAt_5 : decode M_HB_tapeAt.2.1 5 = .ok (.aload_n 0, 1) := by decide +kernel
theorem d_HB_tapeAt_6 : decode M_HB_tapeAt.2.1 6 = .ok (.getfield 44, 3) := by decide +kernel
theorem gf_HB_44 : GF "HandshakeBinds" 44 0 5 := ⟨_, _, _, rfl, by decide, i_HB, inTB 322 (by decide +kernel) rfl⟩
theorem d_HB_tapeAt_9 : decode M_HB_tapeAt.2.1 9 = .ok (.arraylength, 1) := by decide +kernel
theorem d_HB_tapeAt_10 : decode M_HB_tapeAt.2.1 10 = .ok (.if_icmp .ge 12, 3) := by decide +kernel
theorem d_HB_tapeAt_13 : decode M_HB_tapeAt.2.1 13 = .ok (.aload_n 0, 1) := by decide +kernel
theorem d_HB_tapeAt_14 : decode M_HB_tapeAt.2.1 14 = .ok (.getfield 44, 3) := by decide +kernel
theorem d_HB_tapeAt_17 : decode M_HB_tapeAt.2.1 17 = .ok (.iload_n 1, 1) := by decide +kernel
theorem d_HB_tapeAt_18 : decode M_HB_tapeAt.2.1 18 = .ok (.aaload, 1) := by decide +kernel
theorem d_HB_tapeAt_19 : decode M_HB_tapeAt.2.1 19 = .ok (.goto 4, 3) := by decide +kernel
theorem d_HB_tapeAt_23 : decode M_HB_tapeAt.2.1 23 = .ok (.areturn, 1) := by decide +kernel
theorem d_HB_tapeAt_22 : decode M_HB_tapeAt.2.1 22 = .ok (.aconst_null, 1) := by decide +kernel
def M_HB_tape : XM := (⟨"HandshakeBinds", "tape", "(III)I"⟩, prog_1_method_31_code, 5, (some .int))
theorem d_HB_tape_0 : decode M_HB_tape.2.1 0 = .ok (.aload_n 0, 1) := by decide +kernel
theorem d_HB_tape_1 : decode M_HB_tape.2.1 1 = .ok (.iload_n 1, 1) := by decide +kernel
theorem d_HB_tape_2 : decode M_HB_tape.2.1 2 = .ok (.invokevirtual 220, 3) := by decide +kernel
theorem ln_HB_220 : Cond.methodLink "HandshakeBinds" 220 M_HB_tapeAt.1 ∈ TB := inTB 741 (by decide +kernel) rfl
theorem lk_HB_tapeAt : LVt M_HB_tapeAt 1 := ⟨⟨inTB 62 (by decide +kernel) rfl, inTB 744 (by decide +kernel) rfl, ⟨by decide, by decide, by decide +kernel⟩, by decide⟩, inTB 743 (by decide +kernel) rfl, inTB 17 (by decide +kernel) rfl⟩
theorem d_HB_tape_5 : decode M_HB_tape.2.1 5 = .ok (.astore 4, 2) := by decide +kernel
theorem d_HB_tape_7 : decode M_HB_tape.2.1 7 = .ok (.aload 4, 2) := by decide +kernel
theorem d_HB_tape_9 : decode M_HB_tape.2.1 9 = .ok (.ifnonnull 5, 3) := by decide +kernel
theorem d_HB_tape_12 : decode M_HB_tape.2.1 12 = .ok (.iconst (-1), 1) := by decide +kernel
theorem d_HB_tape_13 : decode M_HB_tape.2.1 13 = .ok (.ireturn, 1) := by decide +kernel
theorem d_HB_tape_14 : decode M_HB_tape.2.1 14 = .ok (.iload_n 2, 1) := by decide +kernel
theorem d_HB_tape_15 : decode M_HB_tape.2.1 15 = .ok (.iconst (-1), 1) := by decide +kernel
theorem d_HB_tape_16 : decode M_HB_tape.2.1 16 = .ok (.if_icmp .ne 12, 3) := by decide +kernel
theorem d_HB_tape_28 : decode M_HB_tape.2.1 28 = .ok (.iload_n 2, 1) := by decide +kernel
theorem d_HB_tape_29 : decode M_HB_tape.2.1 29 = .ok (.ifCond .lt 14, 3) := by decide +kernel
theorem d_HB_tape_43 : decode M_HB_tape.2.1 43 = .ok (.bipush (-2), 2) := by decide +kernel
theorem d_HB_tape_45 : decode M_HB_tape.2.1 45 = .ok (.ireturn, 1) := by decide +kernel
theorem d_HB_tape_32 : decode M_HB_tape.2.1 32 = .ok (.iload_n 2, 1) := by decide +kernel
theorem d_HB_tape_33 : decode M_HB_tape.2.1 33 = .ok (.iconst 4, 1) := by decide +kernel
theorem d_HB_tape_34 : decode M_HB_tape.2.1 34 = .ok (.if_icmp .gt 9, 3) := by decide +kernel
theorem d_HB_tape_37 : decode M_HB_tape.2.1 37 = .ok (.iload_n 3, 1) := by decide +kernel
theorem d_HB_tape_38 : decode M_HB_tape.2.1 38 = .ok (.bipush 60, 2) := by decide +kernel
theorem d_HB_tape_40 : decode M_HB_tape.2.1 40 = .ok (.if_icmp .le 6, 3) := by decide +kernel
theorem d_HB_tape_46 : decode M_HB_tape.2.1 46 = .ok (.iload_n 3, 1) := by decide +kernel
theorem d_HB_tape_47 : decode M_HB_tape.2.1 47 = .ok (.ifCond .ge 6, 3) := by decide +kernel
theorem d_HB_tape_53 : decode M_HB_tape.2.1 53 = .ok (.aload 4, 2) := by decide +kernel
theorem d_HB_tape_55 : decode M_HB_tape.2.1 55 = .ok (.iload_n 2, 1) := by decide +kernel
theorem d_HB_tape_56 : decode M_HB_tape.2.1 56 = .ok (.iload_n 3, 1) := by decide +kernel
theorem d_HB_tape_57 : decode M_HB_tape.2.1 57 = .ok (.invokevirtual 258, 3) := by decide +kernel
theorem ln_HB_258 : Cond.methodLink "HandshakeBinds" 258 M_Tap_become.1 ∈ TB := inTB 812 (by decide +kernel) rfl
theorem lk_Tap_become : LVt M_Tap_become 2 := ⟨⟨inTB 71 (by decide +kernel) rfl, inTB 815 (by decide +kernel) rfl, ⟨by decide, by decide, by decide +kernel⟩, by decide⟩, inTB 813 (by decide +kernel) rfl, inTB 814 (by decide +kernel) rfl⟩
theorem d_HB_tape_60 : decode M_HB_tape.2.1 60 = .ok (.iconst 1, 1) := by decide +kernel
theorem d_HB_tape_61 : decode M_HB_tape.2.1 61 = .ok (.ireturn, 1) := by decide +kernel
theorem d_HB_tape_50 : decode M_HB_tape.2.1 50 = .ok (.bipush (-14), 2) := by decide +kernel
theorem d_HB_tape_52 : decode M_HB_tape.2.1 52 = .ok (.ireturn, 1) := by decide +kernel
theorem d_HB_tape_19 : decode M_HB_tape.2.1 19 = .ok (.aload 4, 2) := by decide +kernel
theorem d_HB_tape_21 : decode M_HB_tape.2.1 21 = .ok (.iconst (-1), 1) := by decide +kernel
theorem d_HB_tape_22 : decode M_HB_tape.2.1 22 = .ok (.iconst 0, 1) := by decide +kernel
theorem d_HB_tape_23 : decode M_HB_tape.2.1 23 = .ok (.invokevirtual 258, 3) := by decide +kernel
theorem d_HB_tape_26 : decode M_HB_tape.2.1 26 = .ok (.iconst 1, 1) := by decide +kernel
theorem d_HB_tape_27 : decode M_HB_tape.2.1 27 = .ok (.ireturn, 1) := by decide +kernel
def M_HB_item : XM := (⟨"HandshakeBinds", "item", "(IIJ)I"⟩, prog_1_method_32_code, 6, (some .int))
theorem d_HB_item_0 : decode M_HB_item.2.1 0 = .ok (.aload_n 0, 1) := by decide +kernel
theorem d_HB_item_1 : decode M_HB_item.2.1 1 = .ok (.iload_n 1, 1) := by decide +kernel
theorem d_HB_item_2 : decode M_HB_item.2.1 2 = .ok (.invokevirtual 220, 3) := by decide +kernel
theorem d_HB_item_5 : decode M_HB_item.2.1 5 = .ok (.astore 5, 2) := by decide +kernel
theorem d_HB_item_7 : decode M_HB_item.2.1 7 = .ok (.aload 5, 2) := by decide +kernel
theorem d_HB_item_9 : decode M_HB_item.2.1 9 = .ok (.ifnonnull 5, 3) := by decide +kernel
theorem d_HB_item_12 : decode M_HB_item.2.1 12 = .ok (.iconst (-1), 1) := by decide +kernel
theorem d_HB_item_13 : decode M_HB_item.2.1 13 = .ok (.ireturn, 1) := by decide +kernel
theorem d_HB_item_14 : decode M_HB_item.2.1 14 = .ok (.aload 5, 2) := by decide +kernel
theorem d_HB_item_16 : decode M_HB_item.2.1 16 = .ok (.getfield 224, 3) := by decide +kernel
theorem gf_HB_224 : GFn "HandshakeBinds" 224 8 1 := ⟨_, _, _, rfl, by decide, i_Tap, inNW 306 (by decide +kernel) rfl⟩
theorem d_HB_item_19 : decode M_HB_item.2.1 19 = .ok (.iconst (-1), 1) := by decide +kernel
theorem d_HB_item_20 : decode M_HB_item.2.1 20 = .ok (.if_icmp .ne 6, 3) := by decide +kernel
theorem d_HB_item_26 : decode M_HB_item.2.1 26 = .ok (.aload 5, 2) := by decide +kernel
theorem d_HB_item_28 : decode M_HB_item.2.1 28 = .ok (.iload_n 2, 1) := by decide +kernel
theorem d_HB_item_29 : decode M_HB_item.2.1 29 = .ok (.invokevirtual 261, 3) := by decide +kernel
theorem ln_HB_261 : Cond.methodLink "HandshakeBinds" 261 M_Tap_has.1 ∈ TB := inTB 822 (by decide +kernel) rfl
theorem d_HB_item_32 : decode M_HB_item.2.1 32 = .ok (.ifCond .ne 6, 3) := by decide +kernel
theorem d_HB_item_38 : decode M_HB_item.2.1 38 = .ok (.aload 5, 2) := by decide +kernel
theorem d_HB_item_40 : decode M_HB_item.2.1 40 = .ok (.iload_n 2, 1) := by decide +kernel
theorem d_HB_item_41 : decode M_HB_item.2.1 41 = .ok (.lload_n 3, 1) := by decide +kernel
theorem d_HB_item_42 : decode M_HB_item.2.1 42 = .ok (.invokevirtual 264, 3) := by decide +kernel
theorem ln_HB_264 : Cond.methodLink "HandshakeBinds" 264 M_Tap_set.1 ∈ TB := inTB 823 (by decide +kernel) rfl
theorem lk_Tap_set : LVt M_Tap_set 2 := ⟨⟨inTB 71 (by decide +kernel) rfl, inTB 826 (by decide +kernel) rfl, ⟨by decide, by decide, by decide +kernel⟩, by decide⟩, inTB 824 (by decide +kernel) rfl, inTB 825 (by decide +kernel) rfl⟩
theorem d_HB_item_45 : decode M_HB_item.2.1 45 = .ok (.iconst 1, 1) := by decide +kernel
theorem d_HB_item_46 : decode M_HB_item.2.1 46 = .ok (.ireturn, 1) := by decide +kernel
theorem d_HB_item_35 : decode M_HB_item.2.1 35 = .ok (.bipush (-13), 2) := by decide +kernel
theorem d_HB_item_37 : decode M_HB_item.2.1 37 = .ok (.ireturn, 1) := by decide +kernel
theorem d_HB_item_23 : decode M_HB_item.2.1 23 = .ok (.bipush (-11), 2) := by decide +kernel
theorem d_HB_item_25 : decode M_HB_item.2.1 25 = .ok (.ireturn, 1) := by decide +kernel
def M_HB_read : XM := (⟨"HandshakeBinds", "read", "(II)J"⟩, prog_1_method_33_code, 4, (some .long))
theorem d_HB_read_0 : decode M_HB_read.2.1 0 = .ok (.aload_n 0, 1) := by decide +kernel
theorem d_HB_read_1 : decode M_HB_read.2.1 1 = .ok (.iload_n 1, 1) := by decide +kernel
theorem d_HB_read_2 : decode M_HB_read.2.1 2 = .ok (.invokevirtual 220, 3) := by decide +kernel
theorem d_HB_read_5 : decode M_HB_read.2.1 5 = .ok (.astore_n 3, 1) := by decide +kernel
theorem d_HB_read_6 : decode M_HB_read.2.1 6 = .ok (.aload_n 3, 1) := by decide +kernel
theorem d_HB_read_7 : decode M_HB_read.2.1 7 = .ok (.ifnull 11, 3) := by decide +kernel
theorem d_HB_read_18 : decode M_HB_read.2.1 18 = .ok (.ldc2_w 268, 3) := by decide +kernel
theorem d_HB_read_21 : decode M_HB_read.2.1 21 = .ok (.lreturn, 1) := by decide +kernel
theorem d_HB_read_10 : decode M_HB_read.2.1 10 = .ok (.aload_n 3, 1) := by decide +kernel
theorem d_HB_read_11 : decode M_HB_read.2.1 11 = .ok (.iload_n 2, 1) := by decide +kernel
theorem d_HB_read_12 : decode M_HB_read.2.1 12 = .ok (.invokevirtual 261, 3) := by decide +kernel
theorem d_HB_read_15 : decode M_HB_read.2.1 15 = .ok (.ifCond .ne 7, 3) := by decide +kernel
theorem d_HB_read_22 : decode M_HB_read.2.1 22 = .ok (.aload_n 3, 1) := by decide +kernel
theorem d_HB_read_23 : decode M_HB_read.2.1 23 = .ok (.iload_n 2, 1) := by decide +kernel
theorem d_HB_read_24 : decode M_HB_read.2.1 24 = .ok (.invokevirtual 228, 3) := by decide +kernel
theorem ln_HB_228 : Cond.methodLink "HandshakeBinds" 228 M_Tap_get.1 ∈ TB := inTB 745 (by decide +kernel) rfl
theorem lk_Tap_get : LVt M_Tap_get 1 := ⟨⟨inTB 71 (by decide +kernel) rfl, inTB 748 (by decide +kernel) rfl, ⟨by decide, by decide, by decide +kernel⟩, by decide⟩, inTB 746 (by decide +kernel) rfl, inTB 747 (by decide +kernel) rfl⟩
theorem d_HB_read_27 : decode M_HB_read.2.1 27 = .ok (.lreturn, 1) := by decide +kernel
def M_HB_judge : XM := (⟨"HandshakeBinds", "judge", "(II)I"⟩, prog_1_method_24_code, 5, (some .int))
theorem d_HB_judge_0 : decode M_HB_judge.2.1 0 = .ok (.aload_n 0, 1) := by decide +kernel
theorem d_HB_judge_1 : decode M_HB_judge.2.1 1 = .ok (.iload_n 1, 1) := by decide +kernel
theorem d_HB_judge_2 : decode M_HB_judge.2.1 2 = .ok (.invokevirtual 220, 3) := by decide +kernel
theorem d_HB_judge_5 : decode M_HB_judge.2.1 5 = .ok (.astore_n 3, 1) := by decide +kernel
theorem d_HB_judge_6 : decode M_HB_judge.2.1 6 = .ok (.aload_n 3, 1) := by decide +kernel
theorem d_HB_judge_7 : decode M_HB_judge.2.1 7 = .ok (.ifnonnull 5, 3) := by decide +kernel
theorem d_HB_judge_10 : decode M_HB_judge.2.1 10 = .ok (.iconst (-1), 1) := by decide +kernel
theorem d_HB_judge_11 : decode M_HB_judge.2.1 11 = .ok (.ireturn, 1) := by decide +kernel
theorem d_HB_judge_12 : decode M_HB_judge.2.1 12 = .ok (.aload_n 3, 1) := by decide +kernel
theorem d_HB_judge_13 : decode M_HB_judge.2.1 13 = .ok (.getfield 224, 3) := by decide +kernel
theorem d_HB_judge_16 : decode M_HB_judge.2.1 16 = .ok (.iconst (-1), 1) := by decide +kernel
theorem d_HB_judge_17 : decode M_HB_judge.2.1 17 = .ok (.if_icmp .eq 14, 3) := by decide +kernel
theorem d_HB_judge_31 : decode M_HB_judge.2.1 31 = .ok (.iconst 0, 1) := by decide +kernel
theorem d_HB_judge_32 : decode M_HB_judge.2.1 32 = .ok (.istore 4, 2) := by decide +kernel
theorem d_HB_judge_34 : decode M_HB_judge.2.1 34 = .ok (.iload 4, 2) := by decide +kernel
theorem d_HB_judge_36 : decode M_HB_judge.2.1 36 = .ok (.aload_n 0, 1) := by decide +kernel
theorem d_HB_judge_37 : decode M_HB_judge.2.1 37 = .ok (.getfield 12, 3) := by decide +kernel
theorem d_HB_judge_40 : decode M_HB_judge.2.1 40 = .ok (.getfield 49, 3) := by decide +kernel
theorem d_HB_judge_43 : decode M_HB_judge.2.1 43 = .ok (.getfield 52, 3) := by decide +kernel
theorem d_HB_judge_46 : decode M_HB_judge.2.1 46 = .ok (.if_icmp .ge 58, 3) := by decide +kernel
theorem d_HB_judge_104 : decode M_HB_judge.2.1 104 = .ok (.bipush (-5), 2) := by decide +kernel
theorem d_HB_judge_106 : decode M_HB_judge.2.1 106 = .ok (.ireturn, 1) := by decide +kernel
theorem d_HB_judge_49 : decode M_HB_judge.2.1 49 = .ok (.iload_n 2, 1) := by decide +kernel
theorem d_HB_judge_50 : decode M_HB_judge.2.1 50 = .ok (.ifCond .lt 14, 3) := by decide +kernel
theorem d_HB_judge_64 : decode M_HB_judge.2.1 64 = .ok (.bipush 100, 2) := by decide +kernel
theorem d_HB_judge_66 : decode M_HB_judge.2.1 66 = .ok (.iload 4, 2) := by decide +kernel
theorem d_HB_judge_68 : decode M_HB_judge.2.1 68 = .ok (.iadd, 1) := by decide +kernel
theorem d_HB_judge_69 : decode M_HB_judge.2.1 69 = .ok (.ireturn, 1) := by decide +kernel
theorem d_HB_judge_53 : decode M_HB_judge.2.1 53 = .ok (.iload_n 2, 1) := by decide +kernel
theorem d_HB_judge_54 : decode M_HB_judge.2.1 54 = .ok (.aload_n 3, 1) := by decide +kernel
theorem d_HB_judge_55 : decode M_HB_judge.2.1 55 = .ok (.getfield 227, 3) := by decide +kernel
theorem gf_HB_227 : GFn "HandshakeBinds" 227 8 2 := ⟨_, _, _, rfl, by decide, i_Tap, inNW 308 (by decide +kernel) rfl⟩
theorem d_HB_judge_58 : decode M_HB_judge.2.1 58 = .ok (.iload 4, 2) := by decide +kernel
theorem d_HB_judge_60 : decode M_HB_judge.2.1 60 = .ok (.isub, 1) := by decide +kernel
theorem d_HB_judge_61 : decode M_HB_judge.2.1 61 = .ok (.if_icmp .lt 9, 3) := by decide +kernel
theorem d_HB_judge_70 : decode M_HB_judge.2.1 70 = .ok (.aload_n 3, 1) := by decide +kernel
theorem d_HB_judge_71 : decode M_HB_judge.2.1 71 = .ok (.iload_n 2, 1) := by decide +kernel
theorem d_HB_judge_72 : decode M_HB_judge.2.1 72 = .ok (.iload 4, 2) := by decide +kernel
theorem d_HB_judge_74 : decode M_HB_judge.2.1 74 = .ok (.iadd, 1) := by decide +kernel
theorem d_HB_judge_75 : decode M_HB_judge.2.1 75 = .ok (.invokevirtual 228, 3) := by decide +kernel
theorem d_HB_judge_78 : decode M_HB_judge.2.1 78 = .ok (.aload_n 0, 1) := by decide +kernel
theorem d_HB_judge_79 : decode M_HB_judge.2.1 79 = .ok (.getfield 12, 3) := by decide +kernel
theorem d_HB_judge_82 : decode M_HB_judge.2.1 82 = .ok (.getfield 49, 3) := by decide +kernel
theorem d_HB_judge_85 : decode M_HB_judge.2.1 85 = .ok (.iload 4, 2) := by decide +kernel
theorem d_HB_judge_87 : decode M_HB_judge.2.1 87 = .ok (.invokevirtual 86, 3) := by decide +kernel
theorem d_HB_judge_90 : decode M_HB_judge.2.1 90 = .ok (.i2l, 1) := by decide +kernel
theorem d_HB_judge_91 : decode M_HB_judge.2.1 91 = .ok (.lcmp, 1) := by decide +kernel
theorem d_HB_judge_92 : decode M_HB_judge.2.1 92 = .ok (.ifCond .eq 6, 3) := by decide +kernel
theorem d_HB_judge_98 : decode M_HB_judge.2.1 98 = .ok (.iinc 4 1, 3) := by decide +kernel
theorem d_HB_judge_101 : decode M_HB_judge.2.1 101 = .ok (.goto (-67), 3) := by decide +kernel
theorem d_HB_judge_95 : decode M_HB_judge.2.1 95 = .ok (.iload 4, 2) := by decide +kernel
theorem d_HB_judge_97 : decode M_HB_judge.2.1 97 = .ok (.ireturn, 1) := by decide +kernel
theorem d_HB_judge_20 : decode M_HB_judge.2.1 20 = .ok (.aload_n 3, 1) := by decide +kernel
theorem d_HB_judge_21 : decode M_HB_judge.2.1 21 = .ok (.getfield 224, 3) := by decide +kernel
theorem d_HB_judge_24 : decode M_HB_judge.2.1 24 = .ok (.iconst 2, 1) := by decide +kernel
theorem d_HB_judge_25 : decode M_HB_judge.2.1 25 = .ok (.if_icmp .eq 6, 3) := by decide +kernel
theorem d_HB_judge_28 : decode M_HB_judge.2.1 28 = .ok (.bipush (-12), 2) := by decide +kernel
theorem d_HB_judge_30 : decode M_HB_judge.2.1 30 = .ok (.ireturn, 1) := by decide +kernel
def M_HB_shift : XM := (⟨"HandshakeBinds", "shift", "(IIIII)I"⟩, prog_1_method_34_code, 8, (some .int))
theorem d_HB_shift_0 : decode M_HB_shift.2.1 0 = .ok (.aload_n 0, 1) := by decide +kernel
theorem d_HB_shift_1 : decode M_HB_shift.2.1 1 = .ok (.iload_n 1, 1) := by decide +kernel
theorem d_HB_shift_2 : decode M_HB_shift.2.1 2 = .ok (.invokevirtual 220, 3) := by decide +kernel
theorem d_HB_shift_5 : decode M_HB_shift.2.1 5 = .ok (.astore 6, 2) := by decide +kernel
theorem d_HB_shift_7 : decode M_HB_shift.2.1 7 = .ok (.aload_n 0, 1) := by decide +kernel
theorem d_HB_shift_8 : decode M_HB_shift.2.1 8 = .ok (.iload_n 3, 1) := by decide +kernel
theorem d_HB_shift_9 : decode M_HB_shift.2.1 9 = .ok (.invokevirtual 220, 3) := by decide +kernel
theorem d_HB_shift_12 : decode M_HB_shift.2.1 12 = .ok (.astore 7, 2) := by decide +kernel
theorem d_HB_shift_14 : decode M_HB_shift.2.1 14 = .ok (.aload 6, 2) := by decide +kernel
theorem d_HB_shift_16 : decode M_HB_shift.2.1 16 = .ok (.ifnull 8, 3) := by decide +kernel
theorem d_HB_shift_24 : decode M_HB_shift.2.1 24 = .ok (.iconst (-1), 1) := by decide +kernel
theorem d_HB_shift_25 : decode M_HB_shift.2.1 25 = .ok (.ireturn, 1) := by decide +kernel
theorem d_HB_shift_19 : decode M_HB_shift.2.1 19 = .ok (.aload 7, 2) := by decide +kernel
theorem d_HB_shift_21 : decode M_HB_shift.2.1 21 = .ok (.ifnonnull 5, 3) := by decide +kernel
theorem d_HB_shift_26 : decode M_HB_shift.2.1 26 = .ok (.aload 6, 2) := by decide +kernel
theorem d_HB_shift_28 : decode M_HB_shift.2.1 28 = .ok (.getfield 224, 3) := by decide +kernel
theorem d_HB_shift_31 : decode M_HB_shift.2.1 31 = .ok (.iconst (-1), 1) := by decide +kernel
theorem d_HB_shift_32 : decode M_HB_shift.2.1 32 = .ok (.if_icmp .eq 12, 3) := by decide +kernel
theorem d_HB_shift_44 : decode M_HB_shift.2.1 44 = .ok (.bipush (-11), 2) := by decide +kernel
theorem d_HB_shift_46 : decode M_HB_shift.2.1 46 = .ok (.ireturn, 1) := by decide +kernel
theorem d_HB_shift_35 : decode M_HB_shift.2.1 35 = .ok (.aload 7, 2) := by decide +kernel
theorem d_HB_shift_37 : decode M_HB_shift.2.1 37 = .ok (.getfield 224, 3) := by decide +kernel
theorem d_HB_shift_40 : decode M_HB_shift.2.1 40 = .ok (.iconst (-1), 1) := by decide +kernel
theorem d_HB_shift_41 : decode M_HB_shift.2.1 41 = .ok (.if_icmp .ne 6, 3) := by decide +kernel
theorem d_HB_shift_47 : decode M_HB_shift.2.1 47 = .ok (.aload 6, 2) := by decide +kernel
theorem d_HB_shift_49 : decode M_HB_shift.2.1 49 = .ok (.getfield 224, 3) := by decide +kernel
theorem d_HB_shift_52 : decode M_HB_shift.2.1 52 = .ok (.aload 7, 2) := by decide +kernel
theorem d_HB_shift_54 : decode M_HB_shift.2.1 54 = .ok (.getfield 224, 3) := by decide +kernel
theorem d_HB_shift_57 : decode M_HB_shift.2.1 57 = .ok (.if_icmp .eq 6, 3) := by decide +kernel
theorem d_HB_shift_63 : decode M_HB_shift.2.1 63 = .ok (.aload 6, 2) := by decide +kernel
theorem d_HB_shift_65 : decode M_HB_shift.2.1 65 = .ok (.iload_n 2, 1) := by decide +kernel
theorem d_HB_shift_66 : decode M_HB_shift.2.1 66 = .ok (.iload 5, 2) := by decide +kernel
theorem d_HB_shift_68 : decode M_HB_shift.2.1 68 = .ok (.invokevirtual 270, 3) := by decide +kernel
theorem ln_HB_270 : Cond.methodLink "HandshakeBinds" 270 M_Tap_hasRun.1 ∈ TB := inTB 839 (by decide +kernel) rfl
theorem lk_Tap_hasRun : LVt M_Tap_hasRun 2 := ⟨⟨inTB 71 (by decide +kernel) rfl, inTB 842 (by decide +kernel) rfl, ⟨by decide, by decide, by decide +kernel⟩, by decide⟩, inTB 840 (by decide +kernel) rfl, inTB 841 (by decide +kernel) rfl⟩
theorem d_HB_shift_71 : decode M_HB_shift.2.1 71 = .ok (.ifCond .eq 15, 3) := by decide +kernel
theorem d_HB_shift_86 : decode M_HB_shift.2.1 86 = .ok (.bipush (-13), 2) := by decide +kernel
theorem d_HB_shift_88 : decode M_HB_shift.2.1 88 = .ok (.ireturn, 1) := by decide +kernel
theorem d_HB_shift_74 : decode M_HB_shift.2.1 74 = .ok (.aload 7, 2) := by decide +kernel
theorem d_HB_shift_76 : decode M_HB_shift.2.1 76 = .ok (.iload 4, 2) := by decide +kernel
theorem d_HB_shift_78 : decode M_HB_shift.2.1 78 = .ok (.iload 5, 2) := by decide +kernel
theorem d_HB_shift_80 : decode M_HB_shift.2.1 80 = .ok (.invokevirtual 270, 3) := by decide +kernel
theorem d_HB_shift_83 : decode M_HB_shift.2.1 83 = .ok (.ifCond .ne 6, 3) := by decide +kernel
theorem d_HB_shift_89 : decode M_HB_shift.2.1 89 = .ok (.aload 6, 2) := by decide +kernel
theorem d_HB_shift_91 : decode M_HB_shift.2.1 91 = .ok (.getfield 274, 3) := by decide +kernel
theorem gf_HB_274 : GFn "HandshakeBinds" 274 8 0 := ⟨_, _, _, rfl, by decide, i_Tap, inNW 304 (by decide +kernel) rfl⟩
theorem d_HB_shift_94 : decode M_HB_shift.2.1 94 = .ok (.iload_n 2, 1) := by decide +kernel
theorem d_HB_shift_95 : decode M_HB_shift.2.1 95 = .ok (.aload 7, 2) := by decide +kernel
theorem d_HB_shift_97 : decode M_HB_shift.2.1 97 = .ok (.getfield 274, 3) := by decide +kernel
theorem d_HB_shift_100 : decode M_HB_shift.2.1 100 = .ok (.iload 4, 2) := by decide +kernel
theorem d_HB_shift_102 : decode M_HB_shift.2.1 102 = .ok (.iload 5, 2) := by decide +kernel
theorem d_HB_shift_104 : decode M_HB_shift.2.1 104 = .ok (.invokestatic 278, 3) := by decide +kernel
theorem d_HB_shift_107 : decode M_HB_shift.2.1 107 = .ok (.iload 5, 2) := by decide +kernel
theorem d_HB_shift_109 : decode M_HB_shift.2.1 109 = .ok (.ireturn, 1) := by decide +kernel
theorem d_HB_shift_60 : decode M_HB_shift.2.1 60 = .ok (.bipush (-12), 2) := by decide +kernel
theorem d_HB_shift_62 : decode M_HB_shift.2.1 62 = .ok (.ireturn, 1) := by decide +kernel
theorem c_HB_tapeAt1 (X : Xn) (a : Nat → Nat) (ν : Nat → Nat → Nat) (σ : Nat → Nat → Int32) (τ : Nat → Nat → Int64)  (e : Nat) (he : e < 6) : Does X 1 M_HB_tapeAt [.ref (a 0), .int (nI e)] (CW X a ν σ τ) 0 0 (fun (vv : Option Value) (ww : va_W) => vv = some (.ref (a (71 + 2 * e))) ∧ ww = CW X a ν σ τ) := by
  generalize hQ : (fun (vv : Option Value) (ww : va_W) => vv = some (.ref (a (71 + 2 * e))) ∧ ww = CW X a ν σ τ) = Q
  refine Does.go rfl (Nat.le_of_ble_eq_true rfl) [some (.ref (a 0)), some (.int (nI e))] 0 rfl ?_
  refine r_iload_n rfl 1 rfl d_HB_tapeAt_0 ?_
  refine r_if_ltN_f e (by omega) 4 rfl 22 rfl d_HB_tapeAt_1 (by omega) ?_
  refine r_iload_n rfl 5 rfl d_HB_tapeAt_4 ?_
  refine r_aload_n rfl 6 rfl d_HB_tapeAt_5 ?_
  refine r_getf (v := .ref (a 70)) gf_HB_44 0 rfl rfl 9 rfl d_HB_tapeAt_6 ?_
  refine r_alenT 70 rfl 10 rfl d_HB_tapeAt_9 ?_
  refine r_icmp_geN_f e 6 (by omega) (by omega) 13 rfl 22 rfl d_HB_tapeAt_10 (by omega) ?_
  refine r_aload_n rfl 14 rfl d_HB_tapeAt_13 ?_
  refine r_getf (v := .ref (a 70)) gf_HB_44 0 rfl rfl 17 rfl d_HB_tapeAt_14 ?_
  refine r_iload_n rfl 18 rfl d_HB_tapeAt_17 ?_
  refine r_aaldT 70 rfl e (a (71 + 2 * e)) rfl (by omega) (by omega) (rfl) 19 rfl d_HB_tapeAt_18 ?_
  refine r_goto 23 rfl d_HB_tapeAt_19 ?_
  exact r_aret rfl (Or.inr ⟨_, rfl⟩) (Nat.zero_le _) (Nat.zero_le _) d_HB_tapeAt_23 (by rw [← hQ]; exact ⟨rfl, rfl⟩)
theorem c_HB_tapeAt0 (X : Xn) (a : Nat → Nat) (ν : Nat → Nat → Nat) (σ : Nat → Nat → Int32) (τ : Nat → Nat → Int64)  (t : Int32) (ho : inR t (nI 0) (nI 5) = false) : Does X 1 M_HB_tapeAt [.ref (a 0), .int t] (CW X a ν σ τ) 0 0 (fun (vv : Option Value) (ww : va_W) => vv = some .null ∧ ww = CW X a ν σ τ) := by
  generalize hQ : (fun (vv : Option Value) (ww : va_W) => vv = some .null ∧ ww = CW X a ν σ τ) = Q
  refine Does.go rfl (Nat.le_of_ble_eq_true rfl) [some (.ref (a 0)), some (.int t)] 0 rfl ?_
  refine r_iload_n rfl 1 rfl d_HB_tapeAt_0 ?_
  refine r_if_lt 4 22 rfl rfl d_HB_tapeAt_1 (fun h1 => ?_) (fun h1 => ?_)
  · refine r_null 23 rfl d_HB_tapeAt_22 ?_
    exact r_aret rfl (Or.inl rfl) (Nat.zero_le _) (Nat.zero_le _) d_HB_tapeAt_23 (by rw [← hQ]; exact ⟨rfl, rfl⟩)
  · refine r_iload_n rfl 5 rfl d_HB_tapeAt_4 ?_
    refine r_aload_n rfl 6 rfl d_HB_tapeAt_5 ?_
    refine r_getf (v := .ref (a 70)) gf_HB_44 0 rfl rfl 9 rfl d_HB_tapeAt_6 ?_
    refine r_alenT 70 rfl 10 rfl d_HB_tapeAt_9 ?_
    refine r_icmp_ge 13 22 rfl rfl d_HB_tapeAt_10 (fun h10 => ?_) (fun h10 => ?_)
    · refine r_null 23 rfl d_HB_tapeAt_22 ?_
      exact r_aret rfl (Or.inl rfl) (Nat.zero_le _) (Nat.zero_le _) d_HB_tapeAt_23 (by rw [← hQ]; exact ⟨rfl, rfl⟩)
    · exact absurd (inR_l1 (h := 5) (by decide) h1 (Int32.not_le.mp h10)) (by rw [ho]; decide)
theorem c_C_has (X : Xn) (a : Nat → Nat) (ν : Nat → Nat → Nat) (σ : Nat → Nat → Int32) (τ : Nat → Nat → Int64) (t : Nat) (ht : t < 6) (i : Int32) (hz : ν (71 + 2 * t) 2 ≤ 60) : Does X 1 M_Tap_has [.ref (a (71 + 2 * t)), .int i] (CW X a ν σ τ) 0 0 (fun (vv : Option Value) (ww : va_W) => vv = some (.int (bI (inR i (nI 0) (nI (ν (71 + 2 * t) 2) - 1)))) ∧ ww = CW X a ν σ τ) := by
  rcases (show t = 0 ∨ t = 1 ∨ t = 2 ∨ t = 3 ∨ t = 4 ∨ t = 5 by omega) with rfl | rfl | rfl | rfl | rfl | rfl
  · exact (Does.frame (c_Tap_has X (pl [71, 72] a) (pl [71, 72] ν) (pl [71, 72] σ) (pl [71, 72] τ) i hz) [71, 72] rfl (by decide) (fun v w0 hq => by rw [hq.2]; all_goals rfl)).mono (fun v w2 hq => by obtain ⟨w0, hq, rfl⟩ := hq; rw [hq.2]; exact ⟨hq.1, rfl⟩)
  · exact (Does.frame (c_Tap_has X (pl [73, 74] a) (pl [73, 74] ν) (pl [73, 74] σ) (pl [73, 74] τ) i hz) [73, 74] rfl (by decide) (fun v w0 hq => by rw [hq.2]; all_goals rfl)).mono (fun v w2 hq => by obtain ⟨w0, hq, rfl⟩ := hq; rw [hq.2]; exact ⟨hq.1, rfl⟩)
  · exact (Does.frame (c_Tap_has X (pl [75, 76] a) (pl [75, 76] ν) (pl [75, 76] σ) (pl [75, 76] τ) i hz) [75, 76] rfl (by decide) (fun v w0 hq => by rw [hq.2]; all_goals rfl)).mono (fun v w2 hq => by obtain ⟨w0, hq, rfl⟩ := hq; rw [hq.2]; exact ⟨hq.1, rfl⟩)
  · exact (Does.frame (c_Tap_has X (pl [77, 78] a) (pl [77, 78] ν) (pl [77, 78] σ) (pl [77, 78] τ) i hz) [77, 78] rfl (by decide) (fun v w0 hq => by rw [hq.2]; all_goals rfl)).mono (fun v w2 hq => by obtain ⟨w0, hq, rfl⟩ := hq; rw [hq.2]; exact ⟨hq.1, rfl⟩)
  · exact (Does.frame (c_Tap_has X (pl [79, 80] a) (pl [79, 80] ν) (pl [79, 80] σ) (pl [79, 80] τ) i hz) [79, 80] rfl (by decide) (fun v w0 hq => by rw [hq.2]; all_goals rfl)).mono (fun v w2 hq => by obtain ⟨w0, hq, rfl⟩ := hq; rw [hq.2]; exact ⟨hq.1, rfl⟩)
  · exact (Does.frame (c_Tap_has X (pl [81, 82] a) (pl [81, 82] ν) (pl [81, 82] σ) (pl [81, 82] τ) i hz) [81, 82] rfl (by decide) (fun v w0 hq => by rw [hq.2]; all_goals rfl)).mono (fun v w2 hq => by obtain ⟨w0, hq, rfl⟩ := hq; rw [hq.2]; exact ⟨hq.1, rfl⟩)
theorem c_C_get (X : Xn) (a : Nat → Nat) (ν : Nat → Nat → Nat) (σ : Nat → Nat → Int32) (τ : Nat → Nat → Int64) (t : Nat) (ht : t < 6) (i : Nat) (hi : i < ν (71 + 2 * t) 2) (hz : ν (71 + 2 * t) 2 ≤ 60) : Does X 2 M_Tap_get [.ref (a (71 + 2 * t)), .int (nI i)] (CW X a ν σ τ) 0 0 (fun (vv : Option Value) (ww : va_W) => vv = some (.long (τ (72 + 2 * t) i)) ∧ ww = CW X a ν σ τ) := by
  rcases (show t = 0 ∨ t = 1 ∨ t = 2 ∨ t = 3 ∨ t = 4 ∨ t = 5 by omega) with rfl | rfl | rfl | rfl | rfl | rfl
  · exact (Does.frame (c_Tap_get X (pl [71, 72] a) (pl [71, 72] ν) (pl [71, 72] σ) (pl [71, 72] τ) i hi hz) [71, 72] rfl (by decide) (fun v w0 hq => by rw [hq.2]; all_goals rfl)).mono (fun v w2 hq => by obtain ⟨w0, hq, rfl⟩ := hq; rw [hq.2]; exact ⟨hq.1, rfl⟩)
  · exact (Does.frame (c_Tap_get X (pl [73, 74] a) (pl [73, 74] ν) (pl [73, 74] σ) (pl [73, 74] τ) i hi hz) [73, 74] rfl (by decide) (fun v w0 hq => by rw [hq.2]; all_goals rfl)).mono (fun v w2 hq => by obtain ⟨w0, hq, rfl⟩ := hq; rw [hq.2]; exact ⟨hq.1, rfl⟩)
  · exact (Does.frame (c_Tap_get X (pl [75, 76] a) (pl [75, 76] ν) (pl [75, 76] σ) (pl [75, 76] τ) i hi hz) [75, 76] rfl (by decide) (fun v w0 hq => by rw [hq.2]; all_goals rfl)).mono (fun v w2 hq => by obtain ⟨w0, hq, rfl⟩ := hq; rw [hq.2]; exact ⟨hq.1, rfl⟩)
  · exact (Does.frame (c_Tap_get X (pl [77, 78] a) (pl [77, 78] ν) (pl [77, 78] σ) (pl [77, 78] τ) i hi hz) [77, 78] rfl (by decide) (fun v w0 hq => by rw [hq.2]; all_goals rfl)).mono (fun v w2 hq => by obtain ⟨w0, hq, rfl⟩ := hq; rw [hq.2]; exact ⟨hq.1, rfl⟩)
  · exact (Does.frame (c_Tap_get X (pl [79, 80] a) (pl [79, 80] ν) (pl [79, 80] σ) (pl [79, 80] τ) i hi hz) [79, 80] rfl (by decide) (fun v w0 hq => by rw [hq.2]; all_goals rfl)).mono (fun v w2 hq => by obtain ⟨w0, hq, rfl⟩ := hq; rw [hq.2]; exact ⟨hq.1, rfl⟩)
  · exact (Does.frame (c_Tap_get X (pl [81, 82] a) (pl [81, 82] ν) (pl [81, 82] σ) (pl [81, 82] τ) i hi hz) [81, 82] rfl (by decide) (fun v w0 hq => by rw [hq.2]; all_goals rfl)).mono (fun v w2 hq => by obtain ⟨w0, hq, rfl⟩ := hq; rw [hq.2]; exact ⟨hq.1, rfl⟩)
theorem c_C_set (X : Xn) (a : Nat → Nat) (ν : Nat → Nat → Nat) (σ : Nat → Nat → Int32) (τ : Nat → Nat → Int64) (t : Nat) (ht : t < 6) (i : Nat) (v : Int64) (hi : i < ν (71 + 2 * t) 2) (hz : ν (71 + 2 * t) 2 ≤ 60) : Does X 2 M_Tap_set [.ref (a (71 + 2 * t)), .int (nI i), .long v] (CW X a ν σ τ) 0 0 (fun (vv : Option Value) (ww : va_W) => vv = none ∧ ww = CW X a ν σ (pu τ (72 + 2 * t) (vp_updL (τ (72 + 2 * t)) i (keptC (σ (71 + 2 * t) 1) v)))) := by
  rcases (show t = 0 ∨ t = 1 ∨ t = 2 ∨ t = 3 ∨ t = 4 ∨ t = 5 by omega) with rfl | rfl | rfl | rfl | rfl | rfl
  · exact (Does.frame (c_Tap_set X (pl [71, 72] a) (pl [71, 72] ν) (pl [71, 72] σ) (pl [71, 72] τ) i v hi hz) [71, 72] rfl (by decide) (fun v w0 hq => by rw [hq.2]; all_goals rfl)).mono (fun v w2 hq => by obtain ⟨w0, hq, rfl⟩ := hq; rw [hq.2]; exact ⟨hq.1, rfl⟩)
  · exact (Does.frame (c_Tap_set X (pl [73, 74] a) (pl [73, 74] ν) (pl [73, 74] σ) (pl [73, 74] τ) i v hi hz) [73, 74] rfl (by decide) (fun v w0 hq => by rw [hq.2]; all_goals rfl)).mono (fun v w2 hq => by obtain ⟨w0, hq, rfl⟩ := hq; rw [hq.2]; exact ⟨hq.1, rfl⟩)
  · exact (Does.frame (c_Tap_set X (pl [75, 76] a) (pl [75, 76] ν) (pl [75, 76] σ) (pl [75, 76] τ) i v hi hz) [75, 76] rfl (by decide) (fun v w0 hq => by rw [hq.2]; all_goals rfl)).mono (fun v w2 hq => by obtain ⟨w0, hq, rfl⟩ := hq; rw [hq.2]; exact ⟨hq.1, rfl⟩)
  · exact (Does.frame (c_Tap_set X (pl [77, 78] a) (pl [77, 78] ν) (pl [77, 78] σ) (pl [77, 78] τ) i v hi hz) [77, 78] rfl (by decide) (fun v w0 hq => by rw [hq.2]; all_goals rfl)).mono (fun v w2 hq => by obtain ⟨w0, hq, rfl⟩ := hq; rw [hq.2]; exact ⟨hq.1, rfl⟩)
  · exact (Does.frame (c_Tap_set X (pl [79, 80] a) (pl [79, 80] ν) (pl [79, 80] σ) (pl [79, 80] τ) i v hi hz) [79, 80] rfl (by decide) (fun v w0 hq => by rw [hq.2]; all_goals rfl)).mono (fun v w2 hq => by obtain ⟨w0, hq, rfl⟩ := hq; rw [hq.2]; exact ⟨hq.1, rfl⟩)
  · exact (Does.frame (c_Tap_set X (pl [81, 82] a) (pl [81, 82] ν) (pl [81, 82] σ) (pl [81, 82] τ) i v hi hz) [81, 82] rfl (by decide) (fun v w0 hq => by rw [hq.2]; all_goals rfl)).mono (fun v w2 hq => by obtain ⟨w0, hq, rfl⟩ := hq; rw [hq.2]; exact ⟨hq.1, rfl⟩)
theorem c_C_hasRun (X : Xn) (a : Nat → Nat) (ν : Nat → Nat → Nat) (σ : Nat → Nat → Int32) (τ : Nat → Nat → Int64) (t : Nat) (ht : t < 6) (i n : Int32)  : Does X 1 M_Tap_hasRun [.ref (a (71 + 2 * t)), .int i, .int n] (CW X a ν σ τ) 0 0 (fun (vv : Option Value) (ww : va_W) => vv = some (.int (bI (runB (ν (71 + 2 * t) 2) i n))) ∧ ww = CW X a ν σ τ) := by
  rcases (show t = 0 ∨ t = 1 ∨ t = 2 ∨ t = 3 ∨ t = 4 ∨ t = 5 by omega) with rfl | rfl | rfl | rfl | rfl | rfl
  · exact (Does.frame (c_Tap_hasRun X (pl [71, 72] a) (pl [71, 72] ν) (pl [71, 72] σ) (pl [71, 72] τ) i n) [71, 72] rfl (by decide) (fun v w0 hq => by rw [hq.2]; all_goals rfl)).mono (fun v w2 hq => by obtain ⟨w0, hq, rfl⟩ := hq; rw [hq.2]; exact ⟨hq.1, rfl⟩)
  · exact (Does.frame (c_Tap_hasRun X (pl [73, 74] a) (pl [73, 74] ν) (pl [73, 74] σ) (pl [73, 74] τ) i n) [73, 74] rfl (by decide) (fun v w0 hq => by rw [hq.2]; all_goals rfl)).mono (fun v w2 hq => by obtain ⟨w0, hq, rfl⟩ := hq; rw [hq.2]; exact ⟨hq.1, rfl⟩)
  · exact (Does.frame (c_Tap_hasRun X (pl [75, 76] a) (pl [75, 76] ν) (pl [75, 76] σ) (pl [75, 76] τ) i n) [75, 76] rfl (by decide) (fun v w0 hq => by rw [hq.2]; all_goals rfl)).mono (fun v w2 hq => by obtain ⟨w0, hq, rfl⟩ := hq; rw [hq.2]; exact ⟨hq.1, rfl⟩)
  · exact (Does.frame (c_Tap_hasRun X (pl [77, 78] a) (pl [77, 78] ν) (pl [77, 78] σ) (pl [77, 78] τ) i n) [77, 78] rfl (by decide) (fun v w0 hq => by rw [hq.2]; all_goals rfl)).mono (fun v w2 hq => by obtain ⟨w0, hq, rfl⟩ := hq; rw [hq.2]; exact ⟨hq.1, rfl⟩)
  · exact (Does.frame (c_Tap_hasRun X (pl [79, 80] a) (pl [79, 80] ν) (pl [79, 80] σ) (pl [79, 80] τ) i n) [79, 80] rfl (by decide) (fun v w0 hq => by rw [hq.2]; all_goals rfl)).mono (fun v w2 hq => by obtain ⟨w0, hq, rfl⟩ := hq; rw [hq.2]; exact ⟨hq.1, rfl⟩)
  · exact (Does.frame (c_Tap_hasRun X (pl [81, 82] a) (pl [81, 82] ν) (pl [81, 82] σ) (pl [81, 82] τ) i n) [81, 82] rfl (by decide) (fun v w0 hq => by rw [hq.2]; all_goals rfl)).mono (fun v w2 hq => by obtain ⟨w0, hq, rfl⟩ := hq; rw [hq.2]; exact ⟨hq.1, rfl⟩)
theorem c_C_become (X : Xn) (a : Nat → Nat) (ν : Nat → Nat → Nat) (σ : Nat → Nat → Int32) (τ : Nat → Nat → Int64) (t : Nat) (ht : t < 6) (x : Int32) (n : Nat) (hn : n ≤ 60) : Does X 1 M_Tap_become [.ref (a (71 + 2 * t)), .int x, .int (nI n)] (CW X a ν σ τ) 0 0 (fun (vv : Option Value) (ww : va_W) => vv = none ∧ ww = CW X a (pu ν (71 + 2 * t) (u1 (ν (71 + 2 * t)) 2 n)) (u2 σ (71 + 2 * t) (upd (σ (71 + 2 * t)) 1 x)) (pu τ (72 + 2 * t) (zeroL (τ (72 + 2 * t)) 0 60))) := by
  rcases (show t = 0 ∨ t = 1 ∨ t = 2 ∨ t = 3 ∨ t = 4 ∨ t = 5 by omega) with rfl | rfl | rfl | rfl | rfl | rfl
  · exact (Does.frame (c_Tap_become X (pl [71, 72] a) (pl [71, 72] ν) (pl [71, 72] σ) (pl [71, 72] τ) x n hn) [71, 72] rfl (by decide) (fun v w0 hq => by rw [hq.2]; all_goals rfl)).mono (fun v w2 hq => by obtain ⟨w0, hq, rfl⟩ := hq; rw [hq.2]; exact ⟨hq.1, rfl⟩)
  · exact (Does.frame (c_Tap_become X (pl [73, 74] a) (pl [73, 74] ν) (pl [73, 74] σ) (pl [73, 74] τ) x n hn) [73, 74] rfl (by decide) (fun v w0 hq => by rw [hq.2]; all_goals rfl)).mono (fun v w2 hq => by obtain ⟨w0, hq, rfl⟩ := hq; rw [hq.2]; exact ⟨hq.1, rfl⟩)
  · exact (Does.frame (c_Tap_become X (pl [75, 76] a) (pl [75, 76] ν) (pl [75, 76] σ) (pl [75, 76] τ) x n hn) [75, 76] rfl (by decide) (fun v w0 hq => by rw [hq.2]; all_goals rfl)).mono (fun v w2 hq => by obtain ⟨w0, hq, rfl⟩ := hq; rw [hq.2]; exact ⟨hq.1, rfl⟩)
  · exact (Does.frame (c_Tap_become X (pl [77, 78] a) (pl [77, 78] ν) (pl [77, 78] σ) (pl [77, 78] τ) x n hn) [77, 78] rfl (by decide) (fun v w0 hq => by rw [hq.2]; all_goals rfl)).mono (fun v w2 hq => by obtain ⟨w0, hq, rfl⟩ := hq; rw [hq.2]; exact ⟨hq.1, rfl⟩)
  · exact (Does.frame (c_Tap_become X (pl [79, 80] a) (pl [79, 80] ν) (pl [79, 80] σ) (pl [79, 80] τ) x n hn) [79, 80] rfl (by decide) (fun v w0 hq => by rw [hq.2]; all_goals rfl)).mono (fun v w2 hq => by obtain ⟨w0, hq, rfl⟩ := hq; rw [hq.2]; exact ⟨hq.1, rfl⟩)
  · exact (Does.frame (c_Tap_become X (pl [81, 82] a) (pl [81, 82] ν) (pl [81, 82] σ) (pl [81, 82] τ) x n hn) [81, 82] rfl (by decide) (fun v w0 hq => by rw [hq.2]; all_goals rfl)).mono (fun v w2 hq => by obtain ⟨w0, hq, rfl⟩ := hq; rw [hq.2]; exact ⟨hq.1, rfl⟩)
theorem c_HB_tape (X : Xn) (a : Nat → Nat) (ν : Nat → Nat → Nat) (σ : Nat → Nat → Int32) (τ : Nat → Nat → Int64)  (t : Int32) (s : Int32) (n : Int32) : Does X 2 M_HB_tape [.ref (a 0), .int t, .int s, .int n] (CW X a ν σ τ) 0 0 (fun (vv : Option Value) (ww : va_W) => vv = some (.int (R_tape t s n)) ∧ ww = CW X a (if b_tape t s n = true then pu ν (71 + 2 * cn t) (u1 (ν (71 + 2 * cn t)) 2 (if s < 0 then 0 else cn n)) else ν) (if b_tape t s n = true then u2 σ (71 + 2 * cn t) (upd (σ (71 + 2 * cn t)) 1 s) else σ) (if b_tape t s n = true then pu τ (72 + 2 * cn t) (zeroL (τ (72 + 2 * cn t)) 0 60) else τ)) := by
  generalize hQ : (fun (vv : Option Value) (ww : va_W) => vv = some (.int (R_tape t s n)) ∧ ww = CW X a (if b_tape t s n = true then pu ν (71 + 2 * cn t) (u1 (ν (71 + 2 * cn t)) 2 (if s < 0 then 0 else cn n)) else ν) (if b_tape t s n = true then u2 σ (71 + 2 * cn t) (upd (σ (71 + 2 * cn t)) 1 s) else σ) (if b_tape t s n = true then pu τ (72 + 2 * cn t) (zeroL (τ (72 + 2 * cn t)) 0 60) else τ)) = Q
  refine Does.go rfl (Nat.le_of_ble_eq_true rfl) [some (.ref (a 0)), some (.int t), some (.int s), some (.int n), none] 1 rfl ?_
  refine r_aload_n rfl 1 rfl d_HB_tape_0 ?_
  refine r_iload_n rfl 2 rfl d_HB_tape_1 ?_
  cases rt : inR t (nI 0) (nI 5) with
  | false =>
    refine r_callVA1 (st2 := [.null]) (w2 := CW X a ν σ τ) lk_HB_tapeAt ln_HB_220 (c_HB_tapeAt0 X a ν σ τ t rt) (by first | decide | omega) rfl rfl (Nat.le_of_ble_eq_true rfl) (Nat.le_of_ble_eq_true rfl) (Nat.le_of_ble_eq_true rfl) 0 rfl rfl rfl rfl 5 rfl d_HB_tape_2 ?_
    refine r_astoreN (ls2 := [some (.ref (a 0)), some (.int t), some (.int s), some (.int n), some (.null)]) 7 rfl d_HB_tape_5 (by decide) rfl rfl ?_
    refine r_aloadN rfl 9 rfl d_HB_tape_7 ?_
    refine r_ifnonnullN 12 rfl d_HB_tape_9 ?_
    refine r_iconst ((-1)) rfl 13 rfl d_HB_tape_12 ?_
    exact r_iret rfl (Nat.zero_le _) (Nat.zero_le _) d_HB_tape_13 (by rw [← hQ]; exact ⟨by simp [R_tape, rt], by simp [b_tape, rt]⟩)
  | true =>
    obtain ⟨tN, ht5, rfl⟩ := inR_t (by decide) rt
    have htN : tN < 6 := by omega
    have etN : cn (nI tN) = tN := cn_nI (by omega)
    refine r_callVA1 (st2 := [.ref (a (71 + 2 * tN))]) (w2 := CW X a ν σ τ) lk_HB_tapeAt ln_HB_220 (c_HB_tapeAt1 X a ν σ τ tN htN) (by first | decide | omega) rfl rfl (Nat.le_of_ble_eq_true rfl) (Nat.le_of_ble_eq_true rfl) (Nat.le_of_ble_eq_true rfl) 0 rfl rfl rfl rfl 5 rfl d_HB_tape_2 ?_
    refine r_astore (ls2 := [some (.ref (a 0)), some (.int (nI tN)), some (.int s), some (.int n), some (.ref (a (71 + 2 * tN)))]) 7 rfl d_HB_tape_5 (by decide) rfl rfl ?_
    refine r_aload rfl 9 rfl d_HB_tape_7 ?_
    refine r_ifnonnull 14 rfl d_HB_tape_9 ?_
    refine r_iload_n rfl 15 rfl d_HB_tape_14 ?_
    refine r_iconst ((-1)) rfl 16 rfl d_HB_tape_15 ?_
    refine r_icmp_ne 19 28 rfl rfl d_HB_tape_16 (fun h16 => ?_) (fun h16 => ?_)
    · refine r_iload_n rfl 29 rfl d_HB_tape_28 ?_
      refine r_if_lt 32 43 rfl rfl d_HB_tape_29 (fun h29 => ?_) (fun h29 => ?_)
      · have r_s : inR s (-1) (nI 4) = false := inR_m1 h16 h29
        refine r_bipush ((-2)) rfl 45 rfl d_HB_tape_43 ?_
        exact r_iret rfl (Nat.zero_le _) (Nat.zero_le _) d_HB_tape_45 (by rw [← hQ]; exact ⟨by simp [R_tape, rt, etN, r_s], by simp [b_tape, rt, etN, r_s]⟩)
      · refine r_iload_n rfl 33 rfl d_HB_tape_32 ?_
        refine r_iconst (nI 4) rfl 34 rfl d_HB_tape_33 ?_
        refine r_icmp_gt 37 43 rfl rfl d_HB_tape_34 (fun h34 => ?_) (fun h34 => ?_)
        · have r_s : inR s (-1) (nI 4) = false := inR_m3 h34
          refine r_bipush ((-2)) rfl 45 rfl d_HB_tape_43 ?_
          exact r_iret rfl (Nat.zero_le _) (Nat.zero_le _) d_HB_tape_45 (by rw [← hQ]; exact ⟨by simp [R_tape, rt, etN, r_s], by simp [b_tape, rt, etN, r_s]⟩)
        · have r_s : inR s (-1) (nI 4) = true := inR_m2 h29 h34
          have l_s : ¬ s < 0 := h29
          refine r_iload_n rfl 38 rfl d_HB_tape_37 ?_
          refine r_bipush (nI 60) rfl 40 rfl d_HB_tape_38 ?_
          refine r_icmp_le 43 46 rfl rfl d_HB_tape_40 (fun h40 => ?_) (fun h40 => ?_)
          · refine r_iload_n rfl 47 rfl d_HB_tape_46 ?_
            refine r_if_ge 50 53 rfl rfl d_HB_tape_47 (fun h47 => ?_) (fun h47 => ?_)
            · have g_n : inR n (nI 0) (nI 60) = true := inR_in (Int32.not_lt.mpr h47) (Int32.not_lt.mpr h40)
              obtain ⟨nN, hnN, rfl⟩ := inR_t (by decide) g_n
              have enN : cn (nI nN) = nN := cn_nI (by omega)
              refine r_aload rfl 55 rfl d_HB_tape_53 ?_
              refine r_iload_n rfl 56 rfl d_HB_tape_55 ?_
              refine r_iload_n rfl 57 rfl d_HB_tape_56 ?_
              refine r_callVA1 (st2 := []) (w2 := CW X a (pu ν (71 + 2 * tN) (u1 (ν (71 + 2 * tN)) 2 nN)) (u2 σ (71 + 2 * tN) (upd (σ (71 + 2 * tN)) 1 s)) (pu τ (72 + 2 * tN) (zeroL (τ (72 + 2 * tN)) 0 60))) lk_Tap_become ln_HB_258 (c_C_become X a ν σ τ tN htN s nN (by omega)) (by first | decide | omega) rfl rfl (Nat.le_of_ble_eq_true rfl) (Nat.le_of_ble_eq_true rfl) (Nat.le_of_ble_eq_true rfl) (71 + 2 * tN) rfl (CWt htN) rfl rfl 60 rfl d_HB_tape_57 ?_
              refine r_iconst (nI 1) rfl 61 rfl d_HB_tape_60 ?_
              exact r_iret rfl (Nat.zero_le _) (Nat.zero_le _) d_HB_tape_61 (by rw [← hQ]; exact ⟨by simp [R_tape, rt, etN, r_s, l_s, h40, h47, enN], by simp [b_tape, rt, etN, r_s, l_s, h40, h47, enN]⟩)
            · refine r_bipush ((-14)) rfl 52 rfl d_HB_tape_50 ?_
              exact r_iret rfl (Nat.zero_le _) (Nat.zero_le _) d_HB_tape_52 (by rw [← hQ]; exact ⟨by simp [R_tape, rt, etN, r_s, l_s, h40, h47], by simp [b_tape, rt, etN, r_s, l_s, h40, h47]⟩)
          · refine r_bipush ((-2)) rfl 45 rfl d_HB_tape_43 ?_
            exact r_iret rfl (Nat.zero_le _) (Nat.zero_le _) d_HB_tape_45 (by rw [← hQ]; exact ⟨by simp [R_tape, rt, etN, r_s, l_s, h40], by simp [b_tape, rt, etN, r_s, l_s, h40]⟩)
    · subst h16
      have r_s : inR (-1) (-1) (nI 4) = true := by decide
      have l_s : (-1 : Int32) < 0 := by decide
      refine r_aload rfl 21 rfl d_HB_tape_19 ?_
      refine r_iconst ((-1)) rfl 22 rfl d_HB_tape_21 ?_
      refine r_iconst (nI 0) rfl 23 rfl d_HB_tape_22 ?_
      refine r_callVA1 (st2 := []) (w2 := CW X a (pu ν (71 + 2 * tN) (u1 (ν (71 + 2 * tN)) 2 0)) (u2 σ (71 + 2 * tN) (upd (σ (71 + 2 * tN)) 1 (-1))) (pu τ (72 + 2 * tN) (zeroL (τ (72 + 2 * tN)) 0 60))) lk_Tap_become ln_HB_258 (c_C_become X a ν σ τ tN htN (-1) 0 (by omega)) (by first | decide | omega) rfl rfl (Nat.le_of_ble_eq_true rfl) (Nat.le_of_ble_eq_true rfl) (Nat.le_of_ble_eq_true rfl) (71 + 2 * tN) rfl (CWt htN) rfl rfl 26 rfl d_HB_tape_23 ?_
      refine r_iconst (nI 1) rfl 27 rfl d_HB_tape_26 ?_
      exact r_iret rfl (Nat.zero_le _) (Nat.zero_le _) d_HB_tape_27 (by rw [← hQ]; exact ⟨by simp [R_tape, rt, etN, r_s, l_s], by simp [b_tape, rt, etN, r_s, l_s]⟩)
theorem c_HB_item (X : Xn) (a : Nat → Nat) (ν : Nat → Nat → Nat) (σ : Nat → Nat → Int32) (τ : Nat → Nat → Int64)  (t : Int32) (i : Int32) (v : Int64) (hz : ∀ t, t < 6 → ν (71 + 2 * t) 2 ≤ 60) (hso : ∀ t, t < 6 → (σ (71 + 2 * t) 1 = -1 ∧ ν (71 + 2 * t) 2 = 0) ∨ ¬ σ (71 + 2 * t) 1 < 0) : Does X 3 M_HB_item [.ref (a 0), .int t, .int i, .long v] (CW X a ν σ τ) 0 0 (fun (vv : Option Value) (ww : va_W) => vv = some (.int (R_item (cSo σ) (cSz ν) t i)) ∧ ww = CW X a ν σ (if b_item (cSo σ) (cSz ν) t i = true then pu τ (72 + 2 * cn t) (vp_updL (τ (72 + 2 * cn t)) (cn i) (keptC (σ (71 + 2 * cn t) 1) v)) else τ)) := by
  generalize hQ : (fun (vv : Option Value) (ww : va_W) => vv = some (.int (R_item (cSo σ) (cSz ν) t i)) ∧ ww = CW X a ν σ (if b_item (cSo σ) (cSz ν) t i = true then pu τ (72 + 2 * cn t) (vp_updL (τ (72 + 2 * cn t)) (cn i) (keptC (σ (71 + 2 * cn t) 1) v)) else τ)) = Q
  refine Does.go rfl (Nat.le_of_ble_eq_true rfl) [some (.ref (a 0)), some (.int t), some (.int i), some (.long v), none, none] 1 rfl ?_
  refine r_aload_n rfl 1 rfl d_HB_item_0 ?_
  refine r_iload_n rfl 2 rfl d_HB_item_1 ?_
  cases rt : inR t (nI 0) (nI 5) with
  | false =>
    refine r_callVA1 (st2 := [.null]) (w2 := CW X a ν σ τ) lk_HB_tapeAt ln_HB_220 (c_HB_tapeAt0 X a ν σ τ t rt) (by first | decide | omega) rfl rfl (Nat.le_of_ble_eq_true rfl) (Nat.le_of_ble_eq_true rfl) (Nat.le_of_ble_eq_true rfl) 0 rfl rfl rfl rfl 5 rfl d_HB_item_2 ?_
    refine r_astoreN (ls2 := [some (.ref (a 0)), some (.int t), some (.int i), some (.long v), none, some (.null)]) 7 rfl d_HB_item_5 (by decide) rfl rfl ?_
    refine r_aloadN rfl 9 rfl d_HB_item_7 ?_
    refine r_ifnonnullN 12 rfl d_HB_item_9 ?_
    refine r_iconst ((-1)) rfl 13 rfl d_HB_item_12 ?_
    exact r_iret rfl (Nat.zero_le _) (Nat.zero_le _) d_HB_item_13 (by rw [← hQ]; exact ⟨by simp [R_item, b_item, cSo, cSz, nI_one, rt], by simp [b_item, cSo, cSz, nI_one, rt]⟩)
  | true =>
    obtain ⟨tN, ht5, rfl⟩ := inR_t (by decide) rt
    have htN : tN < 6 := by omega
    have etN : cn (nI tN) = tN := cn_nI (by omega)
    refine r_callVA1 (st2 := [.ref (a (71 + 2 * tN))]) (w2 := CW X a ν σ τ) lk_HB_tapeAt ln_HB_220 (c_HB_tapeAt1 X a ν σ τ tN htN) (by first | decide | omega) rfl rfl (Nat.le_of_ble_eq_true rfl) (Nat.le_of_ble_eq_true rfl) (Nat.le_of_ble_eq_true rfl) 0 rfl rfl rfl rfl 5 rfl d_HB_item_2 ?_
    refine r_astore (ls2 := [some (.ref (a 0)), some (.int (nI tN)), some (.int i), some (.long v), none, some (.ref (a (71 + 2 * tN)))]) 7 rfl d_HB_item_5 (by decide) rfl rfl ?_
    refine r_aload rfl 9 rfl d_HB_item_7 ?_
    refine r_ifnonnull 14 rfl d_HB_item_9 ?_
    have hztN := hz tN htN
    have hsot := hso tN htN
    refine r_aload rfl 16 rfl d_HB_item_14 ?_
    refine r_getfn (v := .int (σ (71 + 2 * tN) 1)) gf_HB_224 (71 + 2 * tN) (CWt htN) rfl 19 rfl d_HB_item_16 ?_
    refine r_iconst ((-1)) rfl 20 rfl d_HB_item_19 ?_
    refine r_icmp_ne 23 26 rfl rfl d_HB_item_20 (fun h20 => ?_) (fun h20 => ?_)
    · have l_t : ¬ σ (71 + 2 * tN) 1 < 0 := hsot.resolve_left (fun z => h20 z.1)
      have l_u : (0 : Int32) ≤ σ (71 + 2 * tN) 1 := Int32.not_lt.mp l_t
      refine r_aload rfl 28 rfl d_HB_item_26 ?_
      refine r_iload_n rfl 29 rfl d_HB_item_28 ?_
      refine r_callVA1 (st2 := [.int (bI (inR i (nI 0) (nI (ν (71 + 2 * tN) 2) - 1)))]) (w2 := CW X a ν σ τ) lk_Tap_has ln_HB_261 (c_C_has X a ν σ τ tN htN i hztN) (by first | decide | omega) rfl rfl (Nat.le_of_ble_eq_true rfl) (Nat.le_of_ble_eq_true rfl) (Nat.le_of_ble_eq_true rfl) (71 + 2 * tN) rfl (CWt htN) rfl rfl 32 rfl d_HB_item_29 ?_
      refine r_if_neB 35 38 rfl rfl d_HB_item_32 (fun h32 => ?_) (fun h32 => ?_)
      · obtain ⟨iN, hiN, rfl⟩ := isB_tG (by omega) h32
        have eiN : cn (nI iN) = iN := cn_nI (by omega)
        refine r_aload rfl 40 rfl d_HB_item_38 ?_
        refine r_iload_n rfl 41 rfl d_HB_item_40 ?_
        refine r_lload_n rfl 42 rfl d_HB_item_41 ?_
        refine r_callVA1 (st2 := []) (w2 := CW X a ν σ (pu τ (72 + 2 * tN) (vp_updL (τ (72 + 2 * tN)) iN (keptC (σ (71 + 2 * tN) 1) v)))) lk_Tap_set ln_HB_264 (c_C_set X a ν σ τ tN htN iN v (by omega) hztN) (by first | decide | omega) rfl rfl (Nat.le_of_ble_eq_true rfl) (Nat.le_of_ble_eq_true rfl) (Nat.le_of_ble_eq_true rfl) (71 + 2 * tN) rfl (CWt htN) rfl rfl 45 rfl d_HB_item_42 ?_
        refine r_iconst (nI 1) rfl 46 rfl d_HB_item_45 ?_
        exact r_iret rfl (Nat.zero_le _) (Nat.zero_le _) d_HB_item_46 (by rw [← hQ]; exact ⟨by simp [R_item, b_item, cSo, cSz, nI_one, rt, etN, l_t, l_u, h32, eiN], by simp [b_item, cSo, cSz, nI_one, rt, etN, l_t, l_u, h32, eiN]⟩)
      · refine r_bipush ((-13)) rfl 37 rfl d_HB_item_35 ?_
        exact r_iret rfl (Nat.zero_le _) (Nat.zero_le _) d_HB_item_37 (by rw [← hQ]; exact ⟨by simp [R_item, b_item, cSo, cSz, nI_one, rt, etN, l_t, l_u, h32], by simp [b_item, cSo, cSz, nI_one, rt, etN, l_t, l_u, h32]⟩)
    · have l_t : σ (71 + 2 * tN) 1 < 0 := by rw [h20]; decide
      have l_u : ¬ (0 : Int32) ≤ σ (71 + 2 * tN) 1 := Int32.not_le.mpr l_t
      refine r_bipush ((-11)) rfl 25 rfl d_HB_item_23 ?_
      exact r_iret rfl (Nat.zero_le _) (Nat.zero_le _) d_HB_item_25 (by rw [← hQ]; exact ⟨by simp [R_item, b_item, cSo, cSz, nI_one, rt, etN, l_t, l_u], by simp [b_item, cSo, cSz, nI_one, rt, etN, l_t, l_u]⟩)
theorem c_HB_read (X : Xn) (a : Nat → Nat) (ν : Nat → Nat → Nat) (σ : Nat → Nat → Int32) (τ : Nat → Nat → Int64)  (t : Int32) (i : Int32) (hz : ∀ t, t < 6 → ν (71 + 2 * t) 2 ≤ 60) (hso : ∀ t, t < 6 → (σ (71 + 2 * t) 1 = -1 ∧ ν (71 + 2 * t) 2 = 0) ∨ ¬ σ (71 + 2 * t) 1 < 0) : Does X 3 M_HB_read [.ref (a 0), .int t, .int i] (CW X a ν σ τ) 0 0 (fun (vv : Option Value) (ww : va_W) => vv = some (.long (R_read (cSo σ) (cSz ν) (cTa τ) t i)) ∧ ww = CW X a ν σ τ) := by
  generalize hQ : (fun (vv : Option Value) (ww : va_W) => vv = some (.long (R_read (cSo σ) (cSz ν) (cTa τ) t i)) ∧ ww = CW X a ν σ τ) = Q
  refine Does.go rfl (Nat.le_of_ble_eq_true rfl) [some (.ref (a 0)), some (.int t), some (.int i), none] 1 rfl ?_
  refine r_aload_n rfl 1 rfl d_HB_read_0 ?_
  refine r_iload_n rfl 2 rfl d_HB_read_1 ?_
  cases rt : inR t (nI 0) (nI 5) with
  | false =>
    refine r_callVA1 (st2 := [.null]) (w2 := CW X a ν σ τ) lk_HB_tapeAt ln_HB_220 (c_HB_tapeAt0 X a ν σ τ t rt) (by first | decide | omega) rfl rfl (Nat.le_of_ble_eq_true rfl) (Nat.le_of_ble_eq_true rfl) (Nat.le_of_ble_eq_true rfl) 0 rfl rfl rfl rfl 5 rfl d_HB_read_2 ?_
    refine r_astore_nN (ls2 := [some (.ref (a 0)), some (.int t), some (.int i), some (.null)]) 6 rfl d_HB_read_5 (by decide) rfl rfl ?_
    refine r_aload_nN rfl 7 rfl d_HB_read_6 ?_
    refine r_ifnullN 18 rfl d_HB_read_7 ?_
    refine r_ldc2 (v := (-9223372036854775808)) (inTB 695 (by decide +kernel) rfl) 21 rfl d_HB_read_18 ?_
    exact r_lret rfl (Nat.zero_le _) (Nat.zero_le _) d_HB_read_21 (by rw [← hQ]; exact ⟨by rw [R_read, if_neg (fun z => by simp only [b_item, Bool.and_eq_true] at z; rw [z.1] at rt; cases rt)], rfl⟩)
  | true =>
    obtain ⟨tN, ht5, rfl⟩ := inR_t (by decide) rt
    have htN : tN < 6 := by omega
    have etN : cn (nI tN) = tN := cn_nI (by omega)
    refine r_callVA1 (st2 := [.ref (a (71 + 2 * tN))]) (w2 := CW X a ν σ τ) lk_HB_tapeAt ln_HB_220 (c_HB_tapeAt1 X a ν σ τ tN htN) (by first | decide | omega) rfl rfl (Nat.le_of_ble_eq_true rfl) (Nat.le_of_ble_eq_true rfl) (Nat.le_of_ble_eq_true rfl) 0 rfl rfl rfl rfl 5 rfl d_HB_read_2 ?_
    refine r_astore_n (ls2 := [some (.ref (a 0)), some (.int (nI tN)), some (.int i), some (.ref (a (71 + 2 * tN)))]) 6 rfl d_HB_read_5 (by decide) rfl rfl ?_
    refine r_aload_n rfl 7 rfl d_HB_read_6 ?_
    refine r_ifnull 10 rfl d_HB_read_7 ?_
    have hztN := hz tN htN
    have hsot := hso tN htN
    refine r_aload_n rfl 11 rfl d_HB_read_10 ?_
    refine r_iload_n rfl 12 rfl d_HB_read_11 ?_
    refine r_callVA1 (st2 := [.int (bI (inR i (nI 0) (nI (ν (71 + 2 * tN) 2) - 1)))]) (w2 := CW X a ν σ τ) lk_Tap_has ln_HB_261 (c_C_has X a ν σ τ tN htN i hztN) (by first | decide | omega) rfl rfl (Nat.le_of_ble_eq_true rfl) (Nat.le_of_ble_eq_true rfl) (Nat.le_of_ble_eq_true rfl) (71 + 2 * tN) rfl (CWt htN) rfl rfl 15 rfl d_HB_read_12 ?_
    refine r_if_neB 18 22 rfl rfl d_HB_read_15 (fun h15 => ?_) (fun h15 => ?_)
    · obtain ⟨iN, hiN, rfl⟩ := isB_tG (by omega) h15
      have eiN : cn (nI iN) = iN := cn_nI (by omega)
      have l_u : (0 : Int32) ≤ σ (71 + 2 * tN) 1 := Int32.not_lt.mp (hsot.resolve_left (fun z => by omega))
      refine r_aload_n rfl 23 rfl d_HB_read_22 ?_
      refine r_iload_n rfl 24 rfl d_HB_read_23 ?_
      refine r_callVA1 (st2 := [.long (τ (72 + 2 * tN) iN)]) (w2 := CW X a ν σ τ) lk_Tap_get ln_HB_228 (c_C_get X a ν σ τ tN htN iN (by omega) hztN) (by first | decide | omega) rfl rfl (Nat.le_of_ble_eq_true rfl) (Nat.le_of_ble_eq_true rfl) (Nat.le_of_ble_eq_true rfl) (71 + 2 * tN) rfl (CWt htN) rfl rfl 27 rfl d_HB_read_24 ?_
      exact r_lret rfl (Nat.zero_le _) (Nat.zero_le _) d_HB_read_27 (by rw [← hQ]; exact ⟨by rw [R_read, if_pos (by simp only [b_item, cSo, cSz, Bool.and_eq_true, etN, nI_one, decide_eq_true_eq]; exact ⟨rt, l_u, h15⟩), etN, eiN, cTa_at (by omega)], rfl⟩)
    · refine r_ldc2 (v := (-9223372036854775808)) (inTB 695 (by decide +kernel) rfl) 21 rfl d_HB_read_18 ?_
      exact r_lret rfl (Nat.zero_le _) (Nat.zero_le _) d_HB_read_21 (by rw [← hQ]; exact ⟨by rw [R_read, if_neg (fun z => by simp only [b_item, cSo, cSz, Bool.and_eq_true, etN, nI_one] at z; rw [z.2.2] at h15; cases h15)], rfl⟩)
theorem c_HB_judge (X : Xn) (a : Nat → Nat) (ν : Nat → Nat → Nat) (σ : Nat → Nat → Int32) (τ : Nat → Nat → Int64)  (t : Int32) (i : Int32) (hn6 : ν 2 3 ≤ 6) (hz : ∀ t, t < 6 → ν (71 + 2 * t) 2 ≤ 60) (hso : ∀ t, t < 6 → (σ (71 + 2 * t) 1 = -1 ∧ ν (71 + 2 * t) 2 = 0) ∨ ¬ σ (71 + 2 * t) 1 < 0) : Does X 5 M_HB_judge [.ref (a 0), .int t, .int i] (CW X a ν σ τ) 0 0 (fun (vv : Option Value) (ww : va_W) => vv = some (.int (R_judge (ν 2 3) (σ 4) (cSo σ) (cSz ν) (cTa τ) t i)) ∧ ww = CW X a ν σ τ) := by
  generalize hQ : (fun (vv : Option Value) (ww : va_W) => vv = some (.int (R_judge (ν 2 3) (σ 4) (cSo σ) (cSz ν) (cTa τ) t i)) ∧ ww = CW X a ν σ τ) = Q
  refine Does.go rfl (Nat.le_of_ble_eq_true rfl) [some (.ref (a 0)), some (.int t), some (.int i), none, none] 2 rfl ?_
  refine r_aload_n rfl 1 rfl d_HB_judge_0 ?_
  refine r_iload_n rfl 2 rfl d_HB_judge_1 ?_
  cases rt : inR t (nI 0) (nI 5) with
  | false =>
    refine r_callVA1 (st2 := [.null]) (w2 := CW X a ν σ τ) lk_HB_tapeAt ln_HB_220 (c_HB_tapeAt0 X a ν σ τ t rt) (by first | decide | omega) rfl rfl (Nat.le_of_ble_eq_true rfl) (Nat.le_of_ble_eq_true rfl) (Nat.le_of_ble_eq_true rfl) 0 rfl rfl rfl rfl 5 rfl d_HB_judge_2 ?_
    refine r_astore_nN (ls2 := [some (.ref (a 0)), some (.int t), some (.int i), some (.null), none]) 6 rfl d_HB_judge_5 (by decide) rfl rfl ?_
    refine r_aload_nN rfl 7 rfl d_HB_judge_6 ?_
    refine r_ifnonnullN 10 rfl d_HB_judge_7 ?_
    refine r_iconst ((-1)) rfl 11 rfl d_HB_judge_10 ?_
    exact r_iret rfl (Nat.zero_le _) (Nat.zero_le _) d_HB_judge_11 (by rw [← hQ]; exact ⟨by rw [R_judge, if_neg (by rw [rt]; decide)], rfl⟩)
  | true =>
    obtain ⟨tN, ht5, rfl⟩ := inR_t (by decide) rt
    have htN : tN < 6 := by omega
    have etN : cn (nI tN) = tN := cn_nI (by omega)
    refine r_callVA1 (st2 := [.ref (a (71 + 2 * tN))]) (w2 := CW X a ν σ τ) lk_HB_tapeAt ln_HB_220 (c_HB_tapeAt1 X a ν σ τ tN htN) (by first | decide | omega) rfl rfl (Nat.le_of_ble_eq_true rfl) (Nat.le_of_ble_eq_true rfl) (Nat.le_of_ble_eq_true rfl) 0 rfl rfl rfl rfl 5 rfl d_HB_judge_2 ?_
    refine r_astore_n (ls2 := [some (.ref (a 0)), some (.int (nI tN)), some (.int i), some (.ref (a (71 + 2 * tN))), none]) 6 rfl d_HB_judge_5 (by decide) rfl rfl ?_
    refine r_aload_n rfl 7 rfl d_HB_judge_6 ?_
    refine r_ifnonnull 12 rfl d_HB_judge_7 ?_
    have hztN := hz tN htN
    have hsot := hso tN htN
    refine r_aload_n rfl 13 rfl d_HB_judge_12 ?_
    refine r_getfn (v := .int (σ (71 + 2 * tN) 1)) gf_HB_224 (71 + 2 * tN) (CWt htN) rfl 16 rfl d_HB_judge_13 ?_
    refine r_iconst ((-1)) rfl 17 rfl d_HB_judge_16 ?_
    refine r_icmp_eq 20 31 rfl rfl d_HB_judge_17 (fun h17 => ?_) (fun h17 => ?_)
    · have hsj : σ (71 + 2 * tN) 1 = -1 ∨ σ (71 + 2 * tN) 1 = nI 2 := Or.inl h17
      refine r_iconst (nI 0) rfl 32 rfl d_HB_judge_31 ?_
      refine r_istore (ls2 := [some (.ref (a 0)), some (.int (nI tN)), some (.int i), some (.ref (a (71 + 2 * tN))), some (.int (nI 0))]) 34 rfl d_HB_judge_32 (by decide) rfl rfl ?_
      have L34_1 : ∀ (f : Nat) (k : Nat), (k ≤ ν 2 3) → (judF (ν 2 3) (σ 4) (σ (71 + 2 * tN) 1) (nI (ν (71 + 2 * tN) 2)) (cTa τ) (60 * tN) i (ν 2 3 - k) = judF (ν 2 3) (σ 4) (σ (71 + 2 * tN) 1) (nI (ν (71 + 2 * tN) 2)) (cTa τ) (60 * tN) i (ν 2 3)) → ν 2 3 - k < f → Runs X 5 M_HB_judge 0 0 Q 34 [some (.ref (a 0)), some (.int (nI tN)), some (.int i), some (.ref (a (71 + 2 * tN))), some (.int (nI k))] [] 0 0 (CW X a ν σ τ) := by
        intro f
        induction f with
        | zero => intro k hk hr hmu; exact absurd hmu (Nat.not_lt_zero _)
        | succ f ih2 =>
          intro k hk hr hmu
          refine r_iload rfl 36 rfl d_HB_judge_34 ?_
          refine r_aload_n rfl 37 rfl d_HB_judge_36 ?_
          refine r_getf (v := .ref (a 1)) gf_HB_12 0 rfl rfl 40 rfl d_HB_judge_37 ?_
          refine r_getfn (v := .ref (a 2)) gf_HB_49 1 rfl rfl 43 rfl d_HB_judge_40 ?_
          refine r_getfn (v := .int (nI (ν 2 3))) gf_HB_52 2 rfl rfl 46 rfl d_HB_judge_43 ?_
          refine r_icmp_geN k (ν 2 3) (by omega) (by omega) 49 104 rfl rfl d_HB_judge_46 (fun h46 => ?_) (fun h46 => ?_)
          · refine r_bipush ((-5)) rfl 106 rfl d_HB_judge_104 ?_
            exact r_iret rfl (Nat.zero_le _) (Nat.zero_le _) d_HB_judge_106 (by rw [← hQ]; exact ⟨by rw [R_judge, if_pos rt, etN, if_pos (show cSo σ tN = -1 ∨ cSo σ tN = nI 2 from hsj)]; show _ = some (Value.int (judF (ν 2 3) (σ 4) (σ (71 + 2 * tN) 1) (nI (ν (71 + 2 * tN) 2)) (cTa τ) (60 * tN) i (ν 2 3))); rw [← hr, show ν 2 3 - k = 0 by omega]; rfl, rfl⟩)
          · refine r_iload_n rfl 50 rfl d_HB_judge_49 ?_
            refine r_if_lt 53 64 rfl rfl d_HB_judge_50 (fun h50 => ?_) (fun h50 => ?_)
            · refine r_bipush (nI 100) rfl 66 rfl d_HB_judge_64 ?_
              refine r_iload rfl 68 rfl d_HB_judge_66 ?_
              refine r_iadd 69 rfl d_HB_judge_68 ?_
              refine r_topi (nI (100 + k)) (nI_add _ _) ?_
              exact r_iret rfl (Nat.zero_le _) (Nat.zero_le _) d_HB_judge_69 (by rw [← hQ]; exact ⟨by rw [R_judge, if_pos rt, etN, if_pos (show cSo σ tN = -1 ∨ cSo σ tN = nI 2 from hsj)]; show _ = some (Value.int (judF (ν 2 3) (σ 4) (σ (71 + 2 * tN) 1) (nI (ν (71 + 2 * tN) 2)) (cTa τ) (60 * tN) i (ν 2 3))); rw [← hr, judF_s h46, if_pos (Or.inr (Or.inl h50))], rfl⟩)
            · obtain ⟨iN, hiN, rfl⟩ := nI_of h50
              have eiN : cn (nI iN) = iN := cn_nI (by omega)
              refine r_iload_n rfl 54 rfl d_HB_judge_53 ?_
              refine r_aload_n rfl 55 rfl d_HB_judge_54 ?_
              refine r_getfn (v := .int (nI (ν (71 + 2 * tN) 2))) gf_HB_227 (71 + 2 * tN) (CWt htN) rfl 58 rfl d_HB_judge_55 ?_
              refine r_iload rfl 60 rfl d_HB_judge_58 ?_
              refine r_isub 61 rfl d_HB_judge_60 ?_
              refine r_icmp_lt 64 70 rfl rfl d_HB_judge_61 (fun h61 => ?_) (fun h61 => ?_)
              · have hik : iN + k < ν (71 + 2 * tN) 2 := (jd_lt hztN (by omega) hiN).mp h61
                have hns : ¬ σ (71 + 2 * tN) 1 = -1 := fun q => (hsot.elim (fun z => by omega) (fun z => z (by rw [q]; decide)))
                have hng : ¬ (σ (71 + 2 * tN) 1 = -1 ∨ nI iN < 0 ∨ cn (nI (ν (71 + 2 * tN) 2)) ≤ cn (nI iN) + k) := fun q => q.elim hns (fun q => q.elim h50 (fun q => by rw [cn_nI (show ν (71 + 2 * tN) 2 < 2 ^ 31 by omega), eiN] at q; omega))
                refine r_aload_n rfl 71 rfl d_HB_judge_70 ?_
                refine r_iload_n rfl 72 rfl d_HB_judge_71 ?_
                refine r_iload rfl 74 rfl d_HB_judge_72 ?_
                refine r_iadd 75 rfl d_HB_judge_74 ?_
                refine r_topi (nI (iN + k)) (nI_add _ _) ?_
                refine r_callVA1 (st2 := [.long (τ (72 + 2 * tN) (iN + k))]) (w2 := CW X a ν σ τ) lk_Tap_get ln_HB_228 (c_C_get X a ν σ τ tN htN (iN + k) (by omega) hztN) (by first | decide | omega) rfl rfl (Nat.le_of_ble_eq_true rfl) (Nat.le_of_ble_eq_true rfl) (Nat.le_of_ble_eq_true rfl) (71 + 2 * tN) rfl (CWt htN) rfl rfl 78 rfl d_HB_judge_75 ?_
                refine r_aload_n rfl 79 rfl d_HB_judge_78 ?_
                refine r_getf (v := .ref (a 1)) gf_HB_12 0 rfl rfl 82 rfl d_HB_judge_79 ?_
                refine r_getfn (v := .ref (a 2)) gf_HB_49 1 rfl rfl 85 rfl d_HB_judge_82 ?_
                refine r_iload rfl 87 rfl d_HB_judge_85 ?_
                refine r_callV1 (st2 := [.int (bal (ν 2 3) (σ 4) k), .long (τ (72 + 2 * tN) (iN + k))]) (w2 := CW X a ν σ τ) lk_Led_balance ln_HB_86 (c_Led_balance X (pl [2, 3, 4, 5] a) (pl [2, 3, 4, 5] ν) (pl [2, 3, 4, 5] σ) (pl [2, 3, 4, 5] τ)  k (hn6) (by omega)) (by first | decide | omega) rfl rfl (Nat.le_of_ble_eq_true rfl) (Nat.le_of_ble_eq_true rfl) (Nat.le_of_ble_eq_true rfl) [2, 3, 4, 5] rfl rfl 0 rfl rfl rfl rfl rfl 90 rfl d_HB_judge_87 ?_
                refine r_i2l 91 rfl d_HB_judge_90 ?_
                refine r_lcmp 92 rfl d_HB_judge_91 ?_
                refine r_if_eq 95 98 rfl rfl d_HB_judge_92 (fun h92 => ?_) (fun h92 => ?_)
                · refine r_iinc (ls2 := [some (.ref (a 0)), some (.int (nI tN)), some (.int (nI iN)), some (.ref (a (71 + 2 * tN))), some (.int (nI (k + 1)))]) (nI (k + 1)) rfl (nI_1 _) 101 rfl d_HB_judge_98 (by decide) rfl rfl ?_
                  refine r_goto 34 rfl d_HB_judge_101 ?_
                  exact ih2 (k + 1) (by omega) (by rw [← hr, judF_s h46, if_neg hng, eiN, show 60 * tN + iN + k = 60 * tN + (iN + k) by omega, cTa_at (by omega), if_pos ((lg_cmp_eq _ _).mp h92)]) (by omega)
                · refine r_iload rfl 97 rfl d_HB_judge_95 ?_
                  exact r_iret rfl (Nat.zero_le _) (Nat.zero_le _) d_HB_judge_97 (by rw [← hQ]; exact ⟨by rw [R_judge, if_pos rt, etN, if_pos (show cSo σ tN = -1 ∨ cSo σ tN = nI 2 from hsj)]; show _ = some (Value.int (judF (ν 2 3) (σ 4) (σ (71 + 2 * tN) 1) (nI (ν (71 + 2 * tN) 2)) (cTa τ) (60 * tN) (nI iN) (ν 2 3))); rw [← hr, judF_s h46, if_neg hng, eiN, show 60 * tN + iN + k = 60 * tN + (iN + k) by omega, cTa_at (by omega), if_neg (fun z => h92 ((lg_cmp_eq _ _).mpr z))], rfl⟩)
              · refine r_bipush (nI 100) rfl 66 rfl d_HB_judge_64 ?_
                refine r_iload rfl 68 rfl d_HB_judge_66 ?_
                refine r_iadd 69 rfl d_HB_judge_68 ?_
                refine r_topi (nI (100 + k)) (nI_add _ _) ?_
                exact r_iret rfl (Nat.zero_le _) (Nat.zero_le _) d_HB_judge_69 (by rw [← hQ]; exact ⟨by rw [R_judge, if_pos rt, etN, if_pos (show cSo σ tN = -1 ∨ cSo σ tN = nI 2 from hsj)]; show _ = some (Value.int (judF (ν 2 3) (σ 4) (σ (71 + 2 * tN) 1) (nI (ν (71 + 2 * tN) 2)) (cTa τ) (60 * tN) (nI iN) (ν 2 3))); rw [← hr, judF_s h46, if_pos (Or.inr (Or.inr (by rw [cn_nI (show ν (71 + 2 * tN) 2 < 2 ^ 31 by omega), eiN]; have h9 : ¬ iN + k < ν (71 + 2 * tN) 2 := fun q => h61 ((jd_lt hztN (by omega) (by omega)).mpr q); omega)))], rfl⟩)
      exact L34_1 _ 0 (Nat.zero_le _) (rfl) (Nat.lt_succ_self _)
    · refine r_aload_n rfl 21 rfl d_HB_judge_20 ?_
      refine r_getfn (v := .int (σ (71 + 2 * tN) 1)) gf_HB_224 (71 + 2 * tN) (CWt htN) rfl 24 rfl d_HB_judge_21 ?_
      refine r_iconst (nI 2) rfl 25 rfl d_HB_judge_24 ?_
      refine r_icmp_eq 28 31 rfl rfl d_HB_judge_25 (fun h25 => ?_) (fun h25 => ?_)
      · have hsj : σ (71 + 2 * tN) 1 = -1 ∨ σ (71 + 2 * tN) 1 = nI 2 := Or.inr h25
        refine r_iconst (nI 0) rfl 32 rfl d_HB_judge_31 ?_
        refine r_istore (ls2 := [some (.ref (a 0)), some (.int (nI tN)), some (.int i), some (.ref (a (71 + 2 * tN))), some (.int (nI 0))]) 34 rfl d_HB_judge_32 (by decide) rfl rfl ?_
        have L34_3 : ∀ (f : Nat) (k : Nat), (k ≤ ν 2 3) → (judF (ν 2 3) (σ 4) (σ (71 + 2 * tN) 1) (nI (ν (71 + 2 * tN) 2)) (cTa τ) (60 * tN) i (ν 2 3 - k) = judF (ν 2 3) (σ 4) (σ (71 + 2 * tN) 1) (nI (ν (71 + 2 * tN) 2)) (cTa τ) (60 * tN) i (ν 2 3)) → ν 2 3 - k < f → Runs X 5 M_HB_judge 0 0 Q 34 [some (.ref (a 0)), some (.int (nI tN)), some (.int i), some (.ref (a (71 + 2 * tN))), some (.int (nI k))] [] 0 0 (CW X a ν σ τ) := by
          intro f
          induction f with
          | zero => intro k hk hr hmu; exact absurd hmu (Nat.not_lt_zero _)
          | succ f ih4 =>
            intro k hk hr hmu
            refine r_iload rfl 36 rfl d_HB_judge_34 ?_
            refine r_aload_n rfl 37 rfl d_HB_judge_36 ?_
            refine r_getf (v := .ref (a 1)) gf_HB_12 0 rfl rfl 40 rfl d_HB_judge_37 ?_
            refine r_getfn (v := .ref (a 2)) gf_HB_49 1 rfl rfl 43 rfl d_HB_judge_40 ?_
            refine r_getfn (v := .int (nI (ν 2 3))) gf_HB_52 2 rfl rfl 46 rfl d_HB_judge_43 ?_
            refine r_icmp_geN k (ν 2 3) (by omega) (by omega) 49 104 rfl rfl d_HB_judge_46 (fun h46 => ?_) (fun h46 => ?_)
            · refine r_bipush ((-5)) rfl 106 rfl d_HB_judge_104 ?_
              exact r_iret rfl (Nat.zero_le _) (Nat.zero_le _) d_HB_judge_106 (by rw [← hQ]; exact ⟨by rw [R_judge, if_pos rt, etN, if_pos (show cSo σ tN = -1 ∨ cSo σ tN = nI 2 from hsj)]; show _ = some (Value.int (judF (ν 2 3) (σ 4) (σ (71 + 2 * tN) 1) (nI (ν (71 + 2 * tN) 2)) (cTa τ) (60 * tN) i (ν 2 3))); rw [← hr, show ν 2 3 - k = 0 by omega]; rfl, rfl⟩)
            · refine r_iload_n rfl 50 rfl d_HB_judge_49 ?_
              refine r_if_lt 53 64 rfl rfl d_HB_judge_50 (fun h50 => ?_) (fun h50 => ?_)
              · refine r_bipush (nI 100) rfl 66 rfl d_HB_judge_64 ?_
                refine r_iload rfl 68 rfl d_HB_judge_66 ?_
                refine r_iadd 69 rfl d_HB_judge_68 ?_
                refine r_topi (nI (100 + k)) (nI_add _ _) ?_
                exact r_iret rfl (Nat.zero_le _) (Nat.zero_le _) d_HB_judge_69 (by rw [← hQ]; exact ⟨by rw [R_judge, if_pos rt, etN, if_pos (show cSo σ tN = -1 ∨ cSo σ tN = nI 2 from hsj)]; show _ = some (Value.int (judF (ν 2 3) (σ 4) (σ (71 + 2 * tN) 1) (nI (ν (71 + 2 * tN) 2)) (cTa τ) (60 * tN) i (ν 2 3))); rw [← hr, judF_s h46, if_pos (Or.inr (Or.inl h50))], rfl⟩)
              · obtain ⟨iN, hiN, rfl⟩ := nI_of h50
                have eiN : cn (nI iN) = iN := cn_nI (by omega)
                refine r_iload_n rfl 54 rfl d_HB_judge_53 ?_
                refine r_aload_n rfl 55 rfl d_HB_judge_54 ?_
                refine r_getfn (v := .int (nI (ν (71 + 2 * tN) 2))) gf_HB_227 (71 + 2 * tN) (CWt htN) rfl 58 rfl d_HB_judge_55 ?_
                refine r_iload rfl 60 rfl d_HB_judge_58 ?_
                refine r_isub 61 rfl d_HB_judge_60 ?_
                refine r_icmp_lt 64 70 rfl rfl d_HB_judge_61 (fun h61 => ?_) (fun h61 => ?_)
                · have hik : iN + k < ν (71 + 2 * tN) 2 := (jd_lt hztN (by omega) hiN).mp h61
                  have hns : ¬ σ (71 + 2 * tN) 1 = -1 := fun q => (hsot.elim (fun z => by omega) (fun z => z (by rw [q]; decide)))
                  have hng : ¬ (σ (71 + 2 * tN) 1 = -1 ∨ nI iN < 0 ∨ cn (nI (ν (71 + 2 * tN) 2)) ≤ cn (nI iN) + k) := fun q => q.elim hns (fun q => q.elim h50 (fun q => by rw [cn_nI (show ν (71 + 2 * tN) 2 < 2 ^ 31 by omega), eiN] at q; omega))
                  refine r_aload_n rfl 71 rfl d_HB_judge_70 ?_
                  refine r_iload_n rfl 72 rfl d_HB_judge_71 ?_
                  refine r_iload rfl 74 rfl d_HB_judge_72 ?_
                  refine r_iadd 75 rfl d_HB_judge_74 ?_
                  refine r_topi (nI (iN + k)) (nI_add _ _) ?_
                  refine r_callVA1 (st2 := [.long (τ (72 + 2 * tN) (iN + k))]) (w2 := CW X a ν σ τ) lk_Tap_get ln_HB_228 (c_C_get X a ν σ τ tN htN (iN + k) (by omega) hztN) (by first | decide | omega) rfl rfl (Nat.le_of_ble_eq_true rfl) (Nat.le_of_ble_eq_true rfl) (Nat.le_of_ble_eq_true rfl) (71 + 2 * tN) rfl (CWt htN) rfl rfl 78 rfl d_HB_judge_75 ?_
                  refine r_aload_n rfl 79 rfl d_HB_judge_78 ?_
                  refine r_getf (v := .ref (a 1)) gf_HB_12 0 rfl rfl 82 rfl d_HB_judge_79 ?_
                  refine r_getfn (v := .ref (a 2)) gf_HB_49 1 rfl rfl 85 rfl d_HB_judge_82 ?_
                  refine r_iload rfl 87 rfl d_HB_judge_85 ?_
                  refine r_callV1 (st2 := [.int (bal (ν 2 3) (σ 4) k), .long (τ (72 + 2 * tN) (iN + k))]) (w2 := CW X a ν σ τ) lk_Led_balance ln_HB_86 (c_Led_balance X (pl [2, 3, 4, 5] a) (pl [2, 3, 4, 5] ν) (pl [2, 3, 4, 5] σ) (pl [2, 3, 4, 5] τ)  k (hn6) (by omega)) (by first | decide | omega) rfl rfl (Nat.le_of_ble_eq_true rfl) (Nat.le_of_ble_eq_true rfl) (Nat.le_of_ble_eq_true rfl) [2, 3, 4, 5] rfl rfl 0 rfl rfl rfl rfl rfl 90 rfl d_HB_judge_87 ?_
                  refine r_i2l 91 rfl d_HB_judge_90 ?_
                  refine r_lcmp 92 rfl d_HB_judge_91 ?_
                  refine r_if_eq 95 98 rfl rfl d_HB_judge_92 (fun h92 => ?_) (fun h92 => ?_)
                  · refine r_iinc (ls2 := [some (.ref (a 0)), some (.int (nI tN)), some (.int (nI iN)), some (.ref (a (71 + 2 * tN))), some (.int (nI (k + 1)))]) (nI (k + 1)) rfl (nI_1 _) 101 rfl d_HB_judge_98 (by decide) rfl rfl ?_
                    refine r_goto 34 rfl d_HB_judge_101 ?_
                    exact ih4 (k + 1) (by omega) (by rw [← hr, judF_s h46, if_neg hng, eiN, show 60 * tN + iN + k = 60 * tN + (iN + k) by omega, cTa_at (by omega), if_pos ((lg_cmp_eq _ _).mp h92)]) (by omega)
                  · refine r_iload rfl 97 rfl d_HB_judge_95 ?_
                    exact r_iret rfl (Nat.zero_le _) (Nat.zero_le _) d_HB_judge_97 (by rw [← hQ]; exact ⟨by rw [R_judge, if_pos rt, etN, if_pos (show cSo σ tN = -1 ∨ cSo σ tN = nI 2 from hsj)]; show _ = some (Value.int (judF (ν 2 3) (σ 4) (σ (71 + 2 * tN) 1) (nI (ν (71 + 2 * tN) 2)) (cTa τ) (60 * tN) (nI iN) (ν 2 3))); rw [← hr, judF_s h46, if_neg hng, eiN, show 60 * tN + iN + k = 60 * tN + (iN + k) by omega, cTa_at (by omega), if_neg (fun z => h92 ((lg_cmp_eq _ _).mpr z))], rfl⟩)
                · refine r_bipush (nI 100) rfl 66 rfl d_HB_judge_64 ?_
                  refine r_iload rfl 68 rfl d_HB_judge_66 ?_
                  refine r_iadd 69 rfl d_HB_judge_68 ?_
                  refine r_topi (nI (100 + k)) (nI_add _ _) ?_
                  exact r_iret rfl (Nat.zero_le _) (Nat.zero_le _) d_HB_judge_69 (by rw [← hQ]; exact ⟨by rw [R_judge, if_pos rt, etN, if_pos (show cSo σ tN = -1 ∨ cSo σ tN = nI 2 from hsj)]; show _ = some (Value.int (judF (ν 2 3) (σ 4) (σ (71 + 2 * tN) 1) (nI (ν (71 + 2 * tN) 2)) (cTa τ) (60 * tN) (nI iN) (ν 2 3))); rw [← hr, judF_s h46, if_pos (Or.inr (Or.inr (by rw [cn_nI (show ν (71 + 2 * tN) 2 < 2 ^ 31 by omega), eiN]; have h9 : ¬ iN + k < ν (71 + 2 * tN) 2 := fun q => h61 ((jd_lt hztN (by omega) (by omega)).mpr q); omega)))], rfl⟩)
        exact L34_3 _ 0 (Nat.zero_le _) (rfl) (Nat.lt_succ_self _)
      · refine r_bipush ((-12)) rfl 30 rfl d_HB_judge_28 ?_
        exact r_iret rfl (Nat.zero_le _) (Nat.zero_le _) d_HB_judge_30 (by rw [← hQ]; exact ⟨by rw [R_judge, if_pos rt, etN, if_neg (fun z => z.elim (fun q => h17 q) (fun q => h25 q))], rfl⟩)
theorem c_HB_shift (X : Xn) (a : Nat → Nat) (ν : Nat → Nat → Nat) (σ : Nat → Nat → Int32) (τ : Nat → Nat → Int64)  (t : Int32) (i : Int32) (o : Int32) (j : Int32) (n : Int32) (hz : ∀ t, t < 6 → ν (71 + 2 * t) 2 ≤ 60) (hso : ∀ t, t < 6 → (σ (71 + 2 * t) 1 = -1 ∧ ν (71 + 2 * t) 2 = 0) ∨ ¬ σ (71 + 2 * t) 1 < 0) : Does X 2 M_HB_shift [.ref (a 0), .int t, .int i, .int o, .int j, .int n] (CW X a ν σ τ) 0 0 (fun (vv : Option Value) (ww : va_W) => vv = some (.int (R_shift (cSo σ) (cSz ν) t i o j n)) ∧ ww = CW X a ν σ (if b_shift (cSo σ) (cSz ν) t i o j n = true then pu τ (72 + 2 * cn o) (va_cpy (τ (72 + 2 * cn t)) (τ (72 + 2 * cn o)) (cn i) (cn j) (cn n)) else τ)) := by
  generalize hQ : (fun (vv : Option Value) (ww : va_W) => vv = some (.int (R_shift (cSo σ) (cSz ν) t i o j n)) ∧ ww = CW X a ν σ (if b_shift (cSo σ) (cSz ν) t i o j n = true then pu τ (72 + 2 * cn o) (va_cpy (τ (72 + 2 * cn t)) (τ (72 + 2 * cn o)) (cn i) (cn j) (cn n)) else τ)) = Q
  refine Does.go rfl (Nat.le_of_ble_eq_true rfl) [some (.ref (a 0)), some (.int t), some (.int i), some (.int o), some (.int j), some (.int n), none, none] 2 rfl ?_
  refine r_aload_n rfl 1 rfl d_HB_shift_0 ?_
  refine r_iload_n rfl 2 rfl d_HB_shift_1 ?_
  cases rt : inR t (nI 0) (nI 5) with
  | false =>
    refine r_callVA1 (st2 := [.null]) (w2 := CW X a ν σ τ) lk_HB_tapeAt ln_HB_220 (c_HB_tapeAt0 X a ν σ τ t rt) (by first | decide | omega) rfl rfl (Nat.le_of_ble_eq_true rfl) (Nat.le_of_ble_eq_true rfl) (Nat.le_of_ble_eq_true rfl) 0 rfl rfl rfl rfl 5 rfl d_HB_shift_2 ?_
    refine r_astoreN (ls2 := [some (.ref (a 0)), some (.int t), some (.int i), some (.int o), some (.int j), some (.int n), some (.null), none]) 7 rfl d_HB_shift_5 (by decide) rfl rfl ?_
    refine r_aload_n rfl 8 rfl d_HB_shift_7 ?_
    refine r_iload_n rfl 9 rfl d_HB_shift_8 ?_
    cases ro : inR o (nI 0) (nI 5) with
    | false =>
      refine r_callVA1 (st2 := [.null]) (w2 := CW X a ν σ τ) lk_HB_tapeAt ln_HB_220 (c_HB_tapeAt0 X a ν σ τ o ro) (by first | decide | omega) rfl rfl (Nat.le_of_ble_eq_true rfl) (Nat.le_of_ble_eq_true rfl) (Nat.le_of_ble_eq_true rfl) 0 rfl rfl rfl rfl 12 rfl d_HB_shift_9 ?_
      refine r_astoreN (ls2 := [some (.ref (a 0)), some (.int t), some (.int i), some (.int o), some (.int j), some (.int n), some (.null), some (.null)]) 14 rfl d_HB_shift_12 (by decide) rfl rfl ?_
      refine r_aloadN rfl 16 rfl d_HB_shift_14 ?_
      refine r_ifnullN 24 rfl d_HB_shift_16 ?_
      refine r_iconst ((-1)) rfl 25 rfl d_HB_shift_24 ?_
      exact r_iret rfl (Nat.zero_le _) (Nat.zero_le _) d_HB_shift_25 (by rw [← hQ]; exact ⟨by simp [R_shift, b_shift, cSo, cSz, rt, ro], by simp [b_shift, cSo, cSz, rt, ro]⟩)
    | true =>
      obtain ⟨oN, ho5, rfl⟩ := inR_t (by decide) ro
      have hoN : oN < 6 := by omega
      have eoN : cn (nI oN) = oN := cn_nI (by omega)
      refine r_callVA1 (st2 := [.ref (a (71 + 2 * oN))]) (w2 := CW X a ν σ τ) lk_HB_tapeAt ln_HB_220 (c_HB_tapeAt1 X a ν σ τ oN hoN) (by first | decide | omega) rfl rfl (Nat.le_of_ble_eq_true rfl) (Nat.le_of_ble_eq_true rfl) (Nat.le_of_ble_eq_true rfl) 0 rfl rfl rfl rfl 12 rfl d_HB_shift_9 ?_
      refine r_astore (ls2 := [some (.ref (a 0)), some (.int t), some (.int i), some (.int (nI oN)), some (.int j), some (.int n), some (.null), some (.ref (a (71 + 2 * oN)))]) 14 rfl d_HB_shift_12 (by decide) rfl rfl ?_
      refine r_aloadN rfl 16 rfl d_HB_shift_14 ?_
      refine r_ifnullN 24 rfl d_HB_shift_16 ?_
      refine r_iconst ((-1)) rfl 25 rfl d_HB_shift_24 ?_
      exact r_iret rfl (Nat.zero_le _) (Nat.zero_le _) d_HB_shift_25 (by rw [← hQ]; exact ⟨by simp [R_shift, b_shift, cSo, cSz, rt, ro, eoN], by simp [b_shift, cSo, cSz, rt, ro, eoN]⟩)
  | true =>
    obtain ⟨tN, ht5, rfl⟩ := inR_t (by decide) rt
    have htN : tN < 6 := by omega
    have etN : cn (nI tN) = tN := cn_nI (by omega)
    refine r_callVA1 (st2 := [.ref (a (71 + 2 * tN))]) (w2 := CW X a ν σ τ) lk_HB_tapeAt ln_HB_220 (c_HB_tapeAt1 X a ν σ τ tN htN) (by first | decide | omega) rfl rfl (Nat.le_of_ble_eq_true rfl) (Nat.le_of_ble_eq_true rfl) (Nat.le_of_ble_eq_true rfl) 0 rfl rfl rfl rfl 5 rfl d_HB_shift_2 ?_
    refine r_astore (ls2 := [some (.ref (a 0)), some (.int (nI tN)), some (.int i), some (.int o), some (.int j), some (.int n), some (.ref (a (71 + 2 * tN))), none]) 7 rfl d_HB_shift_5 (by decide) rfl rfl ?_
    refine r_aload_n rfl 8 rfl d_HB_shift_7 ?_
    refine r_iload_n rfl 9 rfl d_HB_shift_8 ?_
    cases ro : inR o (nI 0) (nI 5) with
    | false =>
      refine r_callVA1 (st2 := [.null]) (w2 := CW X a ν σ τ) lk_HB_tapeAt ln_HB_220 (c_HB_tapeAt0 X a ν σ τ o ro) (by first | decide | omega) rfl rfl (Nat.le_of_ble_eq_true rfl) (Nat.le_of_ble_eq_true rfl) (Nat.le_of_ble_eq_true rfl) 0 rfl rfl rfl rfl 12 rfl d_HB_shift_9 ?_
      refine r_astoreN (ls2 := [some (.ref (a 0)), some (.int (nI tN)), some (.int i), some (.int o), some (.int j), some (.int n), some (.ref (a (71 + 2 * tN))), some (.null)]) 14 rfl d_HB_shift_12 (by decide) rfl rfl ?_
      refine r_aload rfl 16 rfl d_HB_shift_14 ?_
      refine r_ifnull 19 rfl d_HB_shift_16 ?_
      refine r_aloadN rfl 21 rfl d_HB_shift_19 ?_
      refine r_ifnonnullN 24 rfl d_HB_shift_21 ?_
      refine r_iconst ((-1)) rfl 25 rfl d_HB_shift_24 ?_
      exact r_iret rfl (Nat.zero_le _) (Nat.zero_le _) d_HB_shift_25 (by rw [← hQ]; exact ⟨by simp [R_shift, b_shift, cSo, cSz, rt, etN, ro], by simp [b_shift, cSo, cSz, rt, etN, ro]⟩)
    | true =>
      obtain ⟨oN, ho5, rfl⟩ := inR_t (by decide) ro
      have hoN : oN < 6 := by omega
      have eoN : cn (nI oN) = oN := cn_nI (by omega)
      refine r_callVA1 (st2 := [.ref (a (71 + 2 * oN))]) (w2 := CW X a ν σ τ) lk_HB_tapeAt ln_HB_220 (c_HB_tapeAt1 X a ν σ τ oN hoN) (by first | decide | omega) rfl rfl (Nat.le_of_ble_eq_true rfl) (Nat.le_of_ble_eq_true rfl) (Nat.le_of_ble_eq_true rfl) 0 rfl rfl rfl rfl 12 rfl d_HB_shift_9 ?_
      refine r_astore (ls2 := [some (.ref (a 0)), some (.int (nI tN)), some (.int i), some (.int (nI oN)), some (.int j), some (.int n), some (.ref (a (71 + 2 * tN))), some (.ref (a (71 + 2 * oN)))]) 14 rfl d_HB_shift_12 (by decide) rfl rfl ?_
      refine r_aload rfl 16 rfl d_HB_shift_14 ?_
      refine r_ifnull 19 rfl d_HB_shift_16 ?_
      refine r_aload rfl 21 rfl d_HB_shift_19 ?_
      refine r_ifnonnull 26 rfl d_HB_shift_21 ?_
      have hztN := hz tN htN
      have hsot := hso tN htN
      have hzoN := hz oN hoN
      have hsoo := hso oN hoN
      refine r_aload rfl 28 rfl d_HB_shift_26 ?_
      refine r_getfn (v := .int (σ (71 + 2 * tN) 1)) gf_HB_224 (71 + 2 * tN) (CWt htN) rfl 31 rfl d_HB_shift_28 ?_
      refine r_iconst ((-1)) rfl 32 rfl d_HB_shift_31 ?_
      refine r_icmp_eq 35 44 rfl rfl d_HB_shift_32 (fun h32 => ?_) (fun h32 => ?_)
      · have l_t : σ (71 + 2 * tN) 1 < 0 := by rw [h32]; decide
        have u_t : ¬ (0 : Int32) ≤ σ (71 + 2 * tN) 1 := Int32.not_le.mpr l_t
        refine r_bipush ((-11)) rfl 46 rfl d_HB_shift_44 ?_
        exact r_iret rfl (Nat.zero_le _) (Nat.zero_le _) d_HB_shift_46 (by rw [← hQ]; exact ⟨by simp [R_shift, b_shift, cSo, cSz, rt, etN, ro, eoN, l_t, u_t], by simp [b_shift, cSo, cSz, rt, etN, ro, eoN, l_t, u_t]⟩)
      · have l_t : ¬ σ (71 + 2 * tN) 1 < 0 := hsot.resolve_left (fun z => h32 z.1)
        have u_t : (0 : Int32) ≤ σ (71 + 2 * tN) 1 := Int32.not_lt.mp l_t
        refine r_aload rfl 37 rfl d_HB_shift_35 ?_
        refine r_getfn (v := .int (σ (71 + 2 * oN) 1)) gf_HB_224 (71 + 2 * oN) (CWt hoN) rfl 40 rfl d_HB_shift_37 ?_
        refine r_iconst ((-1)) rfl 41 rfl d_HB_shift_40 ?_
        refine r_icmp_ne 44 47 rfl rfl d_HB_shift_41 (fun h41 => ?_) (fun h41 => ?_)
        · have l_o : ¬ σ (71 + 2 * oN) 1 < 0 := hsoo.resolve_left (fun z => h41 z.1)
          have u_o : (0 : Int32) ≤ σ (71 + 2 * oN) 1 := Int32.not_lt.mp l_o
          refine r_aload rfl 49 rfl d_HB_shift_47 ?_
          refine r_getfn (v := .int (σ (71 + 2 * tN) 1)) gf_HB_224 (71 + 2 * tN) (CWt htN) rfl 52 rfl d_HB_shift_49 ?_
          refine r_aload rfl 54 rfl d_HB_shift_52 ?_
          refine r_getfn (v := .int (σ (71 + 2 * oN) 1)) gf_HB_224 (71 + 2 * oN) (CWt hoN) rfl 57 rfl d_HB_shift_54 ?_
          refine r_icmp_eq 60 63 rfl rfl d_HB_shift_57 (fun h57 => ?_) (fun h57 => ?_)
          · have nl : ¬ (cSo σ (cn (nI tN)) < 0 ∨ cSo σ (cn (nI oN)) < 0) := by rw [etN, eoN]; exact fun z => z.elim l_t l_o
            have he : cSo σ (cn (nI tN)) = cSo σ (cn (nI oN)) := by rw [etN, eoN]; exact h57
            have hsb := shift_b (i := i) (j := j) (n := n) htN hoN hztN hzoN l_t l_o h57
            refine r_aload rfl 65 rfl d_HB_shift_63 ?_
            refine r_iload_n rfl 66 rfl d_HB_shift_65 ?_
            refine r_iload rfl 68 rfl d_HB_shift_66 ?_
            refine r_callVA1 (st2 := [.int (bI (runB (ν (71 + 2 * tN) 2) i n))]) (w2 := CW X a ν σ τ) lk_Tap_hasRun ln_HB_270 (c_C_hasRun X a ν σ τ tN htN i n ) (by first | decide | omega) rfl rfl (Nat.le_of_ble_eq_true rfl) (Nat.le_of_ble_eq_true rfl) (Nat.le_of_ble_eq_true rfl) (71 + 2 * tN) rfl (CWt htN) rfl rfl 71 rfl d_HB_shift_68 ?_
            refine r_if_eqB 74 86 rfl rfl d_HB_shift_71 (fun h71 => ?_) (fun h71 => ?_)
            · refine r_bipush ((-13)) rfl 88 rfl d_HB_shift_86 ?_
              exact r_iret rfl (Nat.zero_le _) (Nat.zero_le _) d_HB_shift_88 (by rw [← hQ]; exact ⟨by rw [R_shift, if_pos ⟨rt, ro⟩, if_neg nl, if_pos he, if_neg (by rw [hsb, h71]; simp)], by rw [if_neg (by rw [hsb, h71]; simp)]⟩)
            · refine r_aload rfl 76 rfl d_HB_shift_74 ?_
              refine r_iload rfl 78 rfl d_HB_shift_76 ?_
              refine r_iload rfl 80 rfl d_HB_shift_78 ?_
              refine r_callVA1 (st2 := [.int (bI (runB (ν (71 + 2 * oN) 2) j n))]) (w2 := CW X a ν σ τ) lk_Tap_hasRun ln_HB_270 (c_C_hasRun X a ν σ τ oN hoN j n ) (by first | decide | omega) rfl rfl (Nat.le_of_ble_eq_true rfl) (Nat.le_of_ble_eq_true rfl) (Nat.le_of_ble_eq_true rfl) (71 + 2 * oN) rfl (CWt hoN) rfl rfl 83 rfl d_HB_shift_80 ?_
              refine r_if_neB 86 89 rfl rfl d_HB_shift_83 (fun h83 => ?_) (fun h83 => ?_)
              · obtain ⟨iN, nN, hin, rfl, rfl⟩ := runB_t hztN h71
                obtain ⟨jN, mN, hjm, rfl, emn⟩ := runB_t hzoN h83
                obtain rfl : mN = nN := ((nI_eq (by omega) (by omega)).mp emn).symm
                refine r_aload rfl 91 rfl d_HB_shift_89 ?_
                refine r_getfn (v := .ref (a (72 + 2 * tN))) gf_HB_274 (71 + 2 * tN) (CWt htN) rfl 94 rfl d_HB_shift_91 ?_
                refine r_iload_n rfl 95 rfl d_HB_shift_94 ?_
                refine r_aload rfl 97 rfl d_HB_shift_95 ?_
                refine r_getfn (v := .ref (a (72 + 2 * oN))) gf_HB_274 (71 + 2 * oN) (CWt hoN) rfl 100 rfl d_HB_shift_97 ?_
                refine r_iload rfl 102 rfl d_HB_shift_100 ?_
                refine r_iload rfl 104 rfl d_HB_shift_102 ?_
                refine r_copyl (w2 := CW X a ν σ (pu τ (72 + 2 * oN) (va_cpy (τ (72 + 2 * tN)) (τ (72 + 2 * oN)) iN jN mN))) (inTB 843 (by decide +kernel) rfl) (by first | decide | omega) (Nat.le_of_ble_eq_true rfl) (72 + 2 * tN) (72 + 2 * oN) (by first | exact CWi htN | exact CWi hoN) (by first | exact CWi htN | exact CWi hoN) iN jN mN rfl rfl rfl (by omega) (by omega) (by omega) (by omega) (CWis hoN) 107 rfl d_HB_shift_104 ?_
                refine r_iload rfl 109 rfl d_HB_shift_107 ?_
                exact r_iret rfl (Nat.zero_le _) (Nat.zero_le _) d_HB_shift_109 (by rw [← hQ]; exact ⟨by rw [R_shift, if_pos ⟨rt, ro⟩, if_neg nl, if_pos he, if_pos (by rw [hsb, h71, h83]; rfl)], by rw [if_pos (by rw [hsb, h71, h83]; rfl), etN, eoN, cn_nI (show iN < 2 ^ 31 by omega), cn_nI (show jN < 2 ^ 31 by omega), cn_nI (show mN < 2 ^ 31 by omega)]⟩)
              · refine r_bipush ((-13)) rfl 88 rfl d_HB_shift_86 ?_
                exact r_iret rfl (Nat.zero_le _) (Nat.zero_le _) d_HB_shift_88 (by rw [← hQ]; exact ⟨by rw [R_shift, if_pos ⟨rt, ro⟩, if_neg nl, if_pos he, if_neg (by rw [hsb, h71, h83]; simp)], by rw [if_neg (by rw [hsb, h71, h83]; simp)]⟩)
          · refine r_bipush ((-12)) rfl 62 rfl d_HB_shift_60 ?_
            exact r_iret rfl (Nat.zero_le _) (Nat.zero_le _) d_HB_shift_62 (by rw [← hQ]; exact ⟨by simp [R_shift, b_shift, cSo, cSz, rt, etN, ro, eoN, l_t, u_t, l_o, u_o, h57], by simp [b_shift, cSo, cSz, rt, etN, ro, eoN, l_t, u_t, l_o, u_o, h57]⟩)
        · have l_o : σ (71 + 2 * oN) 1 < 0 := by rw [h41]; decide
          have u_o : ¬ (0 : Int32) ≤ σ (71 + 2 * oN) 1 := Int32.not_le.mpr l_o
          refine r_bipush ((-11)) rfl 46 rfl d_HB_shift_44 ?_
          exact r_iret rfl (Nat.zero_le _) (Nat.zero_le _) d_HB_shift_46 (by rw [← hQ]; exact ⟨by simp [R_shift, b_shift, cSo, cSz, rt, etN, ro, eoN, l_t, u_t, l_o, u_o], by simp [b_shift, cSo, cSz, rt, etN, ro, eoN, l_t, u_t, l_o, u_o]⟩)
