def M_Mod_isTape : XM := (⟨"HandshakeBindsModel", "isTape", "(I)Z"⟩, prog_11_method_76_code, 1, (some .boolean))
theorem d_Mod_isTape_0 : decode M_Mod_isTape.2.1 0 = .ok (.iload_n 0, 1) := by decide +kernel
theorem d_Mod_isTape_1 : decode M_Mod_isTape.2.1 1 = .ok (.iconst 0, 1) := by decide +kernel
theorem d_Mod_isTape_2 : decode M_Mod_isTape.2.1 2 = .ok (.iconst 5, 1) := by decide +kernel
theorem d_Mod_isTape_3 : decode M_Mod_isTape.2.1 3 = .ok (.invokestatic 114, 3) := by decide +kernel
theorem d_Mod_isTape_6 : decode M_Mod_isTape.2.1 6 = .ok (.ireturn, 1) := by decide +kernel
def M_Mod_kept : XM := (⟨"HandshakeBindsModel", "kept", "(IJ)J"⟩, prog_11_method_78_code, 3, (some .long))
theorem d_Mod_kept_0 : decode M_Mod_kept.2.1 0 = .ok (.iload_n 0, 1) := by decide +kernel
theorem d_Mod_kept_1 : decode M_Mod_kept.2.1 1 = .ok (.tableswitch 47 0 3 #[31, 36, 41, 45], 31) := by decide +kernel
theorem d_Mod_kept_32 : decode M_Mod_kept.2.1 32 = .ok (.lload_n 1, 1) := by decide +kernel
theorem d_Mod_kept_33 : decode M_Mod_kept.2.1 33 = .ok (.l2i, 1) := by decide +kernel
theorem d_Mod_kept_34 : decode M_Mod_kept.2.1 34 = .ok (.i2b, 1) := by decide +kernel
theorem d_Mod_kept_35 : decode M_Mod_kept.2.1 35 = .ok (.i2l, 1) := by decide +kernel
theorem d_Mod_kept_36 : decode M_Mod_kept.2.1 36 = .ok (.lreturn, 1) := by decide +kernel
theorem d_Mod_kept_37 : decode M_Mod_kept.2.1 37 = .ok (.lload_n 1, 1) := by decide +kernel
theorem d_Mod_kept_38 : decode M_Mod_kept.2.1 38 = .ok (.l2i, 1) := by decide +kernel
theorem d_Mod_kept_39 : decode M_Mod_kept.2.1 39 = .ok (.i2s, 1) := by decide +kernel
theorem d_Mod_kept_40 : decode M_Mod_kept.2.1 40 = .ok (.i2l, 1) := by decide +kernel
theorem d_Mod_kept_41 : decode M_Mod_kept.2.1 41 = .ok (.lreturn, 1) := by decide +kernel
theorem d_Mod_kept_42 : decode M_Mod_kept.2.1 42 = .ok (.lload_n 1, 1) := by decide +kernel
theorem d_Mod_kept_43 : decode M_Mod_kept.2.1 43 = .ok (.l2i, 1) := by decide +kernel
theorem d_Mod_kept_44 : decode M_Mod_kept.2.1 44 = .ok (.i2l, 1) := by decide +kernel
theorem d_Mod_kept_45 : decode M_Mod_kept.2.1 45 = .ok (.lreturn, 1) := by decide +kernel
theorem d_Mod_kept_46 : decode M_Mod_kept.2.1 46 = .ok (.lload_n 1, 1) := by decide +kernel
theorem d_Mod_kept_47 : decode M_Mod_kept.2.1 47 = .ok (.lreturn, 1) := by decide +kernel
theorem d_Mod_kept_48 : decode M_Mod_kept.2.1 48 = .ok (.lload_n 1, 1) := by decide +kernel
theorem d_Mod_kept_49 : decode M_Mod_kept.2.1 49 = .ok (.lconst 0, 1) := by decide +kernel
theorem d_Mod_kept_50 : decode M_Mod_kept.2.1 50 = .ok (.lcmp, 1) := by decide +kernel
theorem d_Mod_kept_51 : decode M_Mod_kept.2.1 51 = .ok (.ifCond .eq 7, 3) := by decide +kernel
theorem d_Mod_kept_58 : decode M_Mod_kept.2.1 58 = .ok (.lconst 0, 1) := by decide +kernel
theorem d_Mod_kept_59 : decode M_Mod_kept.2.1 59 = .ok (.lreturn, 1) := by decide +kernel
theorem d_Mod_kept_54 : decode M_Mod_kept.2.1 54 = .ok (.lconst 1, 1) := by decide +kernel
theorem d_Mod_kept_55 : decode M_Mod_kept.2.1 55 = .ok (.goto 4, 3) := by decide +kernel
def M_Mod_item : XM := (⟨"HandshakeBindsModel", "item", "(IIJ)I"⟩, prog_11_method_79_code, 5, (some .int))
theorem d_Mod_item_0 : decode M_Mod_item.2.1 0 = .ok (.iload_n 1, 1) := by decide +kernel
theorem d_Mod_item_1 : decode M_Mod_item.2.1 1 = .ok (.invokestatic 345, 3) := by decide +kernel
theorem ln_Mod_345 : Cond.methodLink "HandshakeBindsModel" 345 M_Mod_isTape.1 ∈ TB := inTB 1360 (by decide +kernel) rfl
theorem lk_Mod_isTape : LSt M_Mod_isTape 1 := ⟨⟨inTB 72 (by decide +kernel) rfl, inTB 1362 (by decide +kernel) rfl, ⟨by decide, by decide, by decide +kernel⟩, by decide⟩, inTB 1361 (by decide +kernel) rfl⟩
theorem d_Mod_item_4 : decode M_Mod_item.2.1 4 = .ok (.ifCond .ne 5, 3) := by decide +kernel
theorem d_Mod_item_9 : decode M_Mod_item.2.1 9 = .ok (.aload_n 0, 1) := by decide +kernel
theorem d_Mod_item_10 : decode M_Mod_item.2.1 10 = .ok (.getfield 97, 3) := by decide +kernel
theorem gf_Mod_97 : GF "HandshakeBindsModel" 97 9 43 := ⟨_, _, _, rfl, by decide, i_Mod, inTB 893 (by decide +kernel) rfl⟩
theorem d_Mod_item_13 : decode M_Mod_item.2.1 13 = .ok (.iload_n 1, 1) := by decide +kernel
theorem d_Mod_item_14 : decode M_Mod_item.2.1 14 = .ok (.iaload, 1) := by decide +kernel
theorem d_Mod_item_15 : decode M_Mod_item.2.1 15 = .ok (.ifCond .ge 6, 3) := by decide +kernel
theorem d_Mod_item_21 : decode M_Mod_item.2.1 21 = .ok (.iload_n 2, 1) := by decide +kernel
theorem d_Mod_item_22 : decode M_Mod_item.2.1 22 = .ok (.iconst 0, 1) := by decide +kernel
theorem d_Mod_item_23 : decode M_Mod_item.2.1 23 = .ok (.aload_n 0, 1) := by decide +kernel
theorem d_Mod_item_24 : decode M_Mod_item.2.1 24 = .ok (.getfield 100, 3) := by decide +kernel
theorem gf_Mod_100 : GF "HandshakeBindsModel" 100 9 44 := ⟨_, _, _, rfl, by decide, i_Mod, inTB 894 (by decide +kernel) rfl⟩
theorem d_Mod_item_27 : decode M_Mod_item.2.1 27 = .ok (.iload_n 1, 1) := by decide +kernel
theorem d_Mod_item_28 : decode M_Mod_item.2.1 28 = .ok (.iaload, 1) := by decide +kernel
theorem d_Mod_item_29 : decode M_Mod_item.2.1 29 = .ok (.iconst 1, 1) := by decide +kernel
theorem d_Mod_item_30 : decode M_Mod_item.2.1 30 = .ok (.isub, 1) := by decide +kernel
theorem d_Mod_item_31 : decode M_Mod_item.2.1 31 = .ok (.invokestatic 114, 3) := by decide +kernel
theorem d_Mod_item_34 : decode M_Mod_item.2.1 34 = .ok (.ifCond .ne 6, 3) := by decide +kernel
theorem d_Mod_item_40 : decode M_Mod_item.2.1 40 = .ok (.aload_n 0, 1) := by decide +kernel
theorem d_Mod_item_41 : decode M_Mod_item.2.1 41 = .ok (.getfield 103, 3) := by decide +kernel
theorem gf_Mod_103 : GF "HandshakeBindsModel" 103 9 45 := ⟨_, _, _, rfl, by decide, i_Mod, inTB 895 (by decide +kernel) rfl⟩
theorem d_Mod_item_44 : decode M_Mod_item.2.1 44 = .ok (.bipush 60, 2) := by decide +kernel
theorem d_Mod_item_46 : decode M_Mod_item.2.1 46 = .ok (.iload_n 1, 1) := by decide +kernel
theorem d_Mod_item_47 : decode M_Mod_item.2.1 47 = .ok (.imul, 1) := by decide +kernel
theorem d_Mod_item_48 : decode M_Mod_item.2.1 48 = .ok (.iload_n 2, 1) := by decide +kernel
theorem d_Mod_item_49 : decode M_Mod_item.2.1 49 = .ok (.iadd, 1) := by decide +kernel
theorem d_Mod_item_50 : decode M_Mod_item.2.1 50 = .ok (.aload_n 0, 1) := by decide +kernel
theorem d_Mod_item_51 : decode M_Mod_item.2.1 51 = .ok (.getfield 97, 3) := by decide +kernel
theorem d_Mod_item_54 : decode M_Mod_item.2.1 54 = .ok (.iload_n 1, 1) := by decide +kernel
theorem d_Mod_item_55 : decode M_Mod_item.2.1 55 = .ok (.iaload, 1) := by decide +kernel
theorem d_Mod_item_56 : decode M_Mod_item.2.1 56 = .ok (.lload_n 3, 1) := by decide +kernel
theorem d_Mod_item_57 : decode M_Mod_item.2.1 57 = .ok (.invokestatic 348, 3) := by decide +kernel
theorem ln_Mod_348 : Cond.methodLink "HandshakeBindsModel" 348 M_Mod_kept.1 ∈ TB := inTB 1367 (by decide +kernel) rfl
theorem lk_Mod_kept : LSt M_Mod_kept 2 := ⟨⟨inTB 72 (by decide +kernel) rfl, inTB 1369 (by decide +kernel) rfl, ⟨by decide, by decide, by decide +kernel⟩, by decide⟩, inTB 1368 (by decide +kernel) rfl⟩
theorem d_Mod_item_60 : decode M_Mod_item.2.1 60 = .ok (.lastore, 1) := by decide +kernel
theorem d_Mod_item_61 : decode M_Mod_item.2.1 61 = .ok (.iconst 1, 1) := by decide +kernel
theorem d_Mod_item_62 : decode M_Mod_item.2.1 62 = .ok (.ireturn, 1) := by decide +kernel
theorem d_Mod_item_37 : decode M_Mod_item.2.1 37 = .ok (.bipush (-13), 2) := by decide +kernel
theorem d_Mod_item_39 : decode M_Mod_item.2.1 39 = .ok (.ireturn, 1) := by decide +kernel
theorem d_Mod_item_18 : decode M_Mod_item.2.1 18 = .ok (.bipush (-11), 2) := by decide +kernel
theorem d_Mod_item_20 : decode M_Mod_item.2.1 20 = .ok (.ireturn, 1) := by decide +kernel
theorem d_Mod_item_7 : decode M_Mod_item.2.1 7 = .ok (.iconst (-1), 1) := by decide +kernel
theorem d_Mod_item_8 : decode M_Mod_item.2.1 8 = .ok (.ireturn, 1) := by decide +kernel
def M_Mod_read : XM := (⟨"HandshakeBindsModel", "read", "(II)J"⟩, prog_11_method_80_code, 3, (some .long))
theorem d_Mod_read_0 : decode M_Mod_read.2.1 0 = .ok (.iload_n 1, 1) := by decide +kernel
theorem d_Mod_read_1 : decode M_Mod_read.2.1 1 = .ok (.invokestatic 345, 3) := by decide +kernel
theorem d_Mod_read_4 : decode M_Mod_read.2.1 4 = .ok (.ifCond .eq 42, 3) := by decide +kernel
theorem d_Mod_read_46 : decode M_Mod_read.2.1 46 = .ok (.ldc2_w 306, 3) := by decide +kernel
theorem d_Mod_read_49 : decode M_Mod_read.2.1 49 = .ok (.lreturn, 1) := by decide +kernel
theorem d_Mod_read_7 : decode M_Mod_read.2.1 7 = .ok (.aload_n 0, 1) := by decide +kernel
theorem d_Mod_read_8 : decode M_Mod_read.2.1 8 = .ok (.getfield 97, 3) := by decide +kernel
theorem d_Mod_read_11 : decode M_Mod_read.2.1 11 = .ok (.iload_n 1, 1) := by decide +kernel
theorem d_Mod_read_12 : decode M_Mod_read.2.1 12 = .ok (.iaload, 1) := by decide +kernel
theorem d_Mod_read_13 : decode M_Mod_read.2.1 13 = .ok (.ifCond .lt 33, 3) := by decide +kernel
theorem d_Mod_read_16 : decode M_Mod_read.2.1 16 = .ok (.iload_n 2, 1) := by decide +kernel
theorem d_Mod_read_17 : decode M_Mod_read.2.1 17 = .ok (.iconst 0, 1) := by decide +kernel
theorem d_Mod_read_18 : decode M_Mod_read.2.1 18 = .ok (.aload_n 0, 1) := by decide +kernel
theorem d_Mod_read_19 : decode M_Mod_read.2.1 19 = .ok (.getfield 100, 3) := by decide +kernel
theorem d_Mod_read_22 : decode M_Mod_read.2.1 22 = .ok (.iload_n 1, 1) := by decide +kernel
theorem d_Mod_read_23 : decode M_Mod_read.2.1 23 = .ok (.iaload, 1) := by decide +kernel
theorem d_Mod_read_24 : decode M_Mod_read.2.1 24 = .ok (.iconst 1, 1) := by decide +kernel
theorem d_Mod_read_25 : decode M_Mod_read.2.1 25 = .ok (.isub, 1) := by decide +kernel
theorem d_Mod_read_26 : decode M_Mod_read.2.1 26 = .ok (.invokestatic 114, 3) := by decide +kernel
theorem d_Mod_read_29 : decode M_Mod_read.2.1 29 = .ok (.ifCond .eq 17, 3) := by decide +kernel
theorem d_Mod_read_32 : decode M_Mod_read.2.1 32 = .ok (.aload_n 0, 1) := by decide +kernel
theorem d_Mod_read_33 : decode M_Mod_read.2.1 33 = .ok (.getfield 103, 3) := by decide +kernel
theorem d_Mod_read_36 : decode M_Mod_read.2.1 36 = .ok (.bipush 60, 2) := by decide +kernel
theorem d_Mod_read_38 : decode M_Mod_read.2.1 38 = .ok (.iload_n 1, 1) := by decide +kernel
theorem d_Mod_read_39 : decode M_Mod_read.2.1 39 = .ok (.imul, 1) := by decide +kernel
theorem d_Mod_read_40 : decode M_Mod_read.2.1 40 = .ok (.iload_n 2, 1) := by decide +kernel
theorem d_Mod_read_41 : decode M_Mod_read.2.1 41 = .ok (.iadd, 1) := by decide +kernel
theorem d_Mod_read_42 : decode M_Mod_read.2.1 42 = .ok (.laload, 1) := by decide +kernel
theorem d_Mod_read_43 : decode M_Mod_read.2.1 43 = .ok (.goto 6, 3) := by decide +kernel
theorem c_Mod_isTape (X : Xn) (t : Int32) : Does X 2 M_Mod_isTape [.int t] ([]) 0 0 (fun (vv : Option Value) (ww : va_W) => vv = some (.int (bI (inR t (nI 0) (nI 5)))) ∧ ww = []) := by
  generalize hQ : (fun (vv : Option Value) (ww : va_W) => vv = some (.int (bI (inR t (nI 0) (nI 5)))) ∧ ww = []) = Q
  refine Does.go rfl (Nat.le_of_ble_eq_true rfl) [some (.int t)] 0 rfl ?_
  refine r_iload_n rfl 1 rfl d_Mod_isTape_0 ?_
  refine r_iconst (nI 0) rfl 2 rfl d_Mod_isTape_1 ?_
  refine r_iconst (nI 5) rfl 3 rfl d_Mod_isTape_2 ?_
  refine r_callS1 (st2 := [.int (bI (inR t (nI 0) (nI 5)))]) (w2 := []) lk_Mod_within ln_Mod_114 (c_Mod_within X t (nI 0) (nI 5)) (by first | decide | omega) rfl rfl (Nat.le_of_ble_eq_true rfl) (Nat.le_of_ble_eq_true rfl) (Nat.le_of_ble_eq_true rfl) [] rfl rfl rfl rfl rfl 6 rfl d_Mod_isTape_3 ?_
  exact r_zret rfl (bI_nar _) (Nat.zero_le _) (Nat.zero_le _) d_Mod_isTape_6 (by rw [← hQ]; exact ⟨rfl, rfl⟩)
theorem c_Mod_kept (X : Xn) (s : Int32) (v : Int64) : Does X 1 M_Mod_kept [.int s, .long v] ([]) 0 0 (fun (vv : Option Value) (ww : va_W) => vv = some (.long (keptV s v)) ∧ ww = []) := by
  generalize hQ : (fun (vv : Option Value) (ww : va_W) => vv = some (.long (keptV s v)) ∧ ww = []) = Q
  refine Does.go rfl (Nat.le_of_ble_eq_true rfl) [some (.int s), some (.long v), none] 0 rfl ?_
  refine r_iload_n rfl 1 rfl d_Mod_kept_0 ?_
  by_cases h1_0 : s = 0
  · refine r_tableIn 32 d_Mod_kept_1 (by rw [h1_0]; decide) (by rw [h1_0]; decide) (by rw [h1_0]; rfl) rfl ?_
    refine r_lload_n rfl 33 rfl d_Mod_kept_32 ?_
    refine r_l2i 34 rfl d_Mod_kept_33 ?_
    refine r_i2b 35 rfl d_Mod_kept_34 ?_
    refine r_i2l 36 rfl d_Mod_kept_35 ?_
    exact r_lret rfl (Nat.zero_le _) (Nat.zero_le _) d_Mod_kept_36 (by rw [← hQ]; exact ⟨by simp [keptV, lg_cmp_eq, h1_0], rfl⟩)
  by_cases h1_1 : s = 1
  · refine r_tableIn 37 d_Mod_kept_1 (by rw [h1_1]; decide) (by rw [h1_1]; decide) (by rw [h1_1]; rfl) rfl ?_
    refine r_lload_n rfl 38 rfl d_Mod_kept_37 ?_
    refine r_l2i 39 rfl d_Mod_kept_38 ?_
    refine r_i2s 40 rfl d_Mod_kept_39 ?_
    refine r_i2l 41 rfl d_Mod_kept_40 ?_
    exact r_lret rfl (Nat.zero_le _) (Nat.zero_le _) d_Mod_kept_41 (by rw [← hQ]; exact ⟨by simp [keptV, lg_cmp_eq, h1_1], rfl⟩)
  by_cases h1_2 : s = 2
  · refine r_tableIn 42 d_Mod_kept_1 (by rw [h1_2]; decide) (by rw [h1_2]; decide) (by rw [h1_2]; rfl) rfl ?_
    refine r_lload_n rfl 43 rfl d_Mod_kept_42 ?_
    refine r_l2i 44 rfl d_Mod_kept_43 ?_
    refine r_i2l 45 rfl d_Mod_kept_44 ?_
    exact r_lret rfl (Nat.zero_le _) (Nat.zero_le _) d_Mod_kept_45 (by rw [← hQ]; exact ⟨by simp [keptV, lg_cmp_eq, h1_2], rfl⟩)
  by_cases h1_3 : s = 3
  · refine r_tableIn 46 d_Mod_kept_1 (by rw [h1_3]; decide) (by rw [h1_3]; decide) (by rw [h1_3]; rfl) rfl ?_
    refine r_lload_n rfl 47 rfl d_Mod_kept_46 ?_
    exact r_lret rfl (Nat.zero_le _) (Nat.zero_le _) d_Mod_kept_47 (by rw [← hQ]; exact ⟨by simp [keptV, lg_cmp_eq, h1_3], rfl⟩)
  have t1_0 : ¬ (s).toInt = 0 := lv_neT h1_0 (by decide)
  have t1_1 : ¬ (s).toInt = 1 := lv_neT h1_1 (by decide)
  have t1_2 : ¬ (s).toInt = 2 := lv_neT h1_2 (by decide)
  have t1_3 : ¬ (s).toInt = 3 := lv_neT h1_3 (by decide)
  refine r_tableOut 48 d_Mod_kept_1 (by omega) rfl ?_
  refine r_lload_n rfl 49 rfl d_Mod_kept_48 ?_
  refine r_lconst 0 rfl 50 rfl d_Mod_kept_49 ?_
  refine r_lcmp 51 rfl d_Mod_kept_50 ?_
  refine r_if_eq 54 58 rfl rfl d_Mod_kept_51 (fun h51 => ?_) (fun h51 => ?_)
  · have h51 := (lg_cmp_eq _ _).mp h51
    refine r_lconst 0 rfl 59 rfl d_Mod_kept_58 ?_
    exact r_lret rfl (Nat.zero_le _) (Nat.zero_le _) d_Mod_kept_59 (by rw [← hQ]; exact ⟨by simp [keptV, lg_cmp_eq, h1_0, h1_1, h1_2, h1_3, h51], rfl⟩)
  · have h51 : ¬ v = 0 := fun z => h51 ((lg_cmp_eq _ _).mpr z)
    refine r_lconst 1 rfl 55 rfl d_Mod_kept_54 ?_
    refine r_goto 59 rfl d_Mod_kept_55 ?_
    exact r_lret rfl (Nat.zero_le _) (Nat.zero_le _) d_Mod_kept_59 (by rw [← hQ]; exact ⟨by simp [keptV, lg_cmp_eq, h1_0, h1_1, h1_2, h1_3, h51], rfl⟩)
theorem c_Mod_item (X : Xn) (a ν : Nat → Nat) (σ : Nat → Nat → Int32) (τ : Nat → Int64) (hsz : ∀ t, t < 6 → ∃ z : Nat, z ≤ 60 ∧ σ 44 t = nI z) (t i : Int32) (v : Int64) : Does X 4 M_Mod_item [.ref (a 0), .int t, .int i, .long v] (MW X a ν σ τ) 0 0 (fun (vv : Option Value) (ww : va_W) => vv = some (.int (R_item (σ 43) (σ 44) t i)) ∧ ww = MW X a ν σ (if b_item (σ 43) (σ 44) t i = true then vp_updL τ (60 * cn t + cn i) (keptV (σ 43 (cn t)) v) else τ)) := by
  generalize hQ : (fun (vv : Option Value) (ww : va_W) => vv = some (.int (R_item (σ 43) (σ 44) t i)) ∧ ww = MW X a ν σ (if b_item (σ 43) (σ 44) t i = true then vp_updL τ (60 * cn t + cn i) (keptV (σ 43 (cn t)) v) else τ)) = Q
  refine Does.go rfl (Nat.le_of_ble_eq_true rfl) [some (.ref (a 0)), some (.int t), some (.int i), some (.long v), none] 0 rfl ?_
  refine r_iload_n rfl 1 rfl d_Mod_item_0 ?_
  refine r_callS1 (st2 := [.int (bI (inR t (nI 0) (nI 5)))]) (w2 := MW X a ν σ τ) lk_Mod_isTape ln_Mod_345 (c_Mod_isTape X t) (by first | decide | omega) rfl rfl (Nat.le_of_ble_eq_true rfl) (Nat.le_of_ble_eq_true rfl) (Nat.le_of_ble_eq_true rfl) [] rfl rfl rfl rfl rfl 4 rfl d_Mod_item_1 ?_
  refine r_if_neB 7 9 rfl rfl d_Mod_item_4 (fun h4 => ?_) (fun h4 => ?_)
  · obtain ⟨tN, htN, rfl⟩ := inR_t (by decide) h4
    have etN : cn (nI tN) = tN := cn_nI (by omega)
    have mtN : ¬ nI tN = -1 := m1n (by omega)
    refine r_aload_n rfl 10 rfl d_Mod_item_9 ?_
    refine r_getf (v := .ref (a 43)) gf_Mod_97 0 rfl rfl 13 rfl d_Mod_item_10 ?_
    refine r_iload_n rfl 14 rfl d_Mod_item_13 ?_
    refine r_iald 29 rfl tN rfl (by omega) (by omega) 15 rfl d_Mod_item_14 ?_
    refine r_if_ge 18 21 rfl rfl d_Mod_item_15 (fun h15 => ?_) (fun h15 => ?_)
    · have h15b := Int32.not_lt.mpr h15
      refine r_iload_n rfl 22 rfl d_Mod_item_21 ?_
      refine r_iconst (nI 0) rfl 23 rfl d_Mod_item_22 ?_
      refine r_aload_n rfl 24 rfl d_Mod_item_23 ?_
      refine r_getf (v := .ref (a 44)) gf_Mod_100 0 rfl rfl 27 rfl d_Mod_item_24 ?_
      refine r_iload_n rfl 28 rfl d_Mod_item_27 ?_
      refine r_iald 30 rfl tN rfl (by omega) (by omega) 29 rfl d_Mod_item_28 ?_
      obtain ⟨z, hz, ez⟩ := hsz tN (by omega)
      refine r_topi (nI z) ez ?_
      refine r_iconst (nI 1) rfl 30 rfl d_Mod_item_29 ?_
      refine r_isub 31 rfl d_Mod_item_30 ?_
      refine r_callS1 (st2 := [.int (bI (inR i (nI 0) ((nI z) - (nI 1))))]) (w2 := MW X a ν σ τ) lk_Mod_within ln_Mod_114 (c_Mod_within X i (nI 0) ((nI z) - (nI 1))) (by first | decide | omega) rfl rfl (Nat.le_of_ble_eq_true rfl) (Nat.le_of_ble_eq_true rfl) (Nat.le_of_ble_eq_true rfl) [] rfl rfl rfl rfl rfl 34 rfl d_Mod_item_31 ?_
      refine r_if_neB 37 40 rfl rfl d_Mod_item_34 (fun h34 => ?_) (fun h34 => ?_)
      · obtain ⟨iN, hiN, rfl⟩ := isB_tG (n := z) (by omega) h34
        have eiN : cn (nI iN) = iN := cn_nI (by omega)
        refine r_aload_n rfl 41 rfl d_Mod_item_40 ?_
        refine r_getf (v := .ref (a 45)) gf_Mod_103 0 rfl rfl 44 rfl d_Mod_item_41 ?_
        refine r_bipush (nI 60) rfl 46 rfl d_Mod_item_44 ?_
        refine r_iload_n rfl 47 rfl d_Mod_item_46 ?_
        refine r_imul 48 rfl d_Mod_item_47 ?_
        refine r_topi (nI (60 * tN)) (pk_mul _ _) ?_
        refine r_iload_n rfl 49 rfl d_Mod_item_48 ?_
        refine r_iadd 50 rfl d_Mod_item_49 ?_
        refine r_topi (nI ((60 * tN) + iN)) (nI_add _ _) ?_
        refine r_aload_n rfl 51 rfl d_Mod_item_50 ?_
        refine r_getf (v := .ref (a 43)) gf_Mod_97 0 rfl rfl 54 rfl d_Mod_item_51 ?_
        refine r_iload_n rfl 55 rfl d_Mod_item_54 ?_
        refine r_iald 29 rfl tN rfl (by omega) (by omega) 56 rfl d_Mod_item_55 ?_
        refine r_lload_n rfl 57 rfl d_Mod_item_56 ?_
        refine r_callS1 (st2 := [.long (keptV (σ 43 tN) v), .int (nI ((60 * tN) + iN)), .ref (a 45)]) (w2 := MW X a ν σ τ) lk_Mod_kept ln_Mod_348 (c_Mod_kept X (σ 43 tN) v) (by first | decide | omega) rfl rfl (Nat.le_of_ble_eq_true rfl) (Nat.le_of_ble_eq_true rfl) (Nat.le_of_ble_eq_true rfl) [] rfl rfl rfl rfl rfl 60 rfl d_Mod_item_57 ?_
        refine r_last (w2 := MW X a ν σ (vp_updL τ ((60 * tN) + iN) (keptV (σ 43 tN) v))) 31 rfl ((60 * tN) + iN) rfl (by omega) (by omega) rfl 61 rfl d_Mod_item_60 ?_
        refine r_iconst (nI 1) rfl 62 rfl d_Mod_item_61 ?_
        exact r_iret rfl (Nat.zero_le _) (Nat.zero_le _) d_Mod_item_62 (by rw [← hQ]; exact ⟨by simp [R_item, b_item, h4, etN, mtN, h15, h15b, ez, h34, eiN], by first | (simp [R_item, b_item, h4, etN, mtN, h15, h15b, ez, h34, eiN, u2_self, u1_self]; done) | (simp [R_item, b_item, h4, etN, mtN, h15, h15b, ez, h34, eiN, u2_self, u1_self]; rw [← eiN, u1_self])⟩)
      · refine r_bipush ((-13)) rfl 39 rfl d_Mod_item_37 ?_
        exact r_iret rfl (Nat.zero_le _) (Nat.zero_le _) d_Mod_item_39 (by rw [← hQ]; exact ⟨by simp [R_item, b_item, h4, etN, mtN, h15, h15b, ez, h34], by first | (simp [R_item, b_item, h4, etN, mtN, h15, h15b, ez, h34, u2_self, u1_self]; done) | (simp [R_item, b_item, h4, etN, mtN, h15, h15b, ez, h34, u2_self, u1_self]; rw [← h34, u1_self])⟩)
    · have h15b := Int32.not_le.mp h15
      refine r_bipush ((-11)) rfl 20 rfl d_Mod_item_18 ?_
      exact r_iret rfl (Nat.zero_le _) (Nat.zero_le _) d_Mod_item_20 (by rw [← hQ]; exact ⟨by simp [R_item, b_item, h4, etN, mtN, h15, h15b], by first | (simp [R_item, b_item, h4, etN, mtN, h15, h15b, u2_self, u1_self]; done) | (simp [R_item, b_item, h4, etN, mtN, h15, h15b, u2_self, u1_self]; rw [← h15b, u1_self])⟩)
  · refine r_iconst ((-1)) rfl 8 rfl d_Mod_item_7 ?_
    exact r_iret rfl (Nat.zero_le _) (Nat.zero_le _) d_Mod_item_8 (by rw [← hQ]; exact ⟨by simp [R_item, b_item, h4], by first | (simp [R_item, b_item, h4, u2_self, u1_self]; done) | (simp [R_item, b_item, h4, u2_self, u1_self]; rw [← h4, u1_self])⟩)
theorem c_Mod_read (X : Xn) (a ν : Nat → Nat) (σ : Nat → Nat → Int32) (τ : Nat → Int64) (hsz : ∀ t, t < 6 → ∃ z : Nat, z ≤ 60 ∧ σ 44 t = nI z) (t i : Int32) : Does X 4 M_Mod_read [.ref (a 0), .int t, .int i] (MW X a ν σ τ) 0 0 (fun (vv : Option Value) (ww : va_W) => vv = some (.long (R_read (σ 43) (σ 44) τ t i)) ∧ ww = MW X a ν σ τ) := by
  generalize hQ : (fun (vv : Option Value) (ww : va_W) => vv = some (.long (R_read (σ 43) (σ 44) τ t i)) ∧ ww = MW X a ν σ τ) = Q
  refine Does.go rfl (Nat.le_of_ble_eq_true rfl) [some (.ref (a 0)), some (.int t), some (.int i)] 0 rfl ?_
  refine r_iload_n rfl 1 rfl d_Mod_read_0 ?_
  refine r_callS1 (st2 := [.int (bI (inR t (nI 0) (nI 5)))]) (w2 := MW X a ν σ τ) lk_Mod_isTape ln_Mod_345 (c_Mod_isTape X t) (by first | decide | omega) rfl rfl (Nat.le_of_ble_eq_true rfl) (Nat.le_of_ble_eq_true rfl) (Nat.le_of_ble_eq_true rfl) [] rfl rfl rfl rfl rfl 4 rfl d_Mod_read_1 ?_
  refine r_if_eqB 7 46 rfl rfl d_Mod_read_4 (fun h4 => ?_) (fun h4 => ?_)
  · refine r_ldc2 (v := (-9223372036854775808)) (inTB 1281 (by decide +kernel) rfl) 49 rfl d_Mod_read_46 ?_
    exact r_lret rfl (Nat.zero_le _) (Nat.zero_le _) d_Mod_read_49 (by rw [← hQ]; exact ⟨by simp [R_read, b_item, h4], rfl⟩)
  · obtain ⟨tN, htN, rfl⟩ := inR_t (by decide) h4
    have etN : cn (nI tN) = tN := cn_nI (by omega)
    have mtN : ¬ nI tN = -1 := m1n (by omega)
    refine r_aload_n rfl 8 rfl d_Mod_read_7 ?_
    refine r_getf (v := .ref (a 43)) gf_Mod_97 0 rfl rfl 11 rfl d_Mod_read_8 ?_
    refine r_iload_n rfl 12 rfl d_Mod_read_11 ?_
    refine r_iald 29 rfl tN rfl (by omega) (by omega) 13 rfl d_Mod_read_12 ?_
    refine r_if_lt 16 46 rfl rfl d_Mod_read_13 (fun h13 => ?_) (fun h13 => ?_)
    · have h13b := Int32.not_le.mpr h13
      refine r_ldc2 (v := (-9223372036854775808)) (inTB 1281 (by decide +kernel) rfl) 49 rfl d_Mod_read_46 ?_
      exact r_lret rfl (Nat.zero_le _) (Nat.zero_le _) d_Mod_read_49 (by rw [← hQ]; exact ⟨by simp [R_read, b_item, h4, etN, mtN, h13, h13b], rfl⟩)
    · have h13b := Int32.not_lt.mp h13
      refine r_iload_n rfl 17 rfl d_Mod_read_16 ?_
      refine r_iconst (nI 0) rfl 18 rfl d_Mod_read_17 ?_
      refine r_aload_n rfl 19 rfl d_Mod_read_18 ?_
      refine r_getf (v := .ref (a 44)) gf_Mod_100 0 rfl rfl 22 rfl d_Mod_read_19 ?_
      refine r_iload_n rfl 23 rfl d_Mod_read_22 ?_
      refine r_iald 30 rfl tN rfl (by omega) (by omega) 24 rfl d_Mod_read_23 ?_
      obtain ⟨z, hz, ez⟩ := hsz tN (by omega)
      refine r_topi (nI z) ez ?_
      refine r_iconst (nI 1) rfl 25 rfl d_Mod_read_24 ?_
      refine r_isub 26 rfl d_Mod_read_25 ?_
      refine r_callS1 (st2 := [.int (bI (inR i (nI 0) ((nI z) - (nI 1))))]) (w2 := MW X a ν σ τ) lk_Mod_within ln_Mod_114 (c_Mod_within X i (nI 0) ((nI z) - (nI 1))) (by first | decide | omega) rfl rfl (Nat.le_of_ble_eq_true rfl) (Nat.le_of_ble_eq_true rfl) (Nat.le_of_ble_eq_true rfl) [] rfl rfl rfl rfl rfl 29 rfl d_Mod_read_26 ?_
      refine r_if_eqB 32 46 rfl rfl d_Mod_read_29 (fun h29 => ?_) (fun h29 => ?_)
      · refine r_ldc2 (v := (-9223372036854775808)) (inTB 1281 (by decide +kernel) rfl) 49 rfl d_Mod_read_46 ?_
        exact r_lret rfl (Nat.zero_le _) (Nat.zero_le _) d_Mod_read_49 (by rw [← hQ]; exact ⟨by simp [R_read, b_item, h4, etN, mtN, h13, h13b, ez, h29], rfl⟩)
      · obtain ⟨iN, hiN, rfl⟩ := isB_tG (n := z) (by omega) h29
        have eiN : cn (nI iN) = iN := cn_nI (by omega)
        refine r_aload_n rfl 33 rfl d_Mod_read_32 ?_
        refine r_getf (v := .ref (a 45)) gf_Mod_103 0 rfl rfl 36 rfl d_Mod_read_33 ?_
        refine r_bipush (nI 60) rfl 38 rfl d_Mod_read_36 ?_
        refine r_iload_n rfl 39 rfl d_Mod_read_38 ?_
        refine r_imul 40 rfl d_Mod_read_39 ?_
        refine r_topi (nI (60 * tN)) (pk_mul _ _) ?_
        refine r_iload_n rfl 41 rfl d_Mod_read_40 ?_
        refine r_iadd 42 rfl d_Mod_read_41 ?_
        refine r_topi (nI ((60 * tN) + iN)) (nI_add _ _) ?_
        refine r_lald 31 rfl ((60 * tN) + iN) rfl (by omega) (by omega) 43 rfl d_Mod_read_42 ?_
        refine r_goto 49 rfl d_Mod_read_43 ?_
        exact r_lret rfl (Nat.zero_le _) (Nat.zero_le _) d_Mod_read_49 (by rw [← hQ]; exact ⟨by simp [R_read, b_item, h4, etN, mtN, h13, h13b, ez, h29, eiN], rfl⟩)
