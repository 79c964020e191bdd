def inR (v lo hi : Int32) : Bool := decide (lo ≤ v) && decide (v ≤ hi)
theorem inR_lt {v lo hi : Int32} (h : v < lo) : inR v lo hi = false := by simp [inR, Int32.not_le.mpr h]
theorem inR_gt {v lo hi : Int32} (h : hi < v) : inR v lo hi = false := by simp [inR, Int32.not_le.mpr h]
theorem inR_in {v lo hi : Int32} (h : ¬ v < lo) (h2 : ¬ hi < v) : inR v lo hi = true := by simp [inR, Int32.not_lt.mp h, Int32.not_lt.mp h2]
def isB (n : Nat) (p : Int32) : Bool := inR p 0 (nI n - 1)
def osum (de : Nat → Int32) (p : Nat) : Nat → Int32
  | 0 => 0
  | k + 1 => osum de p k + de (6 * p + k)
def MWf (a ν : Nat → Nat) (σ : Nat → Nat → Int32) : List Value := [.int (nI (ν 0)), .ref (a 1), .ref (a 2), .ref (a 3), .ref (a 4), .ref (a 5), .int (nI (ν 6)), .int (nI (ν 7)), .ref (a 8), .int (nI (ν 9)), .int (σ 10 0), .int (nI (ν 11)), .int (nI (ν 12)), .int (nI (ν 13)), .int (σ 14 0), .ref (a 15), .ref (a 16), .ref (a 17), .ref (a 18), .ref (a 19), .ref (a 20), .int (nI (ν 21)), .ref (a 22), .int (nI (ν 23)), .ref (a 24), .ref (a 25), .ref (a 26), .ref (a 27), .ref (a 28), .int (nI (ν 29)), .ref (a 30), .ref (a 31), .int (nI (ν 32)), .ref (a 33), .ref (a 34), .ref (a 35), .int (nI (ν 36)), .ref (a 37), .int (σ 38 0), .ref (a 39), .ref (a 40), .ref (a 41), .ref (a 42), .ref (a 43), .ref (a 44), .ref (a 45)]
def MW (X : Xn) (a ν : Nat → Nat) (σ : Nat → Nat → Int32) (τ : Nat → Int64) : va_W := [(a 0, .inr (9, MWf a ν σ)), (a 1, .inl (X.2.2.1 0, 6, .inl (σ 1))), (a 2, .inl (X.2.2.1 0, 6, .inl (σ 2))), (a 3, .inl (X.2.2.1 0, 6, .inl (σ 3))), (a 4, .inl (X.2.2.1 0, 24, .inl (σ 4))), (a 5, .inl (X.2.2.1 0, 36, .inl (σ 5))), (a 8, .inl (X.2.2.1 0, 100, .inl (σ 8))), (a 15, .inl (X.2.2.1 0, 6, .inl (σ 15))), (a 16, .inl (X.2.2.1 0, 61, .inl (σ 16))), (a 17, .inl (X.2.2.1 0, 61, .inl (σ 17))), (a 18, .inl (X.2.2.1 0, 61, .inl (σ 18))), (a 19, .inl (X.2.2.1 0, 61, .inl (σ 19))), (a 20, .inl (X.2.2.1 0, 800, .inl (σ 20))), (a 22, .inl (X.2.2.1 2, 110, .inl (σ 22))), (a 24, .inl (X.2.2.1 0, 5, .inl (σ 24))), (a 25, .inl (X.2.2.1 0, 5, .inl (σ 25))), (a 26, .inl (X.2.2.1 0, 5, .inl (σ 26))), (a 27, .inl (X.2.2.1 0, 5, .inl (σ 27))), (a 28, .inl (X.2.2.1 0, 5, .inl (σ 28))), (a 30, .inl (X.2.2.1 0, 10, .inl (σ 30))), (a 31, .inl (X.2.2.1 0, 10, .inl (σ 31))), (a 33, .inl (X.2.2.1 0, 8, .inl (σ 33))), (a 34, .inl (X.2.2.1 0, 8, .inl (σ 34))), (a 35, .inl (X.2.2.1 0, 8, .inl (σ 35))), (a 37, .inl (X.2.2.1 0, 20, .inl (σ 37))), (a 39, .inl (X.2.2.1 0, 156, .inl (σ 39))), (a 40, .inl (X.2.2.1 0, 156, .inl (σ 40))), (a 41, .inl (X.2.2.1 0, 64, .inl (σ 41))), (a 42, .inl (X.2.2.1 2, 3000, .inl (σ 42))), (a 43, .inl (X.2.2.1 0, 6, .inl (σ 43))), (a 44, .inl (X.2.2.1 0, 6, .inl (σ 44))), (a 45, .inl (X.2.2.1 1, 360, .inr (.inl τ)))]
def M_Mod_within : XM := (⟨"HandshakeBindsModel", "within", "(III)Z"⟩, prog_11_method_2_code, 3, (some .boolean))
theorem d_Mod_within_0 : decode M_Mod_within.2.1 0 = .ok (.iload_n 0, 1) := by decide +kernel
theorem d_Mod_within_1 : decode M_Mod_within.2.1 1 = .ok (.iload_n 1, 1) := by decide +kernel
theorem d_Mod_within_2 : decode M_Mod_within.2.1 2 = .ok (.if_icmp .lt 12, 3) := by decide +kernel
theorem d_Mod_within_14 : decode M_Mod_within.2.1 14 = .ok (.iconst 0, 1) := by decide +kernel
theorem d_Mod_within_15 : decode M_Mod_within.2.1 15 = .ok (.ireturn, 1) := by decide +kernel
theorem d_Mod_within_5 : decode M_Mod_within.2.1 5 = .ok (.iload_n 0, 1) := by decide +kernel
theorem d_Mod_within_6 : decode M_Mod_within.2.1 6 = .ok (.iload_n 2, 1) := by decide +kernel
theorem d_Mod_within_7 : decode M_Mod_within.2.1 7 = .ok (.if_icmp .gt 7, 3) := by decide +kernel
theorem d_Mod_within_10 : decode M_Mod_within.2.1 10 = .ok (.iconst 1, 1) := by decide +kernel
theorem d_Mod_within_11 : decode M_Mod_within.2.1 11 = .ok (.goto 4, 3) := by decide +kernel
def M_Mod_isOne : XM := (⟨"HandshakeBindsModel", "isOne", "(I)Z"⟩, prog_11_method_3_code, 2, (some .boolean))
theorem d_Mod_isOne_0 : decode M_Mod_isOne.2.1 0 = .ok (.iload_n 1, 1) := by decide +kernel
theorem d_Mod_isOne_1 : decode M_Mod_isOne.2.1 1 = .ok (.iconst 0, 1) := by decide +kernel
theorem d_Mod_isOne_2 : decode M_Mod_isOne.2.1 2 = .ok (.aload_n 0, 1) := by decide +kernel
theorem d_Mod_isOne_3 : decode M_Mod_isOne.2.1 3 = .ok (.getfield 111, 3) := by decide +kernel
theorem gf_Mod_111 : GF "HandshakeBindsModel" 111 9 0 := ⟨_, _, _, rfl, by decide, i_Mod, inTB 850 (by decide +kernel) rfl⟩
theorem d_Mod_isOne_6 : decode M_Mod_isOne.2.1 6 = .ok (.iconst 1, 1) := by decide +kernel
theorem d_Mod_isOne_7 : decode M_Mod_isOne.2.1 7 = .ok (.isub, 1) := by decide +kernel
theorem d_Mod_isOne_8 : decode M_Mod_isOne.2.1 8 = .ok (.invokestatic 114, 3) := by decide +kernel
theorem ln_Mod_114 : Cond.methodLink "HandshakeBindsModel" 114 M_Mod_within.1 ∈ TB := inTB 994 (by decide +kernel) rfl
theorem lk_Mod_within : LSt M_Mod_within 3 := ⟨⟨inTB 72 (by decide +kernel) rfl, inTB 996 (by decide +kernel) rfl, ⟨by decide, by decide, by decide +kernel⟩, by decide⟩, inTB 995 (by decide +kernel) rfl⟩
theorem d_Mod_isOne_11 : decode M_Mod_isOne.2.1 11 = .ok (.ireturn, 1) := by decide +kernel
def M_Mod_are : XM := (⟨"HandshakeBindsModel", "are", "(II)Z"⟩, prog_11_method_4_code, 3, (some .boolean))
theorem d_Mod_are_0 : decode M_Mod_are.2.1 0 = .ok (.aload_n 0, 1) := by decide +kernel
theorem d_Mod_are_1 : decode M_Mod_are.2.1 1 = .ok (.iload_n 1, 1) := by decide +kernel
theorem d_Mod_are_2 : decode M_Mod_are.2.1 2 = .ok (.invokevirtual 118, 3) := by decide +kernel
theorem ln_Mod_118 : Cond.methodLink "HandshakeBindsModel" 118 M_Mod_isOne.1 ∈ TB := inTB 1001 (by decide +kernel) rfl
theorem lk_Mod_isOne : LVt M_Mod_isOne 1 := ⟨⟨inTB 72 (by decide +kernel) rfl, inTB 1004 (by decide +kernel) rfl, ⟨by decide, by decide, by decide +kernel⟩, by decide⟩, inTB 1003 (by decide +kernel) rfl, inTB 20 (by decide +kernel) rfl⟩
theorem d_Mod_are_5 : decode M_Mod_are.2.1 5 = .ok (.ifCond .eq 15, 3) := by decide +kernel
theorem d_Mod_are_20 : decode M_Mod_are.2.1 20 = .ok (.iconst 0, 1) := by decide +kernel
theorem d_Mod_are_21 : decode M_Mod_are.2.1 21 = .ok (.ireturn, 1) := by decide +kernel
theorem d_Mod_are_8 : decode M_Mod_are.2.1 8 = .ok (.aload_n 0, 1) := by decide +kernel
theorem d_Mod_are_9 : decode M_Mod_are.2.1 9 = .ok (.iload_n 2, 1) := by decide +kernel
theorem d_Mod_are_10 : decode M_Mod_are.2.1 10 = .ok (.invokevirtual 118, 3) := by decide +kernel
theorem d_Mod_are_13 : decode M_Mod_are.2.1 13 = .ok (.ifCond .eq 7, 3) := by decide +kernel
theorem d_Mod_are_16 : decode M_Mod_are.2.1 16 = .ok (.iconst 1, 1) := by decide +kernel
theorem d_Mod_are_17 : decode M_Mod_are.2.1 17 = .ok (.goto 4, 3) := by decide +kernel
def M_Mod_isSqueeze : XM := (⟨"HandshakeBindsModel", "isSqueeze", "(I)Z"⟩, prog_11_method_5_code, 1, (some .boolean))
theorem d_Mod_isSqueeze_0 : decode M_Mod_isSqueeze.2.1 0 = .ok (.iload_n 0, 1) := by decide +kernel
theorem d_Mod_isSqueeze_1 : decode M_Mod_isSqueeze.2.1 1 = .ok (.iconst 0, 1) := by decide +kernel
theorem d_Mod_isSqueeze_2 : decode M_Mod_isSqueeze.2.1 2 = .ok (.bipush 99, 2) := by decide +kernel
theorem d_Mod_isSqueeze_4 : decode M_Mod_isSqueeze.2.1 4 = .ok (.invokestatic 114, 3) := by decide +kernel
theorem d_Mod_isSqueeze_7 : decode M_Mod_isSqueeze.2.1 7 = .ok (.ireturn, 1) := by decide +kernel
def M_Mod_owes : XM := (⟨"HandshakeBindsModel", "owes", "(I)I"⟩, prog_11_method_7_code, 4, (some .int))
theorem d_Mod_owes_0 : decode M_Mod_owes.2.1 0 = .ok (.iconst 0, 1) := by decide +kernel
theorem d_Mod_owes_1 : decode M_Mod_owes.2.1 1 = .ok (.istore_n 2, 1) := by decide +kernel
theorem d_Mod_owes_2 : decode M_Mod_owes.2.1 2 = .ok (.iconst 0, 1) := by decide +kernel
theorem d_Mod_owes_3 : decode M_Mod_owes.2.1 3 = .ok (.istore_n 3, 1) := by decide +kernel
theorem d_Mod_owes_4 : decode M_Mod_owes.2.1 4 = .ok (.iload_n 3, 1) := by decide +kernel
theorem d_Mod_owes_5 : decode M_Mod_owes.2.1 5 = .ok (.aload_n 0, 1) := by decide +kernel
theorem d_Mod_owes_6 : decode M_Mod_owes.2.1 6 = .ok (.getfield 111, 3) := by decide +kernel
theorem d_Mod_owes_9 : decode M_Mod_owes.2.1 9 = .ok (.if_icmp .ge 23, 3) := by decide +kernel
theorem d_Mod_owes_32 : decode M_Mod_owes.2.1 32 = .ok (.iload_n 2, 1) := by decide +kernel
theorem d_Mod_owes_33 : decode M_Mod_owes.2.1 33 = .ok (.ireturn, 1) := by decide +kernel
theorem d_Mod_owes_12 : decode M_Mod_owes.2.1 12 = .ok (.iload_n 2, 1) := by decide +kernel
theorem d_Mod_owes_13 : decode M_Mod_owes.2.1 13 = .ok (.aload_n 0, 1) := by decide +kernel
theorem d_Mod_owes_14 : decode M_Mod_owes.2.1 14 = .ok (.getfield 24, 3) := by decide +kernel
theorem gf_Mod_24 : GF "HandshakeBindsModel" 24 9 5 := ⟨_, _, _, rfl, by decide, i_Mod, inTB 855 (by decide +kernel) rfl⟩
theorem d_Mod_owes_17 : decode M_Mod_owes.2.1 17 = .ok (.bipush 6, 2) := by decide +kernel
theorem d_Mod_owes_19 : decode M_Mod_owes.2.1 19 = .ok (.iload_n 1, 1) := by decide +kernel
theorem d_Mod_owes_20 : decode M_Mod_owes.2.1 20 = .ok (.imul, 1) := by decide +kernel
theorem d_Mod_owes_21 : decode M_Mod_owes.2.1 21 = .ok (.iload_n 3, 1) := by decide +kernel
theorem d_Mod_owes_22 : decode M_Mod_owes.2.1 22 = .ok (.iadd, 1) := by decide +kernel
theorem d_Mod_owes_23 : decode M_Mod_owes.2.1 23 = .ok (.iaload, 1) := by decide +kernel
theorem d_Mod_owes_24 : decode M_Mod_owes.2.1 24 = .ok (.iadd, 1) := by decide +kernel
theorem d_Mod_owes_25 : decode M_Mod_owes.2.1 25 = .ok (.istore_n 2, 1) := by decide +kernel
theorem d_Mod_owes_26 : decode M_Mod_owes.2.1 26 = .ok (.iinc 3 1, 3) := by decide +kernel
theorem d_Mod_owes_29 : decode M_Mod_owes.2.1 29 = .ok (.goto (-25), 3) := by decide +kernel
theorem c_Mod_within (X : Xn) (v lo hi : Int32) : Does X 1 M_Mod_within [.int v, .int lo, .int hi] ([]) 0 0 (fun (vv : Option Value) (ww : va_W) => vv = some (.int (bI (inR v lo hi))) ∧ ww = []) := by
  generalize hQ : (fun (vv : Option Value) (ww : va_W) => vv = some (.int (bI (inR v lo hi))) ∧ ww = []) = Q
  refine Does.go rfl (Nat.le_of_ble_eq_true rfl) [some (.int v), some (.int lo), some (.int hi)] 0 rfl ?_
  refine r_iload_n rfl 1 rfl d_Mod_within_0 ?_
  refine r_iload_n rfl 2 rfl d_Mod_within_1 ?_
  refine r_icmp_lt 5 14 rfl rfl d_Mod_within_2 (fun h2 => ?_) (fun h2 => ?_)
  · refine r_iconst (nI 0) rfl 15 rfl d_Mod_within_14 ?_
    exact r_zret rfl (rfl) (Nat.zero_le _) (Nat.zero_le _) d_Mod_within_15 (by rw [← hQ]; exact ⟨by rw [inR_lt h2]; rfl, rfl⟩)
  · refine r_iload_n rfl 6 rfl d_Mod_within_5 ?_
    refine r_iload_n rfl 7 rfl d_Mod_within_6 ?_
    refine r_icmp_gt 10 14 rfl rfl d_Mod_within_7 (fun h7 => ?_) (fun h7 => ?_)
    · refine r_iconst (nI 0) rfl 15 rfl d_Mod_within_14 ?_
      exact r_zret rfl (rfl) (Nat.zero_le _) (Nat.zero_le _) d_Mod_within_15 (by rw [← hQ]; exact ⟨by rw [inR_gt h7]; rfl, rfl⟩)
    · refine r_iconst (nI 1) rfl 11 rfl d_Mod_within_10 ?_
      refine r_goto 15 rfl d_Mod_within_11 ?_
      exact r_zret rfl (rfl) (Nat.zero_le _) (Nat.zero_le _) d_Mod_within_15 (by rw [← hQ]; exact ⟨by rw [inR_in h2 h7]; rfl, rfl⟩)
theorem c_Mod_isOne (X : Xn) (a ν : Nat → Nat) (σ : Nat → Nat → Int32) (τ : Nat → Int64) (p : Int32) : Does X 2 M_Mod_isOne [.ref (a 0), .int p] (MW X a ν σ τ) 0 0 (fun (vv : Option Value) (ww : va_W) => vv = some (.int (bI (isB (ν 0) p))) ∧ ww = MW X a ν σ τ) := by
  generalize hQ : (fun (vv : Option Value) (ww : va_W) => vv = some (.int (bI (isB (ν 0) p))) ∧ ww = MW X a ν σ τ) = Q
  refine Does.go rfl (Nat.le_of_ble_eq_true rfl) [some (.ref (a 0)), some (.int p)] 0 rfl ?_
  refine r_iload_n rfl 1 rfl d_Mod_isOne_0 ?_
  refine r_iconst (nI 0) rfl 2 rfl d_Mod_isOne_1 ?_
  refine r_aload_n rfl 3 rfl d_Mod_isOne_2 ?_
  refine r_getf (v := .int (nI (ν 0))) gf_Mod_111 0 rfl rfl 6 rfl d_Mod_isOne_3 ?_
  refine r_iconst (nI 1) rfl 7 rfl d_Mod_isOne_6 ?_
  refine r_isub 8 rfl d_Mod_isOne_7 ?_
  refine r_callS1 (st2 := [.int (bI (inR p (nI 0) ((nI (ν 0)) - (nI 1))))]) (w2 := MW X a ν σ τ) lk_Mod_within ln_Mod_114 (c_Mod_within X p (nI 0) ((nI (ν 0)) - (nI 1))) (by decide) rfl rfl (by decide) (by omega) (by omega) [] rfl rfl rfl rfl rfl 11 rfl d_Mod_isOne_8 ?_
  exact r_zret rfl (bI_nar _) (Nat.zero_le _) (Nat.zero_le _) d_Mod_isOne_11 (by rw [← hQ]; exact ⟨rfl, rfl⟩)
theorem c_Mod_are (X : Xn) (a ν : Nat → Nat) (σ : Nat → Nat → Int32) (τ : Nat → Int64) (p q : Int32) : Does X 3 M_Mod_are [.ref (a 0), .int p, .int q] (MW X a ν σ τ) 0 0 (fun (vv : Option Value) (ww : va_W) => vv = some (.int (bI (isB (ν 0) p && isB (ν 0) q))) ∧ ww = MW X a ν σ τ) := by
  generalize hQ : (fun (vv : Option Value) (ww : va_W) => vv = some (.int (bI (isB (ν 0) p && isB (ν 0) q))) ∧ ww = MW X a ν σ τ) = Q
  refine Does.go rfl (Nat.le_of_ble_eq_true rfl) [some (.ref (a 0)), some (.int p), some (.int q)] 0 rfl ?_
  refine r_aload_n rfl 1 rfl d_Mod_are_0 ?_
  refine r_iload_n rfl 2 rfl d_Mod_are_1 ?_
  refine r_callVA1 (st2 := [.int (bI (isB (ν 0) p))]) (w2 := MW X a ν σ τ) lk_Mod_isOne ln_Mod_118 (c_Mod_isOne X a ν σ τ p) (by decide) rfl rfl (by decide) (by omega) (by omega) 0 rfl rfl rfl rfl 5 rfl d_Mod_are_2 ?_
  refine r_if_eqB 8 20 rfl rfl d_Mod_are_5 (fun h5 => ?_) (fun h5 => ?_)
  · refine r_iconst (nI 0) rfl 21 rfl d_Mod_are_20 ?_
    exact r_zret rfl (rfl) (Nat.zero_le _) (Nat.zero_le _) d_Mod_are_21 (by rw [← hQ]; exact ⟨by simp [bI, h5], rfl⟩)
  · refine r_aload_n rfl 9 rfl d_Mod_are_8 ?_
    refine r_iload_n rfl 10 rfl d_Mod_are_9 ?_
    refine r_callVA1 (st2 := [.int (bI (isB (ν 0) q))]) (w2 := MW X a ν σ τ) lk_Mod_isOne ln_Mod_118 (c_Mod_isOne X a ν σ τ q) (by decide) rfl rfl (by decide) (by omega) (by omega) 0 rfl rfl rfl rfl 13 rfl d_Mod_are_10 ?_
    refine r_if_eqB 16 20 rfl rfl d_Mod_are_13 (fun h13 => ?_) (fun h13 => ?_)
    · refine r_iconst (nI 0) rfl 21 rfl d_Mod_are_20 ?_
      exact r_zret rfl (rfl) (Nat.zero_le _) (Nat.zero_le _) d_Mod_are_21 (by rw [← hQ]; exact ⟨by simp [bI, h5, h13], rfl⟩)
    · refine r_iconst (nI 1) rfl 17 rfl d_Mod_are_16 ?_
      refine r_goto 21 rfl d_Mod_are_17 ?_
      exact r_zret rfl (rfl) (Nat.zero_le _) (Nat.zero_le _) d_Mod_are_21 (by rw [← hQ]; exact ⟨by simp [bI, h5, h13], rfl⟩)
theorem c_Mod_isSqueeze (X : Xn) (s : Int32) : Does X 2 M_Mod_isSqueeze [.int s] ([]) 0 0 (fun (vv : Option Value) (ww : va_W) => vv = some (.int (bI (inR s 0 99))) ∧ ww = []) := by
  generalize hQ : (fun (vv : Option Value) (ww : va_W) => vv = some (.int (bI (inR s 0 99))) ∧ ww = []) = Q
  refine Does.go rfl (Nat.le_of_ble_eq_true rfl) [some (.int s)] 0 rfl ?_
  refine r_iload_n rfl 1 rfl d_Mod_isSqueeze_0 ?_
  refine r_iconst (nI 0) rfl 2 rfl d_Mod_isSqueeze_1 ?_
  refine r_bipush (nI 99) rfl 4 rfl d_Mod_isSqueeze_2 ?_
  refine r_callS1 (st2 := [.int (bI (inR s (nI 0) (nI 99)))]) (w2 := []) lk_Mod_within ln_Mod_114 (c_Mod_within X s (nI 0) (nI 99)) (by decide) rfl rfl (by decide) (by omega) (by omega) [] rfl rfl rfl rfl rfl 7 rfl d_Mod_isSqueeze_4 ?_
  exact r_zret rfl (bI_nar _) (Nat.zero_le _) (Nat.zero_le _) d_Mod_isSqueeze_7 (by rw [← hQ]; exact ⟨rfl, rfl⟩)
theorem c_Mod_owes (X : Xn) (a ν : Nat → Nat) (σ : Nat → Nat → Int32) (τ : Nat → Int64) (p n : Nat) (hn : ν 0 = n) (hn6 : n ≤ 6) (hp : p < 6) : Does X 1 M_Mod_owes [.ref (a 0), .int (nI p)] (MW X a ν σ τ) 0 0 (fun (vv : Option Value) (ww : va_W) => vv = some (.int (osum (σ 5) p n)) ∧ ww = MW X a ν σ τ) := by
  generalize hQ : (fun (vv : Option Value) (ww : va_W) => vv = some (.int (osum (σ 5) p n)) ∧ ww = MW X a ν σ τ) = Q
  refine Does.go rfl (Nat.le_of_ble_eq_true rfl) [some (.ref (a 0)), some (.int (nI p)), none, none] 2 rfl ?_
  refine r_iconst (nI 0) rfl 1 rfl d_Mod_owes_0 ?_
  refine r_istore_n 2 rfl d_Mod_owes_1 (by decide) rfl ?_
  refine r_iconst (nI 0) rfl 3 rfl d_Mod_owes_2 ?_
  refine r_istore_n 4 rfl d_Mod_owes_3 (by decide) rfl ?_
  have L4_1 : ∀ (f : Nat) (k : Nat), k ≤ n → n - k < f → Runs X 1 M_Mod_owes 0 0 Q 4 [some (.ref (a 0)), some (.int (nI p)), some (.int (osum (σ 5) p k)), some (.int (nI k))] [] 0 0 (MW X a ν σ τ) := by
    intro f
    induction f with
    | zero => intro k hk hmu; exact absurd hmu (Nat.not_lt_zero _)
    | succ f ih2 =>
      intro k hk hmu
      refine r_iload_n rfl 5 rfl d_Mod_owes_4 ?_
      refine r_aload_n rfl 6 rfl d_Mod_owes_5 ?_
      refine r_getf (v := .int (nI (ν 0))) gf_Mod_111 0 rfl rfl 9 rfl d_Mod_owes_6 ?_
      refine r_icmp_geN k (ν 0) (by omega) (by omega) 12 32 rfl rfl d_Mod_owes_9 (fun h9 => ?_) (fun h9 => ?_)
      · refine r_iload_n rfl 33 rfl d_Mod_owes_32 ?_
        exact r_iret rfl (Nat.zero_le _) (Nat.zero_le _) d_Mod_owes_33 (by rw [← hQ]; exact ⟨by rw [show k = n by omega], rfl⟩)
      · refine r_iload_n rfl 13 rfl d_Mod_owes_12 ?_
        refine r_aload_n rfl 14 rfl d_Mod_owes_13 ?_
        refine r_getf (v := .ref (a 5)) gf_Mod_24 0 rfl rfl 17 rfl d_Mod_owes_14 ?_
        refine r_bipush (nI 6) rfl 19 rfl d_Mod_owes_17 ?_
        refine r_iload_n rfl 20 rfl d_Mod_owes_19 ?_
        refine r_imul 21 rfl d_Mod_owes_20 ?_
        refine r_topi (nI (6 * p)) (pk_mul _ _) ?_
        refine r_iload_n rfl 22 rfl d_Mod_owes_21 ?_
        refine r_iadd 23 rfl d_Mod_owes_22 ?_
        refine r_topi (nI ((6 * p) + k)) (nI_add _ _) ?_
        refine r_iald 5 rfl ((6 * p) + k) rfl (by omega) (by omega) 24 rfl d_Mod_owes_23 ?_
        refine r_iadd 25 rfl d_Mod_owes_24 ?_
        refine r_istore_n 26 rfl d_Mod_owes_25 (by decide) rfl ?_
        refine r_iinc (nI (k + 1)) rfl (nI_1 _) 29 rfl d_Mod_owes_26 (by decide) rfl ?_
        refine r_goto 4 rfl d_Mod_owes_29 ?_
        exact ih2 (k + 1) (by omega) (by omega)
  exact L4_1 _ 0 (by omega) (Nat.lt_succ_self _)
