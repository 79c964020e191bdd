
theorem c_Mod_trader6 (X : Xn) (a ν : Nat → Nat) (σ : Nat → Nat → Int32) (τ : Nat → Int64) (h6 : ν 0 = 6) (k v : Int32) : Does X 2 M_Mod_trader [.ref (a 0), .int k, .int v] (MW X a ν σ τ) 0 0 (fun (vv : Option Value) (ww : va_W) => vv = some (.int (R_trader (ν 0) k v)) ∧ ww = MW X a ν σ τ) := by
  generalize hQ : (fun (vv : Option Value) (ww : va_W) => vv = some (.int (R_trader (ν 0) k v)) ∧ ww = MW X a ν σ τ) = Q
  refine Does.go rfl (Nat.le_of_ble_eq_true rfl) [some (.ref (a 0)), some (.int k), some (.int v), none, none] 2 rfl ?_
  refine r_iload_n rfl 1 rfl d_Mod_trader_0 ?_
  refine r_iconst (nI 0) rfl 2 rfl d_Mod_trader_1 ?_
  refine r_bipush (nI 6) rfl 4 rfl d_Mod_trader_2 ?_
  refine r_callS1 (st2 := [.int (bI (inR k (nI 0) (nI 6)))]) (w2 := MW X a ν σ τ) lk_Mod_within ln_Mod_114 (c_Mod_within X k (nI 0) (nI 6)) (by first | decide | omega) rfl rfl (Nat.le_of_ble_eq_true rfl) (Nat.le_of_ble_eq_true rfl) (Nat.le_of_ble_eq_true rfl) [] rfl rfl rfl rfl rfl 7 rfl d_Mod_trader_4 ?_
  refine r_if_neB 10 12 rfl rfl d_Mod_trader_7 (fun h7 => ?_) (fun h7 => ?_)
  · refine r_iload_n rfl 13 rfl d_Mod_trader_12 ?_
    refine r_iconst (nI 0) rfl 14 rfl d_Mod_trader_13 ?_
    refine r_bipush (nI 9) rfl 16 rfl d_Mod_trader_14 ?_
    refine r_callS1 (st2 := [.int (bI (inR v (nI 0) (nI 9)))]) (w2 := MW X a ν σ τ) lk_Mod_within ln_Mod_114 (c_Mod_within X v (nI 0) (nI 9)) (by first | decide | omega) rfl rfl (Nat.le_of_ble_eq_true rfl) (Nat.le_of_ble_eq_true rfl) (Nat.le_of_ble_eq_true rfl) [] rfl rfl rfl rfl rfl 19 rfl d_Mod_trader_16 ?_
    refine r_if_neB 22 25 rfl rfl d_Mod_trader_19 (fun h19 => ?_) (fun h19 => ?_)
    · refine r_aload_n rfl 26 rfl d_Mod_trader_25 ?_
      refine r_getf (v := .int (nI (ν 0))) gf_Mod_111 0 rfl rfl 29 rfl d_Mod_trader_26 ?_
      refine r_bipush (nI 6) rfl 31 rfl d_Mod_trader_29 ?_
      refine r_icmp_neN_f (ν 0) 6 (by omega) (by omega) 34 rfl 37 rfl d_Mod_trader_31 (h6) ?_
      refine r_bipush ((-4)) rfl 36 rfl d_Mod_trader_34 ?_
      exact r_iret rfl (Nat.zero_le _) (Nat.zero_le _) d_Mod_trader_36 (by rw [← hQ]; exact ⟨by simp [R_trader, h6, h7, h19], by first | (simp [R_trader, h6, h7, h19, u2_self, u1_self]; done) | (simp [R_trader, h6, h7, h19, u2_self, u1_self]; rw [← h19, u1_self])⟩)
    · refine r_bipush ((-2)) rfl 24 rfl d_Mod_trader_22 ?_
      exact r_iret rfl (Nat.zero_le _) (Nat.zero_le _) d_Mod_trader_24 (by rw [← hQ]; exact ⟨by simp [R_trader, h6, h7, h19], by first | (simp [R_trader, h6, h7, h19, u2_self, u1_self]; done) | (simp [R_trader, h6, h7, h19, u2_self, u1_self]; rw [← h19, u1_self])⟩)
  · refine r_iconst ((-1)) rfl 11 rfl d_Mod_trader_10 ?_
    exact r_iret rfl (Nat.zero_le _) (Nat.zero_le _) d_Mod_trader_11 (by rw [← hQ]; exact ⟨by simp [R_trader, h6, h7], by first | (simp [R_trader, h6, h7, u2_self, u1_self]; done) | (simp [R_trader, h6, h7, u2_self, u1_self]; rw [← h7, u1_self])⟩)
