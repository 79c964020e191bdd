def M_Mod_saves : XM := (⟨"HandshakeBindsModel", "saves", "(I)Z"⟩, prog_11_method_39_code, 3, (some .boolean))
theorem d_Mod_saves_0 : decode M_Mod_saves.2.1 0 = .ok (.aload_n 0, 1) := by decide +kernel
theorem d_Mod_saves_1 : decode M_Mod_saves.2.1 1 = .ok (.aload_n 0, 1) := by decide +kernel
theorem d_Mod_saves_2 : decode M_Mod_saves.2.1 2 = .ok (.getfield 88, 3) := by decide +kernel
theorem gf_Mod_88 : GF "HandshakeBindsModel" 88 9 40 := ⟨_, _, _, rfl, by decide, i_Mod, inTB 890 (by decide +kernel) rfl⟩
theorem d_Mod_saves_5 : decode M_Mod_saves.2.1 5 = .ok (.invokevirtual 254, 3) := by decide +kernel
theorem ln_Mod_254 : Cond.methodLink "HandshakeBindsModel" 254 M_Mod_keep.1 ∈ TB := inTB 1218 (by decide +kernel) rfl
theorem lk_Mod_keep : LVt M_Mod_keep 1 := ⟨⟨inTB 72 (by decide +kernel) rfl, inTB 1221 (by decide +kernel) rfl, ⟨by decide, by decide, by decide +kernel⟩, by decide⟩, inTB 1220 (by decide +kernel) rfl, inTB 46 (by decide +kernel) rfl⟩
theorem d_Mod_saves_8 : decode M_Mod_saves.2.1 8 = .ok (.iconst 0, 1) := by decide +kernel
theorem d_Mod_saves_9 : decode M_Mod_saves.2.1 9 = .ok (.istore_n 2, 1) := by decide +kernel
theorem d_Mod_saves_10 : decode M_Mod_saves.2.1 10 = .ok (.iload_n 2, 1) := by decide +kernel
theorem d_Mod_saves_11 : decode M_Mod_saves.2.1 11 = .ok (.aload_n 0, 1) := by decide +kernel
theorem d_Mod_saves_12 : decode M_Mod_saves.2.1 12 = .ok (.getfield 111, 3) := by decide +kernel
theorem d_Mod_saves_15 : decode M_Mod_saves.2.1 15 = .ok (.if_icmp .ge 27, 3) := by decide +kernel
theorem d_Mod_saves_42 : decode M_Mod_saves.2.1 42 = .ok (.aload_n 0, 1) := by decide +kernel
theorem d_Mod_saves_43 : decode M_Mod_saves.2.1 43 = .ok (.iconst 0, 1) := by decide +kernel
theorem d_Mod_saves_44 : decode M_Mod_saves.2.1 44 = .ok (.invokevirtual 134, 3) := by decide +kernel
theorem d_Mod_saves_47 : decode M_Mod_saves.2.1 47 = .ok (.ifCond .ne 7, 3) := by decide +kernel
theorem d_Mod_saves_54 : decode M_Mod_saves.2.1 54 = .ok (.iconst 0, 1) := by decide +kernel
theorem d_Mod_saves_55 : decode M_Mod_saves.2.1 55 = .ok (.istore_n 2, 1) := by decide +kernel
theorem d_Mod_saves_56 : decode M_Mod_saves.2.1 56 = .ok (.aload_n 0, 1) := by decide +kernel
theorem d_Mod_saves_57 : decode M_Mod_saves.2.1 57 = .ok (.aload_n 0, 1) := by decide +kernel
theorem d_Mod_saves_58 : decode M_Mod_saves.2.1 58 = .ok (.getfield 88, 3) := by decide +kernel
theorem d_Mod_saves_61 : decode M_Mod_saves.2.1 61 = .ok (.invokevirtual 259, 3) := by decide +kernel
theorem ln_Mod_259 : Cond.methodLink "HandshakeBindsModel" 259 M_Mod_again.1 ∈ TB := inTB 1223 (by decide +kernel) rfl
theorem lk_Mod_again : LVt M_Mod_again 1 := ⟨⟨inTB 72 (by decide +kernel) rfl, inTB 1226 (by decide +kernel) rfl, ⟨by decide, by decide, by decide +kernel⟩, by decide⟩, inTB 1225 (by decide +kernel) rfl, inTB 47 (by decide +kernel) rfl⟩
theorem d_Mod_saves_64 : decode M_Mod_saves.2.1 64 = .ok (.iload_n 2, 1) := by decide +kernel
theorem d_Mod_saves_65 : decode M_Mod_saves.2.1 65 = .ok (.ireturn, 1) := by decide +kernel
theorem d_Mod_saves_50 : decode M_Mod_saves.2.1 50 = .ok (.iconst 1, 1) := by decide +kernel
theorem d_Mod_saves_51 : decode M_Mod_saves.2.1 51 = .ok (.goto 4, 3) := by decide +kernel
theorem d_Mod_saves_18 : decode M_Mod_saves.2.1 18 = .ok (.iload_n 1, 1) := by decide +kernel
theorem d_Mod_saves_19 : decode M_Mod_saves.2.1 19 = .ok (.iload_n 2, 1) := by decide +kernel
theorem d_Mod_saves_20 : decode M_Mod_saves.2.1 20 = .ok (.ishr, 1) := by decide +kernel
theorem d_Mod_saves_21 : decode M_Mod_saves.2.1 21 = .ok (.iconst 1, 1) := by decide +kernel
theorem d_Mod_saves_22 : decode M_Mod_saves.2.1 22 = .ok (.iand, 1) := by decide +kernel
theorem d_Mod_saves_23 : decode M_Mod_saves.2.1 23 = .ok (.iconst 1, 1) := by decide +kernel
theorem d_Mod_saves_24 : decode M_Mod_saves.2.1 24 = .ok (.if_icmp .ne 12, 3) := by decide +kernel
theorem d_Mod_saves_36 : decode M_Mod_saves.2.1 36 = .ok (.iinc 2 1, 3) := by decide +kernel
theorem d_Mod_saves_39 : decode M_Mod_saves.2.1 39 = .ok (.goto (-29), 3) := by decide +kernel
theorem d_Mod_saves_27 : decode M_Mod_saves.2.1 27 = .ok (.aload_n 0, 1) := by decide +kernel
theorem d_Mod_saves_28 : decode M_Mod_saves.2.1 28 = .ok (.getfield 18, 3) := by decide +kernel
theorem d_Mod_saves_31 : decode M_Mod_saves.2.1 31 = .ok (.iload_n 2, 1) := by decide +kernel
theorem d_Mod_saves_32 : decode M_Mod_saves.2.1 32 = .ok (.ldc_w 258, 3) := by decide +kernel
theorem d_Mod_saves_35 : decode M_Mod_saves.2.1 35 = .ok (.iastore, 1) := by decide +kernel
theorem c_Mod_saves (X : Xn) (a ν : Nat → Nat) (σ : Nat → Nat → Int32) (τ : Nat → Int64) (hn6 : ν 0 ≤ 6) (S : Nat) (hS : S < 64) : Does X 3 M_Mod_saves [.ref (a 0), .int (nI S)] (MW X a ν σ τ) 0 0 (fun (vv : Option Value) (ww : va_W) => vv = some (.int (bI (sv (ν 0) (σ 3) (σ 5) S))) ∧ ww = MW X a ν (u2 σ 40 (keepF ν σ (σ 40))) τ) := by
  generalize hQ : (fun (vv : Option Value) (ww : va_W) => vv = some (.int (bI (sv (ν 0) (σ 3) (σ 5) S))) ∧ ww = MW X a ν (u2 σ 40 (keepF ν σ (σ 40))) τ) = Q
  refine Does.go rfl (Nat.le_of_ble_eq_true rfl) [some (.ref (a 0)), some (.int (nI S)), none] 1 rfl ?_
  refine r_aload_n rfl 1 rfl d_Mod_saves_0 ?_
  refine r_aload_n rfl 2 rfl d_Mod_saves_1 ?_
  refine r_getf (v := .ref (a 40)) gf_Mod_88 0 rfl rfl 5 rfl d_Mod_saves_2 ?_
  refine r_callVA1 (st2 := []) (w2 := MW X a ν (u2 σ 40 (keepF ν σ (σ 40))) τ) lk_Mod_keep ln_Mod_254 (c_Mod_keep40 X a ν σ τ) (by decide) rfl rfl (Nat.le_of_ble_eq_true rfl) (Nat.le_of_ble_eq_true rfl) (Nat.le_of_ble_eq_true rfl) 0 rfl rfl rfl rfl 8 rfl d_Mod_saves_5 ?_
  refine r_iconst (nI 0) rfl 9 rfl d_Mod_saves_8 ?_
  refine r_istore_n (ls2 := [some (.ref (a 0)), some (.int (nI S)), some (.int (nI 0))]) 10 rfl d_Mod_saves_9 (by decide) rfl rfl ?_
  have L10_1 : ∀ (f : Nat) (k : Nat), (k ≤ ν 0) → ν 0 - k < f → Runs X 3 M_Mod_saves 0 0 Q 10 [some (.ref (a 0)), some (.int (nI S)), some (.int (nI k))] [] 0 0 (MW X a ν (u2 (u2 σ 40 (keepF ν σ (σ 40))) 3 (rich (σ 3) S k)) τ) := by
    intro f
    induction f with
    | zero => intro k hk hmu; exact absurd hmu (Nat.not_lt_zero _)
    | succ f ih2 =>
      intro k hk hmu
      refine r_iload_n rfl 11 rfl d_Mod_saves_10 ?_
      refine r_aload_n rfl 12 rfl d_Mod_saves_11 ?_
      refine r_getf (v := .int (nI (ν 0))) gf_Mod_111 0 rfl rfl 15 rfl d_Mod_saves_12 ?_
      refine r_icmp_geN k (ν 0) (by omega) (by omega) 18 42 rfl rfl d_Mod_saves_15 (fun h15 => ?_) (fun h15 => ?_)
      · refine r_aload_n rfl 43 rfl d_Mod_saves_42 ?_
        refine r_iconst (nI 0) rfl 44 rfl d_Mod_saves_43 ?_
        refine r_callVA1 (st2 := [.int (nI (fails (ν 0) (rich (σ 3) S k) (σ 5) 0))]) (w2 := MW X a ν (u2 (u2 σ 40 (keepF ν σ (σ 40))) 3 (rich (σ 3) S k)) τ) lk_Mod_fails ln_Mod_134 (c_Mod_fails X a ν (u2 (u2 σ 40 (keepF ν σ (σ 40))) 3 (rich (σ 3) S k)) τ hn6 0 (by first | omega | assumption)) (by decide) rfl rfl (Nat.le_of_ble_eq_true rfl) (Nat.le_of_ble_eq_true rfl) (Nat.le_of_ble_eq_true rfl) 0 rfl rfl rfl rfl 47 rfl d_Mod_saves_44 ?_
        have hfl : fails (ν 0) (rich (σ 3) S k) (σ 5) 0 < 64 := fails_lt hn6 (by decide)
        refine r_if_neN (fails (ν 0) (rich (σ 3) S k) (σ 5) 0) (Nat.lt_trans hfl (by decide)) 50 54 rfl rfl d_Mod_saves_47 (fun h47 => ?_) (fun h47 => ?_)
        · have hsv : sv (ν 0) (σ 3) (σ 5) S = false := by simp only [sv, decide_eq_false_iff_not]; rw [show k = ν 0 by omega] at h47; exact h47
          refine r_iconst (nI 0) rfl 55 rfl d_Mod_saves_54 ?_
          refine r_istore_n (ls2 := [some (.ref (a 0)), some (.int (nI S)), some (.int (nI 0))]) 56 rfl d_Mod_saves_55 (by decide) rfl rfl ?_
          refine r_aload_n rfl 57 rfl d_Mod_saves_56 ?_
          refine r_aload_n rfl 58 rfl d_Mod_saves_57 ?_
          refine r_getf (v := .ref (a 40)) gf_Mod_88 0 rfl rfl 61 rfl d_Mod_saves_58 ?_
          refine r_callVA1 (st2 := []) (w2 := MW X a (u1 (u1 (u1 (u1 (u1 ν 0 (ν 0)) 6 (ν 6)) 23 (ν 23)) 29 (ν 29)) 32 (ν 32)) (againF (u2 (u2 σ 40 (keepF ν σ (σ 40))) 3 (rich (σ 3) S k)) (keepF ν σ (σ 40))) τ) lk_Mod_again ln_Mod_259 (c_Mod_again40 X a ν (u2 (u2 σ 40 (keepF ν σ (σ 40))) 3 (rich (σ 3) S k)) τ (ν 0) (ν 6) (ν 23) (ν 29) (ν 32) rfl rfl rfl rfl rfl) (by decide) rfl rfl (Nat.le_of_ble_eq_true rfl) (Nat.le_of_ble_eq_true rfl) (Nat.le_of_ble_eq_true rfl) 0 rfl rfl rfl rfl 64 rfl d_Mod_saves_61 ?_
          refine Runs.cast (w' := MW X a ν (u2 σ 40 (keepF ν σ (σ 40))) τ) ?_ rfl rfl (by rw [u1_same5, again_keep (σ := σ) (σ2 := u2 (u2 σ 40 (keepF ν σ (σ 40))) 3 (rich (σ 3) S k)) (t := σ 40) (by intro c h1 h2 h3; rw [u2_n h2, u2_n h1]) (by rw [u2_n (by decide), u2_s]) (fun j hj => rich_out (pu := σ 3) (S := S) (k := k) hj (by omega)) (fun j hj => rfl)])
          refine r_iload_n rfl 65 rfl d_Mod_saves_64 ?_
          exact r_zret rfl (rfl) (Nat.zero_le _) (Nat.zero_le _) d_Mod_saves_65 (by rw [← hQ]; exact ⟨by rw [hsv]; rfl, rfl⟩)
        · have hsv : sv (ν 0) (σ 3) (σ 5) S = true := by simp only [sv, decide_eq_true_eq]; rw [show k = ν 0 by omega] at h47; exact h47
          refine r_iconst (nI 1) rfl 51 rfl d_Mod_saves_50 ?_
          refine r_goto 55 rfl d_Mod_saves_51 ?_
          refine r_istore_n (ls2 := [some (.ref (a 0)), some (.int (nI S)), some (.int (nI 1))]) 56 rfl d_Mod_saves_55 (by decide) rfl rfl ?_
          refine r_aload_n rfl 57 rfl d_Mod_saves_56 ?_
          refine r_aload_n rfl 58 rfl d_Mod_saves_57 ?_
          refine r_getf (v := .ref (a 40)) gf_Mod_88 0 rfl rfl 61 rfl d_Mod_saves_58 ?_
          refine r_callVA1 (st2 := []) (w2 := MW X a (u1 (u1 (u1 (u1 (u1 ν 0 (ν 0)) 6 (ν 6)) 23 (ν 23)) 29 (ν 29)) 32 (ν 32)) (againF (u2 (u2 σ 40 (keepF ν σ (σ 40))) 3 (rich (σ 3) S k)) (keepF ν σ (σ 40))) τ) lk_Mod_again ln_Mod_259 (c_Mod_again40 X a ν (u2 (u2 σ 40 (keepF ν σ (σ 40))) 3 (rich (σ 3) S k)) τ (ν 0) (ν 6) (ν 23) (ν 29) (ν 32) rfl rfl rfl rfl rfl) (by decide) rfl rfl (Nat.le_of_ble_eq_true rfl) (Nat.le_of_ble_eq_true rfl) (Nat.le_of_ble_eq_true rfl) 0 rfl rfl rfl rfl 64 rfl d_Mod_saves_61 ?_
          refine Runs.cast (w' := MW X a ν (u2 σ 40 (keepF ν σ (σ 40))) τ) ?_ rfl rfl (by rw [u1_same5, again_keep (σ := σ) (σ2 := u2 (u2 σ 40 (keepF ν σ (σ 40))) 3 (rich (σ 3) S k)) (t := σ 40) (by intro c h1 h2 h3; rw [u2_n h2, u2_n h1]) (by rw [u2_n (by decide), u2_s]) (fun j hj => rich_out (pu := σ 3) (S := S) (k := k) hj (by omega)) (fun j hj => rfl)])
          refine r_iload_n rfl 65 rfl d_Mod_saves_64 ?_
          exact r_zret rfl (rfl) (Nat.zero_le _) (Nat.zero_le _) d_Mod_saves_65 (by rw [← hQ]; exact ⟨by rw [hsv]; rfl, rfl⟩)
      · refine r_iload_n rfl 19 rfl d_Mod_saves_18 ?_
        refine r_iload_n rfl 20 rfl d_Mod_saves_19 ?_
        refine r_ishr 21 rfl d_Mod_saves_20 ?_
        refine r_topi (nI (S >>> k)) (nI_shr (by omega) (by omega)) ?_
        refine r_iconst (nI 1) rfl 22 rfl d_Mod_saves_21 ?_
        refine r_iand 23 rfl d_Mod_saves_22 ?_
        refine r_topi (nI ((S >>> k) &&& 1)) (nx_and _ _) ?_
        refine r_iconst (nI 1) rfl 24 rfl d_Mod_saves_23 ?_
        refine r_icmp_neN ((S >>> k) &&& 1) 1 (b_lt31 _) (by omega) 27 36 rfl rfl d_Mod_saves_24 (fun h24 => ?_) (fun h24 => ?_)
        · refine r_iinc (ls2 := [some (.ref (a 0)), some (.int (nI S)), some (.int (nI (k + 1)))]) (nI (k + 1)) rfl (nI_1 _) 39 rfl d_Mod_saves_36 (by decide) rfl rfl ?_
          refine r_goto 10 rfl d_Mod_saves_39 ?_
          refine Runs.cast (ih2 (k + 1) (by omega) (by omega)) (rfl) rfl (by rw [rich, if_neg h24])
        · refine r_aload_n rfl 28 rfl d_Mod_saves_27 ?_
          refine r_getf (v := .ref (a 3)) gf_Mod_18 0 rfl rfl 31 rfl d_Mod_saves_28 ?_
          refine r_iload_n rfl 32 rfl d_Mod_saves_31 ?_
          refine r_ldcw (v := (99999)) (inTB 1222 (by decide +kernel) rfl) 35 rfl d_Mod_saves_32 ?_
          refine r_topi (nI 99999) rfl ?_
          refine r_iast (w2 := MW X a ν (u2 (u2 (u2 σ 40 (keepF ν σ (σ 40))) 3 (rich (σ 3) S k)) 3 (upd (rich (σ 3) S k) k (nI 99999))) τ) 3 rfl k rfl (by omega) (by omega) rfl 36 rfl d_Mod_saves_35 ?_
          refine r_iinc (ls2 := [some (.ref (a 0)), some (.int (nI S)), some (.int (nI (k + 1)))]) (nI (k + 1)) rfl (nI_1 _) 39 rfl d_Mod_saves_36 (by decide) rfl rfl ?_
          refine r_goto 10 rfl d_Mod_saves_39 ?_
          refine Runs.cast (ih2 (k + 1) (by omega) (by omega)) (rfl) rfl (by rw [u2_u2, rich, if_pos h24])
  refine Runs.cast (L10_1 _ 0 (by omega) (Nat.lt_succ_self _)) (rfl) rfl (by rw [rich]; exact congrArg (fun z => MW X a ν z τ) (u2_self (σ := u2 σ 40 (keepF ν σ (σ 40))) (k := 3)).symm)
