def M_Mod_tape : XM := (⟨"HandshakeBindsModel", "tape", "(III)I"⟩, prog_11_method_77_code, 5, (some .int))
theorem d_Mod_tape_0 : decode M_Mod_tape.2.1 0 = .ok (.iload_n 1, 1) := by decide +kernel
theorem d_Mod_tape_1 : decode M_Mod_tape.2.1 1 = .ok (.invokestatic 345, 3) := by decide +kernel
theorem d_Mod_tape_4 : decode M_Mod_tape.2.1 4 = .ok (.ifCond .ne 5, 3) := by decide +kernel
theorem d_Mod_tape_9 : decode M_Mod_tape.2.1 9 = .ok (.iload_n 2, 1) := by decide +kernel
theorem d_Mod_tape_10 : decode M_Mod_tape.2.1 10 = .ok (.iconst (-1), 1) := by decide +kernel
theorem d_Mod_tape_11 : decode M_Mod_tape.2.1 11 = .ok (.iconst 4, 1) := by decide +kernel
theorem d_Mod_tape_12 : decode M_Mod_tape.2.1 12 = .ok (.invokestatic 114, 3) := by decide +kernel
theorem d_Mod_tape_15 : decode M_Mod_tape.2.1 15 = .ok (.ifCond .eq 13, 3) := by decide +kernel
theorem d_Mod_tape_28 : decode M_Mod_tape.2.1 28 = .ok (.bipush (-2), 2) := by decide +kernel
theorem d_Mod_tape_30 : decode M_Mod_tape.2.1 30 = .ok (.ireturn, 1) := by decide +kernel
theorem d_Mod_tape_18 : decode M_Mod_tape.2.1 18 = .ok (.iload_n 2, 1) := by decide +kernel
theorem d_Mod_tape_19 : decode M_Mod_tape.2.1 19 = .ok (.ifCond .lt 12, 3) := by decide +kernel
theorem d_Mod_tape_31 : decode M_Mod_tape.2.1 31 = .ok (.iload_n 2, 1) := by decide +kernel
theorem d_Mod_tape_32 : decode M_Mod_tape.2.1 32 = .ok (.ifCond .lt 10, 3) := by decide +kernel
theorem d_Mod_tape_42 : decode M_Mod_tape.2.1 42 = .ok (.aload_n 0, 1) := by decide +kernel
theorem d_Mod_tape_43 : decode M_Mod_tape.2.1 43 = .ok (.getfield 97, 3) := by decide +kernel
theorem d_Mod_tape_46 : decode M_Mod_tape.2.1 46 = .ok (.iload_n 1, 1) := by decide +kernel
theorem d_Mod_tape_47 : decode M_Mod_tape.2.1 47 = .ok (.iload_n 2, 1) := by decide +kernel
theorem d_Mod_tape_48 : decode M_Mod_tape.2.1 48 = .ok (.iastore, 1) := by decide +kernel
theorem d_Mod_tape_49 : decode M_Mod_tape.2.1 49 = .ok (.aload_n 0, 1) := by decide +kernel
theorem d_Mod_tape_50 : decode M_Mod_tape.2.1 50 = .ok (.getfield 100, 3) := by decide +kernel
theorem d_Mod_tape_53 : decode M_Mod_tape.2.1 53 = .ok (.iload_n 1, 1) := by decide +kernel
theorem d_Mod_tape_54 : decode M_Mod_tape.2.1 54 = .ok (.iload_n 2, 1) := by decide +kernel
theorem d_Mod_tape_55 : decode M_Mod_tape.2.1 55 = .ok (.ifCond .ge 7, 3) := by decide +kernel
theorem d_Mod_tape_58 : decode M_Mod_tape.2.1 58 = .ok (.iconst 0, 1) := by decide +kernel
theorem d_Mod_tape_59 : decode M_Mod_tape.2.1 59 = .ok (.goto 4, 3) := by decide +kernel
theorem d_Mod_tape_63 : decode M_Mod_tape.2.1 63 = .ok (.iastore, 1) := by decide +kernel
theorem d_Mod_tape_64 : decode M_Mod_tape.2.1 64 = .ok (.iconst 0, 1) := by decide +kernel
theorem d_Mod_tape_65 : decode M_Mod_tape.2.1 65 = .ok (.istore 4, 2) := by decide +kernel
theorem d_Mod_tape_67 : decode M_Mod_tape.2.1 67 = .ok (.iload 4, 2) := by decide +kernel
theorem d_Mod_tape_69 : decode M_Mod_tape.2.1 69 = .ok (.bipush 60, 2) := by decide +kernel
theorem d_Mod_tape_71 : decode M_Mod_tape.2.1 71 = .ok (.if_icmp .ge 22, 3) := by decide +kernel
theorem d_Mod_tape_93 : decode M_Mod_tape.2.1 93 = .ok (.iconst 1, 1) := by decide +kernel
theorem d_Mod_tape_94 : decode M_Mod_tape.2.1 94 = .ok (.ireturn, 1) := by decide +kernel
theorem d_Mod_tape_74 : decode M_Mod_tape.2.1 74 = .ok (.aload_n 0, 1) := by decide +kernel
theorem d_Mod_tape_75 : decode M_Mod_tape.2.1 75 = .ok (.getfield 103, 3) := by decide +kernel
theorem d_Mod_tape_78 : decode M_Mod_tape.2.1 78 = .ok (.bipush 60, 2) := by decide +kernel
theorem d_Mod_tape_80 : decode M_Mod_tape.2.1 80 = .ok (.iload_n 1, 1) := by decide +kernel
theorem d_Mod_tape_81 : decode M_Mod_tape.2.1 81 = .ok (.imul, 1) := by decide +kernel
theorem d_Mod_tape_82 : decode M_Mod_tape.2.1 82 = .ok (.iload 4, 2) := by decide +kernel
theorem d_Mod_tape_84 : decode M_Mod_tape.2.1 84 = .ok (.iadd, 1) := by decide +kernel
theorem d_Mod_tape_85 : decode M_Mod_tape.2.1 85 = .ok (.lconst 0, 1) := by decide +kernel
theorem d_Mod_tape_86 : decode M_Mod_tape.2.1 86 = .ok (.lastore, 1) := by decide +kernel
theorem d_Mod_tape_87 : decode M_Mod_tape.2.1 87 = .ok (.iinc 4 1, 3) := by decide +kernel
theorem d_Mod_tape_90 : decode M_Mod_tape.2.1 90 = .ok (.goto (-23), 3) := by decide +kernel
theorem d_Mod_tape_22 : decode M_Mod_tape.2.1 22 = .ok (.iload_n 3, 1) := by decide +kernel
theorem d_Mod_tape_23 : decode M_Mod_tape.2.1 23 = .ok (.bipush 60, 2) := by decide +kernel
theorem d_Mod_tape_25 : decode M_Mod_tape.2.1 25 = .ok (.if_icmp .le 6, 3) := by decide +kernel
theorem d_Mod_tape_35 : decode M_Mod_tape.2.1 35 = .ok (.iload_n 3, 1) := by decide +kernel
theorem d_Mod_tape_36 : decode M_Mod_tape.2.1 36 = .ok (.ifCond .ge 6, 3) := by decide +kernel
theorem d_Mod_tape_62 : decode M_Mod_tape.2.1 62 = .ok (.iload_n 3, 1) := by decide +kernel
theorem d_Mod_tape_39 : decode M_Mod_tape.2.1 39 = .ok (.bipush (-14), 2) := by decide +kernel
theorem d_Mod_tape_41 : decode M_Mod_tape.2.1 41 = .ok (.ireturn, 1) := by decide +kernel
theorem d_Mod_tape_7 : decode M_Mod_tape.2.1 7 = .ok (.iconst (-1), 1) := by decide +kernel
theorem d_Mod_tape_8 : decode M_Mod_tape.2.1 8 = .ok (.ireturn, 1) := by decide +kernel
theorem c_Mod_tape (X : Xn) (a ν : Nat → Nat) (σ : Nat → Nat → Int32) (τ : Nat → Int64) (t s n : Int32) : Does X 4 M_Mod_tape [.ref (a 0), .int t, .int s, .int n] (MW X a ν σ τ) 0 0 (fun (vv : Option Value) (ww : va_W) => vv = some (.int (R_tape t s n)) ∧ ww = MW X a ν (if b_tape t s n = true then u2 (u2 σ 43 (upd (σ 43) (cn t) s)) 44 (upd (σ 44) (cn t) (if s < 0 then nI 0 else n)) else σ) (if b_tape t s n = true then zeroL τ (60 * cn t) 60 else τ)) := by
  generalize hQ : (fun (vv : Option Value) (ww : va_W) => vv = some (.int (R_tape t s n)) ∧ ww = MW X a ν (if b_tape t s n = true then u2 (u2 σ 43 (upd (σ 43) (cn t) s)) 44 (upd (σ 44) (cn t) (if s < 0 then nI 0 else n)) else σ) (if b_tape t s n = true then zeroL τ (60 * cn t) 60 else τ)) = Q
  refine Does.go rfl (Nat.le_of_ble_eq_true rfl) [some (.ref (a 0)), some (.int t), some (.int s), some (.int n), none] 1 rfl ?_
  refine r_iload_n rfl 1 rfl d_Mod_tape_0 ?_
  refine r_callS1 (st2 := [.int (bI (inR t (nI 0) (nI 5)))]) (w2 := MW X a ν σ τ) lk_Mod_isTape ln_Mod_345 (c_Mod_isTape X t) (by first | decide | omega) rfl rfl (Nat.le_of_ble_eq_true rfl) (Nat.le_of_ble_eq_true rfl) (Nat.le_of_ble_eq_true rfl) [] rfl rfl rfl rfl rfl 4 rfl d_Mod_tape_1 ?_
  refine r_if_neB 7 9 rfl rfl d_Mod_tape_4 (fun h4 => ?_) (fun h4 => ?_)
  · obtain ⟨tN, htN, rfl⟩ := inR_t (by decide) h4
    have etN : cn (nI tN) = tN := cn_nI (by omega)
    have mtN : ¬ nI tN = -1 := m1n (by omega)
    refine r_iload_n rfl 10 rfl d_Mod_tape_9 ?_
    refine r_iconst ((-1)) rfl 11 rfl d_Mod_tape_10 ?_
    refine r_iconst (nI 4) rfl 12 rfl d_Mod_tape_11 ?_
    refine r_callS1 (st2 := [.int (bI (inR s (-1) (nI 4)))]) (w2 := MW X a ν σ τ) lk_Mod_within ln_Mod_114 (c_Mod_within X s (-1) (nI 4)) (by first | decide | omega) rfl rfl (Nat.le_of_ble_eq_true rfl) (Nat.le_of_ble_eq_true rfl) (Nat.le_of_ble_eq_true rfl) [] rfl rfl rfl rfl rfl 15 rfl d_Mod_tape_12 ?_
    refine r_if_eqB 18 28 rfl rfl d_Mod_tape_15 (fun h15 => ?_) (fun h15 => ?_)
    · refine r_bipush ((-2)) rfl 30 rfl d_Mod_tape_28 ?_
      exact r_iret rfl (Nat.zero_le _) (Nat.zero_le _) d_Mod_tape_30 (by rw [← hQ]; exact ⟨by simp [R_tape, b_tape, h4, etN, mtN, h15], by simp [R_tape, b_tape, h4, etN, mtN, h15]⟩)
    · refine r_iload_n rfl 19 rfl d_Mod_tape_18 ?_
      refine r_if_lt 22 31 rfl rfl d_Mod_tape_19 (fun h19 => ?_) (fun h19 => ?_)
      · refine r_iload_n rfl 32 rfl d_Mod_tape_31 ?_
        refine r_if_lt_t 42 rfl d_Mod_tape_32 (h19) ?_
        refine r_aload_n rfl 43 rfl d_Mod_tape_42 ?_
        refine r_getf (v := .ref (a 43)) gf_Mod_97 0 rfl rfl 46 rfl d_Mod_tape_43 ?_
        refine r_iload_n rfl 47 rfl d_Mod_tape_46 ?_
        refine r_iload_n rfl 48 rfl d_Mod_tape_47 ?_
        refine r_iast (w2 := MW X a ν (u2 σ 43 (upd (σ 43) tN s)) τ) 29 rfl tN rfl (by omega) (by omega) rfl 49 rfl d_Mod_tape_48 ?_
        refine r_aload_n rfl 50 rfl d_Mod_tape_49 ?_
        refine r_getf (v := .ref (a 44)) gf_Mod_100 0 rfl rfl 53 rfl d_Mod_tape_50 ?_
        refine r_iload_n rfl 54 rfl d_Mod_tape_53 ?_
        refine r_iload_n rfl 55 rfl d_Mod_tape_54 ?_
        refine r_if_ge_f 58 rfl 62 rfl d_Mod_tape_55 (Int32.not_le.mpr h19) ?_
        refine r_iconst (nI 0) rfl 59 rfl d_Mod_tape_58 ?_
        refine r_goto 63 rfl d_Mod_tape_59 ?_
        refine r_iast (w2 := MW X a ν (u2 (u2 σ 43 (upd (σ 43) tN s)) 44 (upd (σ 44) tN (nI 0))) τ) 30 rfl tN rfl (by omega) (by omega) rfl 64 rfl d_Mod_tape_63 ?_
        refine r_iconst (nI 0) rfl 65 rfl d_Mod_tape_64 ?_
        refine r_istore (ls2 := [some (.ref (a 0)), some (.int (nI tN)), some (.int s), some (.int n), some (.int (nI 0))]) 67 rfl d_Mod_tape_65 (by decide) rfl rfl ?_
        have L67_1 : ∀ (f : Nat) (k : Nat), (k ≤ 60) → 60 - k < f → Runs X 4 M_Mod_tape 0 0 Q 67 [some (.ref (a 0)), some (.int (nI tN)), some (.int s), some (.int n), some (.int (nI k))] [] 0 0 (MW X a ν (u2 (u2 σ 43 (upd (σ 43) tN s)) 44 (upd (σ 44) tN (nI 0))) (zeroL τ (60 * tN) k)) := by
          intro f
          induction f with
          | zero => intro k hk hmu; exact absurd hmu (Nat.not_lt_zero _)
          | succ f ih2 =>
            intro k hk hmu
            refine r_iload rfl 69 rfl d_Mod_tape_67 ?_
            refine r_bipush (nI 60) rfl 71 rfl d_Mod_tape_69 ?_
            refine r_icmp_geN k 60 (by omega) (by omega) 74 93 rfl rfl d_Mod_tape_71 (fun h71 => ?_) (fun h71 => ?_)
            · have n71 := Nat.not_lt.mpr h71
              refine r_iconst (nI 1) rfl 94 rfl d_Mod_tape_93 ?_
              exact r_iret rfl (Nat.zero_le _) (Nat.zero_le _) d_Mod_tape_94 (by rw [← hQ]; rw [show k = 60 by omega]; exact ⟨by simp [R_tape, b_tape, h4, etN, mtN, h15, h19, h71, n71], by simp [R_tape, b_tape, h4, etN, mtN, h15, h19, h71, n71]⟩)
            · have n71 := Nat.not_le.mpr h71
              refine r_aload_n rfl 75 rfl d_Mod_tape_74 ?_
              refine r_getf (v := .ref (a 45)) gf_Mod_103 0 rfl rfl 78 rfl d_Mod_tape_75 ?_
              refine r_bipush (nI 60) rfl 80 rfl d_Mod_tape_78 ?_
              refine r_iload_n rfl 81 rfl d_Mod_tape_80 ?_
              refine r_imul 82 rfl d_Mod_tape_81 ?_
              refine r_topi (nI (60 * tN)) (pk_mul _ _) ?_
              refine r_iload rfl 84 rfl d_Mod_tape_82 ?_
              refine r_iadd 85 rfl d_Mod_tape_84 ?_
              refine r_topi (nI ((60 * tN) + k)) (nI_add _ _) ?_
              refine r_lconst 0 rfl 86 rfl d_Mod_tape_85 ?_
              refine r_last (w2 := MW X a ν (u2 (u2 σ 43 (upd (σ 43) tN s)) 44 (upd (σ 44) tN (nI 0))) (vp_updL (zeroL τ (60 * tN) k) ((60 * tN) + k) 0)) 31 rfl ((60 * tN) + k) rfl (by omega) (by omega) rfl 87 rfl d_Mod_tape_86 ?_
              refine r_iinc (ls2 := [some (.ref (a 0)), some (.int (nI tN)), some (.int s), some (.int n), some (.int (nI (k + 1)))]) (nI (k + 1)) rfl (nI_1 _) 90 rfl d_Mod_tape_87 (by decide) rfl rfl ?_
              refine r_goto 67 rfl d_Mod_tape_90 ?_
              exact ih2 (k + 1) (by omega) (by omega)
        exact L67_1 _ 0 (Nat.zero_le _) (Nat.lt_succ_self _)
      · refine r_iload_n rfl 23 rfl d_Mod_tape_22 ?_
        refine r_bipush (nI 60) rfl 25 rfl d_Mod_tape_23 ?_
        refine r_icmp_le 28 31 rfl rfl d_Mod_tape_25 (fun h25 => ?_) (fun h25 => ?_)
        · refine r_iload_n rfl 32 rfl d_Mod_tape_31 ?_
          refine r_if_lt_f 35 rfl 42 rfl d_Mod_tape_32 (h19) ?_
          refine r_iload_n rfl 36 rfl d_Mod_tape_35 ?_
          refine r_if_ge 39 42 rfl rfl d_Mod_tape_36 (fun h36 => ?_) (fun h36 => ?_)
          · refine r_aload_n rfl 43 rfl d_Mod_tape_42 ?_
            refine r_getf (v := .ref (a 43)) gf_Mod_97 0 rfl rfl 46 rfl d_Mod_tape_43 ?_
            refine r_iload_n rfl 47 rfl d_Mod_tape_46 ?_
            refine r_iload_n rfl 48 rfl d_Mod_tape_47 ?_
            refine r_iast (w2 := MW X a ν (u2 σ 43 (upd (σ 43) tN s)) τ) 29 rfl tN rfl (by omega) (by omega) rfl 49 rfl d_Mod_tape_48 ?_
            refine r_aload_n rfl 50 rfl d_Mod_tape_49 ?_
            refine r_getf (v := .ref (a 44)) gf_Mod_100 0 rfl rfl 53 rfl d_Mod_tape_50 ?_
            refine r_iload_n rfl 54 rfl d_Mod_tape_53 ?_
            refine r_iload_n rfl 55 rfl d_Mod_tape_54 ?_
            refine r_if_ge_t 62 rfl d_Mod_tape_55 (Int32.not_lt.mp h19) ?_
            refine r_iload_n rfl 63 rfl d_Mod_tape_62 ?_
            refine r_iast (w2 := MW X a ν (u2 (u2 σ 43 (upd (σ 43) tN s)) 44 (upd (σ 44) tN n)) τ) 30 rfl tN rfl (by omega) (by omega) rfl 64 rfl d_Mod_tape_63 ?_
            refine r_iconst (nI 0) rfl 65 rfl d_Mod_tape_64 ?_
            refine r_istore (ls2 := [some (.ref (a 0)), some (.int (nI tN)), some (.int s), some (.int n), some (.int (nI 0))]) 67 rfl d_Mod_tape_65 (by decide) rfl rfl ?_
            have L67_3 : ∀ (f : Nat) (k : Nat), (k ≤ 60) → 60 - k < f → Runs X 4 M_Mod_tape 0 0 Q 67 [some (.ref (a 0)), some (.int (nI tN)), some (.int s), some (.int n), some (.int (nI k))] [] 0 0 (MW X a ν (u2 (u2 σ 43 (upd (σ 43) tN s)) 44 (upd (σ 44) tN (n))) (zeroL τ (60 * tN) k)) := by
              intro f
              induction f with
              | zero => intro k hk hmu; exact absurd hmu (Nat.not_lt_zero _)
              | succ f ih4 =>
                intro k hk hmu
                refine r_iload rfl 69 rfl d_Mod_tape_67 ?_
                refine r_bipush (nI 60) rfl 71 rfl d_Mod_tape_69 ?_
                refine r_icmp_geN k 60 (by omega) (by omega) 74 93 rfl rfl d_Mod_tape_71 (fun h71 => ?_) (fun h71 => ?_)
                · have n71 := Nat.not_lt.mpr h71
                  refine r_iconst (nI 1) rfl 94 rfl d_Mod_tape_93 ?_
                  exact r_iret rfl (Nat.zero_le _) (Nat.zero_le _) d_Mod_tape_94 (by rw [← hQ]; rw [show k = 60 by omega]; exact ⟨by simp [R_tape, b_tape, h4, etN, mtN, h15, h19, h25, h36, h71, n71], by simp [R_tape, b_tape, h4, etN, mtN, h15, h19, h25, h36, h71, n71]⟩)
                · have n71 := Nat.not_le.mpr h71
                  refine r_aload_n rfl 75 rfl d_Mod_tape_74 ?_
                  refine r_getf (v := .ref (a 45)) gf_Mod_103 0 rfl rfl 78 rfl d_Mod_tape_75 ?_
                  refine r_bipush (nI 60) rfl 80 rfl d_Mod_tape_78 ?_
                  refine r_iload_n rfl 81 rfl d_Mod_tape_80 ?_
                  refine r_imul 82 rfl d_Mod_tape_81 ?_
                  refine r_topi (nI (60 * tN)) (pk_mul _ _) ?_
                  refine r_iload rfl 84 rfl d_Mod_tape_82 ?_
                  refine r_iadd 85 rfl d_Mod_tape_84 ?_
                  refine r_topi (nI ((60 * tN) + k)) (nI_add _ _) ?_
                  refine r_lconst 0 rfl 86 rfl d_Mod_tape_85 ?_
                  refine r_last (w2 := MW X a ν (u2 (u2 σ 43 (upd (σ 43) tN s)) 44 (upd (σ 44) tN (n))) (vp_updL (zeroL τ (60 * tN) k) ((60 * tN) + k) 0)) 31 rfl ((60 * tN) + k) rfl (by omega) (by omega) rfl 87 rfl d_Mod_tape_86 ?_
                  refine r_iinc (ls2 := [some (.ref (a 0)), some (.int (nI tN)), some (.int s), some (.int n), some (.int (nI (k + 1)))]) (nI (k + 1)) rfl (nI_1 _) 90 rfl d_Mod_tape_87 (by decide) rfl rfl ?_
                  refine r_goto 67 rfl d_Mod_tape_90 ?_
                  exact ih4 (k + 1) (by omega) (by omega)
            exact L67_3 _ 0 (Nat.zero_le _) (Nat.lt_succ_self _)
          · have h36b := Int32.not_le.mp h36
            refine r_bipush ((-14)) rfl 41 rfl d_Mod_tape_39 ?_
            exact r_iret rfl (Nat.zero_le _) (Nat.zero_le _) d_Mod_tape_41 (by rw [← hQ]; exact ⟨by simp [R_tape, b_tape, h4, etN, mtN, h15, h19, h25, h36, h36b], by simp [R_tape, b_tape, h4, etN, mtN, h15, h19, h25, h36, h36b]⟩)
        · have h25b := Int32.not_le.mp h25
          refine r_bipush ((-2)) rfl 30 rfl d_Mod_tape_28 ?_
          exact r_iret rfl (Nat.zero_le _) (Nat.zero_le _) d_Mod_tape_30 (by rw [← hQ]; exact ⟨by simp [R_tape, b_tape, h4, etN, mtN, h15, h19, h25, h25b], by simp [R_tape, b_tape, h4, etN, mtN, h15, h19, h25, h25b]⟩)
  · refine r_iconst ((-1)) rfl 8 rfl d_Mod_tape_7 ?_
    exact r_iret rfl (Nat.zero_le _) (Nat.zero_le _) d_Mod_tape_8 (by rw [← hQ]; exact ⟨by simp [R_tape, b_tape, h4], by simp [R_tape, b_tape, h4]⟩)
