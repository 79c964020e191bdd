def M_Mod_isClause : XM := (⟨"HandshakeBindsModel", "isClause", "(I)Z"⟩, prog_11_method_25_code, 4, (some .boolean))
theorem d_Mod_isClause_0 : decode M_Mod_isClause.2.1 0 = .ok (.iconst (-1), 1) := by decide +kernel
theorem d_Mod_isClause_1 : decode M_Mod_isClause.2.1 1 = .ok (.istore_n 2, 1) := by decide +kernel
theorem d_Mod_isClause_2 : decode M_Mod_isClause.2.1 2 = .ok (.aload_n 0, 1) := by decide +kernel
theorem d_Mod_isClause_3 : decode M_Mod_isClause.2.1 3 = .ok (.getfield 147, 3) := by decide +kernel
theorem d_Mod_isClause_6 : decode M_Mod_isClause.2.1 6 = .ok (.aload_n 0, 1) := by decide +kernel
theorem d_Mod_isClause_7 : decode M_Mod_isClause.2.1 7 = .ok (.getfield 144, 3) := by decide +kernel
theorem d_Mod_isClause_10 : decode M_Mod_isClause.2.1 10 = .ok (.if_icmp .ge 59, 3) := by decide +kernel
theorem d_Mod_isClause_69 : decode M_Mod_isClause.2.1 69 = .ok (.iload_n 2, 1) := by decide +kernel
theorem d_Mod_isClause_70 : decode M_Mod_isClause.2.1 70 = .ok (.ifCond .ne 12, 3) := by decide +kernel
theorem d_Mod_isClause_82 : decode M_Mod_isClause.2.1 82 = .ok (.iload_n 2, 1) := by decide +kernel
theorem d_Mod_isClause_83 : decode M_Mod_isClause.2.1 83 = .ok (.iconst 1, 1) := by decide +kernel
theorem d_Mod_isClause_84 : decode M_Mod_isClause.2.1 84 = .ok (.if_icmp .ne 12, 3) := by decide +kernel
theorem d_Mod_isClause_96 : decode M_Mod_isClause.2.1 96 = .ok (.iload_n 2, 1) := by decide +kernel
theorem d_Mod_isClause_97 : decode M_Mod_isClause.2.1 97 = .ok (.iconst 2, 1) := by decide +kernel
theorem d_Mod_isClause_98 : decode M_Mod_isClause.2.1 98 = .ok (.if_icmp .ne 16, 3) := by decide +kernel
theorem d_Mod_isClause_114 : decode M_Mod_isClause.2.1 114 = .ok (.iconst 0, 1) := by decide +kernel
theorem d_Mod_isClause_115 : decode M_Mod_isClause.2.1 115 = .ok (.istore_n 3, 1) := by decide +kernel
theorem d_Mod_isClause_116 : decode M_Mod_isClause.2.1 116 = .ok (.iload_n 3, 1) := by decide +kernel
theorem d_Mod_isClause_117 : decode M_Mod_isClause.2.1 117 = .ok (.ifCond .eq 10, 3) := by decide +kernel
theorem d_Mod_isClause_127 : decode M_Mod_isClause.2.1 127 = .ok (.iconst 0, 1) := by decide +kernel
theorem d_Mod_isClause_128 : decode M_Mod_isClause.2.1 128 = .ok (.ireturn, 1) := by decide +kernel
theorem d_Mod_isClause_13 : decode M_Mod_isClause.2.1 13 = .ok (.aload_n 0, 1) := by decide +kernel
theorem d_Mod_isClause_14 : decode M_Mod_isClause.2.1 14 = .ok (.getfield 27, 3) := by decide +kernel
theorem d_Mod_isClause_17 : decode M_Mod_isClause.2.1 17 = .ok (.aload_n 0, 1) := by decide +kernel
theorem d_Mod_isClause_18 : decode M_Mod_isClause.2.1 18 = .ok (.getfield 147, 3) := by decide +kernel
theorem d_Mod_isClause_21 : decode M_Mod_isClause.2.1 21 = .ok (.iaload, 1) := by decide +kernel
theorem d_Mod_isClause_22 : decode M_Mod_isClause.2.1 22 = .ok (.bipush 102, 2) := by decide +kernel
theorem d_Mod_isClause_24 : decode M_Mod_isClause.2.1 24 = .ok (.if_icmp .ne 7, 3) := by decide +kernel
theorem d_Mod_isClause_31 : decode M_Mod_isClause.2.1 31 = .ok (.aload_n 0, 1) := by decide +kernel
theorem d_Mod_isClause_32 : decode M_Mod_isClause.2.1 32 = .ok (.getfield 27, 3) := by decide +kernel
theorem d_Mod_isClause_35 : decode M_Mod_isClause.2.1 35 = .ok (.aload_n 0, 1) := by decide +kernel
theorem d_Mod_isClause_36 : decode M_Mod_isClause.2.1 36 = .ok (.getfield 147, 3) := by decide +kernel
theorem d_Mod_isClause_39 : decode M_Mod_isClause.2.1 39 = .ok (.iaload, 1) := by decide +kernel
theorem d_Mod_isClause_40 : decode M_Mod_isClause.2.1 40 = .ok (.bipush 108, 2) := by decide +kernel
theorem d_Mod_isClause_42 : decode M_Mod_isClause.2.1 42 = .ok (.if_icmp .ne 7, 3) := by decide +kernel
theorem d_Mod_isClause_49 : decode M_Mod_isClause.2.1 49 = .ok (.aload_n 0, 1) := by decide +kernel
theorem d_Mod_isClause_50 : decode M_Mod_isClause.2.1 50 = .ok (.getfield 27, 3) := by decide +kernel
theorem d_Mod_isClause_53 : decode M_Mod_isClause.2.1 53 = .ok (.aload_n 0, 1) := by decide +kernel
theorem d_Mod_isClause_54 : decode M_Mod_isClause.2.1 54 = .ok (.getfield 147, 3) := by decide +kernel
theorem d_Mod_isClause_57 : decode M_Mod_isClause.2.1 57 = .ok (.iaload, 1) := by decide +kernel
theorem d_Mod_isClause_58 : decode M_Mod_isClause.2.1 58 = .ok (.bipush 98, 2) := by decide +kernel
theorem d_Mod_isClause_60 : decode M_Mod_isClause.2.1 60 = .ok (.if_icmp .ne 7, 3) := by decide +kernel
theorem d_Mod_isClause_67 : decode M_Mod_isClause.2.1 67 = .ok (.iconst (-1), 1) := by decide +kernel
theorem d_Mod_isClause_68 : decode M_Mod_isClause.2.1 68 = .ok (.istore_n 2, 1) := by decide +kernel
theorem d_Mod_isClause_63 : decode M_Mod_isClause.2.1 63 = .ok (.iconst 2, 1) := by decide +kernel
theorem d_Mod_isClause_64 : decode M_Mod_isClause.2.1 64 = .ok (.goto 4, 3) := by decide +kernel
theorem d_Mod_isClause_101 : decode M_Mod_isClause.2.1 101 = .ok (.aload_n 0, 1) := by decide +kernel
theorem d_Mod_isClause_102 : decode M_Mod_isClause.2.1 102 = .ok (.ldc 214, 2) := by decide +kernel
theorem d_Mod_isClause_104 : decode M_Mod_isClause.2.1 104 = .ok (.invokevirtual 208, 3) := by decide +kernel
theorem ln_Mod_208 : Cond.methodLink "HandshakeBindsModel" 208 M_Mod_isAll.1 ∈ TB := inTB 1055 (by decide +kernel) rfl
theorem lk_Mod_isAll : LVt M_Mod_isAll 1 := ⟨⟨inTB 72 (by decide +kernel) rfl, inTB 1058 (by decide +kernel) rfl, ⟨by decide, by decide, by decide +kernel⟩, by decide⟩, inTB 1057 (by decide +kernel) rfl, inTB 28 (by decide +kernel) rfl⟩
theorem d_Mod_isClause_107 : decode M_Mod_isClause.2.1 107 = .ok (.ifCond .eq 7, 3) := by decide +kernel
theorem d_Mod_isClause_110 : decode M_Mod_isClause.2.1 110 = .ok (.iconst 1, 1) := by decide +kernel
theorem d_Mod_isClause_111 : decode M_Mod_isClause.2.1 111 = .ok (.goto 4, 3) := by decide +kernel
theorem d_Mod_isClause_120 : decode M_Mod_isClause.2.1 120 = .ok (.aload_n 0, 1) := by decide +kernel
theorem d_Mod_isClause_121 : decode M_Mod_isClause.2.1 121 = .ok (.invokevirtual 182, 3) := by decide +kernel
theorem d_Mod_isClause_124 : decode M_Mod_isClause.2.1 124 = .ok (.ifCond .ne 5, 3) := by decide +kernel
theorem d_Mod_isClause_129 : decode M_Mod_isClause.2.1 129 = .ok (.aload_n 0, 1) := by decide +kernel
theorem d_Mod_isClause_130 : decode M_Mod_isClause.2.1 130 = .ok (.getfield 33, 3) := by decide +kernel
theorem d_Mod_isClause_133 : decode M_Mod_isClause.2.1 133 = .ok (.iload_n 1, 1) := by decide +kernel
theorem d_Mod_isClause_134 : decode M_Mod_isClause.2.1 134 = .ok (.iload_n 2, 1) := by decide +kernel
theorem d_Mod_isClause_135 : decode M_Mod_isClause.2.1 135 = .ok (.iastore, 1) := by decide +kernel
theorem d_Mod_isClause_136 : decode M_Mod_isClause.2.1 136 = .ok (.aload_n 0, 1) := by decide +kernel
theorem d_Mod_isClause_137 : decode M_Mod_isClause.2.1 137 = .ok (.getfield 36, 3) := by decide +kernel
theorem d_Mod_isClause_140 : decode M_Mod_isClause.2.1 140 = .ok (.iload_n 1, 1) := by decide +kernel
theorem d_Mod_isClause_141 : decode M_Mod_isClause.2.1 141 = .ok (.aload_n 0, 1) := by decide +kernel
theorem d_Mod_isClause_142 : decode M_Mod_isClause.2.1 142 = .ok (.getfield 150, 3) := by decide +kernel
theorem d_Mod_isClause_145 : decode M_Mod_isClause.2.1 145 = .ok (.iastore, 1) := by decide +kernel
theorem d_Mod_isClause_146 : decode M_Mod_isClause.2.1 146 = .ok (.aload_n 0, 1) := by decide +kernel
theorem d_Mod_isClause_147 : decode M_Mod_isClause.2.1 147 = .ok (.getfield 39, 3) := by decide +kernel
theorem d_Mod_isClause_150 : decode M_Mod_isClause.2.1 150 = .ok (.iload_n 1, 1) := by decide +kernel
theorem d_Mod_isClause_151 : decode M_Mod_isClause.2.1 151 = .ok (.aload_n 0, 1) := by decide +kernel
theorem d_Mod_isClause_152 : decode M_Mod_isClause.2.1 152 = .ok (.getfield 172, 3) := by decide +kernel
theorem d_Mod_isClause_155 : decode M_Mod_isClause.2.1 155 = .ok (.iastore, 1) := by decide +kernel
theorem d_Mod_isClause_156 : decode M_Mod_isClause.2.1 156 = .ok (.aload_n 0, 1) := by decide +kernel
theorem d_Mod_isClause_157 : decode M_Mod_isClause.2.1 157 = .ok (.iconst 0, 1) := by decide +kernel
theorem d_Mod_isClause_158 : decode M_Mod_isClause.2.1 158 = .ok (.putfield 188, 3) := by decide +kernel
theorem d_Mod_isClause_161 : decode M_Mod_isClause.2.1 161 = .ok (.iload_n 2, 1) := by decide +kernel
theorem d_Mod_isClause_162 : decode M_Mod_isClause.2.1 162 = .ok (.iconst 2, 1) := by decide +kernel
theorem d_Mod_isClause_163 : decode M_Mod_isClause.2.1 163 = .ok (.if_icmp .ge 21, 3) := by decide +kernel
theorem d_Mod_isClause_184 : decode M_Mod_isClause.2.1 184 = .ok (.aload_n 0, 1) := by decide +kernel
theorem d_Mod_isClause_185 : decode M_Mod_isClause.2.1 185 = .ok (.getfield 42, 3) := by decide +kernel
theorem d_Mod_isClause_188 : decode M_Mod_isClause.2.1 188 = .ok (.iload_n 1, 1) := by decide +kernel
theorem d_Mod_isClause_189 : decode M_Mod_isClause.2.1 189 = .ok (.aload_n 0, 1) := by decide +kernel
theorem d_Mod_isClause_190 : decode M_Mod_isClause.2.1 190 = .ok (.getfield 172, 3) := by decide +kernel
theorem d_Mod_isClause_193 : decode M_Mod_isClause.2.1 193 = .ok (.aload_n 0, 1) := by decide +kernel
theorem d_Mod_isClause_194 : decode M_Mod_isClause.2.1 194 = .ok (.getfield 39, 3) := by decide +kernel
theorem d_Mod_isClause_197 : decode M_Mod_isClause.2.1 197 = .ok (.iload_n 1, 1) := by decide +kernel
theorem d_Mod_isClause_198 : decode M_Mod_isClause.2.1 198 = .ok (.iaload, 1) := by decide +kernel
theorem d_Mod_isClause_199 : decode M_Mod_isClause.2.1 199 = .ok (.isub, 1) := by decide +kernel
theorem d_Mod_isClause_200 : decode M_Mod_isClause.2.1 200 = .ok (.iastore, 1) := by decide +kernel
theorem d_Mod_isClause_201 : decode M_Mod_isClause.2.1 201 = .ok (.iconst 1, 1) := by decide +kernel
theorem d_Mod_isClause_202 : decode M_Mod_isClause.2.1 202 = .ok (.ireturn, 1) := by decide +kernel
theorem d_Mod_isClause_45 : decode M_Mod_isClause.2.1 45 = .ok (.iconst 1, 1) := by decide +kernel
theorem d_Mod_isClause_46 : decode M_Mod_isClause.2.1 46 = .ok (.goto 22, 3) := by decide +kernel
theorem d_Mod_isClause_87 : decode M_Mod_isClause.2.1 87 = .ok (.aload_n 0, 1) := by decide +kernel
theorem d_Mod_isClause_88 : decode M_Mod_isClause.2.1 88 = .ok (.ldc 212, 2) := by decide +kernel
theorem d_Mod_isClause_90 : decode M_Mod_isClause.2.1 90 = .ok (.invokevirtual 208, 3) := by decide +kernel
theorem d_Mod_isClause_93 : decode M_Mod_isClause.2.1 93 = .ok (.goto 22, 3) := by decide +kernel
theorem d_Mod_isClause_166 : decode M_Mod_isClause.2.1 166 = .ok (.aload_n 0, 1) := by decide +kernel
theorem d_Mod_isClause_167 : decode M_Mod_isClause.2.1 167 = .ok (.bipush 32, 2) := by decide +kernel
theorem d_Mod_isClause_169 : decode M_Mod_isClause.2.1 169 = .ok (.invokevirtual 169, 3) := by decide +kernel
theorem d_Mod_isClause_172 : decode M_Mod_isClause.2.1 172 = .ok (.ifCond .eq 10, 3) := by decide +kernel
theorem d_Mod_isClause_182 : decode M_Mod_isClause.2.1 182 = .ok (.iconst 0, 1) := by decide +kernel
theorem d_Mod_isClause_183 : decode M_Mod_isClause.2.1 183 = .ok (.ireturn, 1) := by decide +kernel
theorem d_Mod_isClause_175 : decode M_Mod_isClause.2.1 175 = .ok (.aload_n 0, 1) := by decide +kernel
theorem d_Mod_isClause_176 : decode M_Mod_isClause.2.1 176 = .ok (.invokevirtual 197, 3) := by decide +kernel
theorem d_Mod_isClause_179 : decode M_Mod_isClause.2.1 179 = .ok (.ifCond .ne 5, 3) := by decide +kernel
theorem d_Mod_isClause_27 : decode M_Mod_isClause.2.1 27 = .ok (.iconst 0, 1) := by decide +kernel
theorem d_Mod_isClause_28 : decode M_Mod_isClause.2.1 28 = .ok (.goto 40, 3) := by decide +kernel
theorem d_Mod_isClause_73 : decode M_Mod_isClause.2.1 73 = .ok (.aload_n 0, 1) := by decide +kernel
theorem d_Mod_isClause_74 : decode M_Mod_isClause.2.1 74 = .ok (.ldc 206, 2) := by decide +kernel
theorem d_Mod_isClause_76 : decode M_Mod_isClause.2.1 76 = .ok (.invokevirtual 208, 3) := by decide +kernel
theorem d_Mod_isClause_79 : decode M_Mod_isClause.2.1 79 = .ok (.goto 36, 3) := by decide +kernel
theorem c_Mod_isClause (X : Xn) (a ν : Nat → Nat) (σ : Nat → Nat → Int32) (τ : Nat → Int64) (tx : Nat → Nat) (ht : ν 7 ≤ 100) (hct : ∀ x, tx x < 128) (i : Nat) (hi : i < 61) (s : TS) (hax : s.ax ≤ ν 7) (hcd : s.cd + ν 7 ≤ 700 + s.ax) : Does X 23 M_Mod_isClause [.ref (a 0), .int (nI i)] (MT X a ν σ τ tx s) 0 0 (fun (vv : Option Value) (ww : va_W) => ∃ f g h l : Nat → Int32, vv = some (.int (bI (tCl (ν 7) tx s).1)) ∧ ww = MT X a ν (u4 σ f g h l) τ tx (tCl (ν 7) tx s).2 ∧ clP (ν 7) tx σ i s f g h l) := by
  generalize hQ : (fun (vv : Option Value) (ww : va_W) => ∃ f g h l : Nat → Int32, vv = some (.int (bI (tCl (ν 7) tx s).1)) ∧ ww = MT X a ν (u4 σ f g h l) τ tx (tCl (ν 7) tx s).2 ∧ clP (ν 7) tx σ i s f g h l) = Q
  refine Does.go rfl (Nat.le_of_ble_eq_true rfl) [some (.ref (a 0)), some (.int (nI i)), none, none] 2 rfl ?_
  refine r_iconst ((-1)) rfl 1 rfl d_Mod_isClause_0 ?_
  refine r_istore_n (ls2 := [some (.ref (a 0)), some (.int (nI i)), some (.int (-1)), none]) 2 rfl d_Mod_isClause_1 (by decide) rfl rfl ?_
  refine r_aload_n rfl 3 rfl d_Mod_isClause_2 ?_
  refine r_getf (v := .int (nI s.ax)) gf_Mod_147 0 rfl rfl 6 rfl d_Mod_isClause_3 ?_
  refine r_aload_n rfl 7 rfl d_Mod_isClause_6 ?_
  refine r_getf (v := .int (nI (ν 7))) gf_Mod_144 0 rfl rfl 10 rfl d_Mod_isClause_7 ?_
  refine r_icmp_geN s.ax (ν 7) (by omega) (by omega) 13 69 rfl rfl d_Mod_isClause_10 (fun h10 => ?_) (fun h10 => ?_)
  · refine r_iload_n rfl 70 rfl d_Mod_isClause_69 ?_
    refine r_if_ne_t 82 rfl d_Mod_isClause_70 (by decide) ?_
    refine r_iload_n rfl 83 rfl d_Mod_isClause_82 ?_
    refine r_iconst (nI 1) rfl 84 rfl d_Mod_isClause_83 ?_
    refine r_icmp_ne_t 96 rfl d_Mod_isClause_84 (by decide) ?_
    refine r_iload_n rfl 97 rfl d_Mod_isClause_96 ?_
    refine r_iconst (nI 2) rfl 98 rfl d_Mod_isClause_97 ?_
    refine r_icmp_ne_t 114 rfl d_Mod_isClause_98 (by decide) ?_
    refine r_iconst (nI 0) rfl 115 rfl d_Mod_isClause_114 ?_
    refine r_istore_n (ls2 := [some (.ref (a 0)), some (.int (nI i)), some (.int (-1)), some (.int (nI 0))]) 116 rfl d_Mod_isClause_115 (by decide) rfl rfl ?_
    refine r_iload_n rfl 117 rfl d_Mod_isClause_116 ?_
    refine r_if_eqN_t 0 (by omega) 127 rfl d_Mod_isClause_117 (by decide) ?_
    refine r_iconst (nI 0) rfl 128 rfl d_Mod_isClause_127 ?_
    exact r_zret rfl (rfl) (Nat.zero_le _) (Nat.zero_le _) d_Mod_isClause_128 (by rw [← hQ]; exact clR (σ 16) (σ 17) (σ 18) (σ 19) (b := false) (by have hK : tKd (ν 7) tx s = 3 := (by unfold tKd; rw [if_neg (by omega)]); unfold tCl; rw [hK, if_neg (by decide)]) rfl (u4_self σ) (fun _ _ => ⟨rfl, rfl, rfl, rfl⟩) (fun z => by cases z))
  · refine r_aload_n rfl 14 rfl d_Mod_isClause_13 ?_
    refine r_getf (v := .ref (a 8)) gf_Mod_27 0 rfl rfl 17 rfl d_Mod_isClause_14 ?_
    refine r_aload_n rfl 18 rfl d_Mod_isClause_17 ?_
    refine r_getf (v := .int (nI s.ax)) gf_Mod_147 0 rfl rfl 21 rfl d_Mod_isClause_18 ?_
    refine r_iald (f := (fun x => nI (tx x))) 6 rfl s.ax rfl (by omega) (by omega) 22 rfl d_Mod_isClause_21 ?_
    refine r_bipush (nI 102) rfl 24 rfl d_Mod_isClause_22 ?_
    refine r_icmp_neN (tx s.ax) 102 (Nat.lt_trans (hct _) (by decide)) (by omega) 27 31 rfl rfl d_Mod_isClause_24 (fun h24 => ?_) (fun h24 => ?_)
    · refine r_aload_n rfl 32 rfl d_Mod_isClause_31 ?_
      refine r_getf (v := .ref (a 8)) gf_Mod_27 0 rfl rfl 35 rfl d_Mod_isClause_32 ?_
      refine r_aload_n rfl 36 rfl d_Mod_isClause_35 ?_
      refine r_getf (v := .int (nI s.ax)) gf_Mod_147 0 rfl rfl 39 rfl d_Mod_isClause_36 ?_
      refine r_iald (f := (fun x => nI (tx x))) 6 rfl s.ax rfl (by omega) (by omega) 40 rfl d_Mod_isClause_39 ?_
      refine r_bipush (nI 108) rfl 42 rfl d_Mod_isClause_40 ?_
      refine r_icmp_neN (tx s.ax) 108 (Nat.lt_trans (hct _) (by decide)) (by omega) 45 49 rfl rfl d_Mod_isClause_42 (fun h42 => ?_) (fun h42 => ?_)
      · refine r_aload_n rfl 50 rfl d_Mod_isClause_49 ?_
        refine r_getf (v := .ref (a 8)) gf_Mod_27 0 rfl rfl 53 rfl d_Mod_isClause_50 ?_
        refine r_aload_n rfl 54 rfl d_Mod_isClause_53 ?_
        refine r_getf (v := .int (nI s.ax)) gf_Mod_147 0 rfl rfl 57 rfl d_Mod_isClause_54 ?_
        refine r_iald (f := (fun x => nI (tx x))) 6 rfl s.ax rfl (by omega) (by omega) 58 rfl d_Mod_isClause_57 ?_
        refine r_bipush (nI 98) rfl 60 rfl d_Mod_isClause_58 ?_
        refine r_icmp_neN (tx s.ax) 98 (Nat.lt_trans (hct _) (by decide)) (by omega) 63 67 rfl rfl d_Mod_isClause_60 (fun h60 => ?_) (fun h60 => ?_)
        · refine r_iconst ((-1)) rfl 68 rfl d_Mod_isClause_67 ?_
          refine r_istore_n (ls2 := [some (.ref (a 0)), some (.int (nI i)), some (.int (-1)), none]) 69 rfl d_Mod_isClause_68 (by decide) rfl rfl ?_
          refine r_iload_n rfl 70 rfl d_Mod_isClause_69 ?_
          refine r_if_ne_t 82 rfl d_Mod_isClause_70 (by decide) ?_
          refine r_iload_n rfl 83 rfl d_Mod_isClause_82 ?_
          refine r_iconst (nI 1) rfl 84 rfl d_Mod_isClause_83 ?_
          refine r_icmp_ne_t 96 rfl d_Mod_isClause_84 (by decide) ?_
          refine r_iload_n rfl 97 rfl d_Mod_isClause_96 ?_
          refine r_iconst (nI 2) rfl 98 rfl d_Mod_isClause_97 ?_
          refine r_icmp_ne_t 114 rfl d_Mod_isClause_98 (by decide) ?_
          refine r_iconst (nI 0) rfl 115 rfl d_Mod_isClause_114 ?_
          refine r_istore_n (ls2 := [some (.ref (a 0)), some (.int (nI i)), some (.int (-1)), some (.int (nI 0))]) 116 rfl d_Mod_isClause_115 (by decide) rfl rfl ?_
          refine r_iload_n rfl 117 rfl d_Mod_isClause_116 ?_
          refine r_if_eqN_t 0 (by omega) 127 rfl d_Mod_isClause_117 (by decide) ?_
          refine r_iconst (nI 0) rfl 128 rfl d_Mod_isClause_127 ?_
          exact r_zret rfl (rfl) (Nat.zero_le _) (Nat.zero_le _) d_Mod_isClause_128 (by rw [← hQ]; exact clR (σ 16) (σ 17) (σ 18) (σ 19) (b := false) (by have hK : tKd (ν 7) tx s = 3 := (by unfold tKd; rw [if_pos h10, if_neg h24, if_neg h42, if_neg h60]); unfold tCl; rw [hK, if_neg (by decide)]) rfl (u4_self σ) (fun _ _ => ⟨rfl, rfl, rfl, rfl⟩) (fun z => by cases z))
        · refine r_iconst (nI 2) rfl 64 rfl d_Mod_isClause_63 ?_
          refine r_goto 68 rfl d_Mod_isClause_64 ?_
          refine r_istore_n (ls2 := [some (.ref (a 0)), some (.int (nI i)), some (.int (nI 2)), none]) 69 rfl d_Mod_isClause_68 (by decide) rfl rfl ?_
          refine r_iload_n rfl 70 rfl d_Mod_isClause_69 ?_
          refine r_if_neN_t 2 (by omega) 82 rfl d_Mod_isClause_70 (by decide) ?_
          refine r_iload_n rfl 83 rfl d_Mod_isClause_82 ?_
          refine r_iconst (nI 1) rfl 84 rfl d_Mod_isClause_83 ?_
          refine r_icmp_neN_t 2 1 (by omega) (by omega) 96 rfl d_Mod_isClause_84 (by decide) ?_
          refine r_iload_n rfl 97 rfl d_Mod_isClause_96 ?_
          refine r_iconst (nI 2) rfl 98 rfl d_Mod_isClause_97 ?_
          refine r_icmp_neN_f 2 2 (by omega) (by omega) 101 rfl 114 rfl d_Mod_isClause_98 (by decide) ?_
          refine r_aload_n rfl 102 rfl d_Mod_isClause_101 ?_
          refine r_ldcS 5 (by decide) rfl rfl 104 rfl d_Mod_isClause_102 ?_
          refine r_callVA1 (st2 := [.int (bI ((tAll (ν 7) tx (litC 5) s).1))]) (w2 := MT X a ν σ τ tx ((tAll (ν 7) tx (litC 5) s).2)) lk_Mod_isAll ln_Mod_208 (c_Mod_isAll X a ν σ τ tx ht hct 5 (by decide) s (by first | assumption | omega)) (by first | decide | omega) rfl rfl (Nat.le_of_ble_eq_true rfl) (Nat.le_of_ble_eq_true rfl) (Nat.le_of_ble_eq_true rfl) 0 rfl rfl rfl rfl 107 rfl d_Mod_isClause_104 ?_
          refine r_if_eqB 110 114 rfl rfl d_Mod_isClause_107 (fun h107 => ?_) (fun h107 => ?_)
          · refine r_iconst (nI 0) rfl 115 rfl d_Mod_isClause_114 ?_
            refine r_istore_n (ls2 := [some (.ref (a 0)), some (.int (nI i)), some (.int (nI 2)), some (.int (nI 0))]) 116 rfl d_Mod_isClause_115 (by decide) rfl rfl ?_
            refine r_iload_n rfl 117 rfl d_Mod_isClause_116 ?_
            refine r_if_eqN_t 0 (by omega) 127 rfl d_Mod_isClause_117 (by decide) ?_
            refine r_iconst (nI 0) rfl 128 rfl d_Mod_isClause_127 ?_
            exact r_zret rfl (rfl) (Nat.zero_le _) (Nat.zero_le _) d_Mod_isClause_128 (by rw [← hQ]; exact clR (σ 16) (σ 17) (σ 18) (σ 19) (b := false) (by have hK : tKd (ν 7) tx s = 2 := (by unfold tKd; rw [if_pos h10, if_neg h24, if_neg h42, if_pos h60]); unfold tCl; rw [hK, if_pos (by decide)]; unfold tCk; rw [if_neg (by rw [h107]; decide)]) rfl (u4_self σ) (fun _ _ => ⟨rfl, rfl, rfl, rfl⟩) (fun z => by cases z))
          · refine r_iconst (nI 1) rfl 111 rfl d_Mod_isClause_110 ?_
            refine r_goto 115 rfl d_Mod_isClause_111 ?_
            refine r_istore_n (ls2 := [some (.ref (a 0)), some (.int (nI i)), some (.int (nI 2)), some (.int (nI 1))]) 116 rfl d_Mod_isClause_115 (by decide) rfl rfl ?_
            refine r_iload_n rfl 117 rfl d_Mod_isClause_116 ?_
            refine r_if_eqN_f 1 (by omega) 120 rfl 127 rfl d_Mod_isClause_117 (by decide) ?_
            refine r_aload_n rfl 121 rfl d_Mod_isClause_120 ?_
            have ag := tAll_g (n := ν 7) (tx := tx) (litC 5) s hax
            have a1 := ag.1.1
            have a2 := ag.1.2.1 hax
            have a3 := ag.2.1
            have ng := tNum_g (n := ν 7) (tx := tx) (tAll (ν 7) tx (litC 5) s).2
            have n1 := ng.1.1
            have n2 := ng.1.2.1 a2
            have n3 := ng.2.1
            refine r_callVA1 (st2 := [.int (bI ((tNum (ν 7) tx ((tAll (ν 7) tx (litC 5) s).2)).1))]) (w2 := MT X a ν σ τ tx ((tNum (ν 7) tx ((tAll (ν 7) tx (litC 5) s).2)).2)) lk_Mod_isNumber ln_Mod_182 (c_Mod_isNumber X a ν σ τ tx ht hct ((tAll (ν 7) tx (litC 5) s).2) (by first | assumption | omega)) (by first | decide | omega) rfl rfl (Nat.le_of_ble_eq_true rfl) (Nat.le_of_ble_eq_true rfl) (Nat.le_of_ble_eq_true rfl) 0 rfl rfl rfl rfl 124 rfl d_Mod_isClause_121 ?_
            refine r_if_neB 127 129 rfl rfl d_Mod_isClause_124 (fun h124 => ?_) (fun h124 => ?_)
            · refine r_aload_n rfl 130 rfl d_Mod_isClause_129 ?_
              refine r_getf (v := .ref (a 16)) gf_Mod_33 0 rfl rfl 133 rfl d_Mod_isClause_130 ?_
              refine r_iload_n rfl 134 rfl d_Mod_isClause_133 ?_
              refine r_iload_n rfl 135 rfl d_Mod_isClause_134 ?_
              refine r_iast (w2 := MT X a ν (u2 σ 16 (upd (σ 16) i (nI 2))) τ tx ((tNum (ν 7) tx ((tAll (ν 7) tx (litC 5) s).2)).2)) 8 rfl i rfl (by omega) (by omega) rfl 136 rfl d_Mod_isClause_135 ?_
              refine r_aload_n rfl 137 rfl d_Mod_isClause_136 ?_
              refine r_getf (v := .ref (a 17)) gf_Mod_36 0 rfl rfl 140 rfl d_Mod_isClause_137 ?_
              refine r_iload_n rfl 141 rfl d_Mod_isClause_140 ?_
              refine r_aload_n rfl 142 rfl d_Mod_isClause_141 ?_
              refine r_getf (v := .int (nI (((tNum (ν 7) tx ((tAll (ν 7) tx (litC 5) s).2)).2).vl))) gf_Mod_150 0 rfl rfl 145 rfl d_Mod_isClause_142 ?_
              refine r_iast (w2 := MT X a ν (u2 (u2 σ 16 (upd (σ 16) i (nI 2))) 17 (upd (σ 17) i (nI (((tNum (ν 7) tx ((tAll (ν 7) tx (litC 5) s).2)).2).vl)))) τ tx ((tNum (ν 7) tx ((tAll (ν 7) tx (litC 5) s).2)).2)) 9 rfl i rfl (by omega) (by omega) rfl 146 rfl d_Mod_isClause_145 ?_
              refine r_aload_n rfl 147 rfl d_Mod_isClause_146 ?_
              refine r_getf (v := .ref (a 18)) gf_Mod_39 0 rfl rfl 150 rfl d_Mod_isClause_147 ?_
              refine r_iload_n rfl 151 rfl d_Mod_isClause_150 ?_
              refine r_aload_n rfl 152 rfl d_Mod_isClause_151 ?_
              refine r_getf (v := .int (nI (((tNum (ν 7) tx ((tAll (ν 7) tx (litC 5) s).2)).2).cd))) gf_Mod_172 0 rfl rfl 155 rfl d_Mod_isClause_152 ?_
              refine r_iast (w2 := MT X a ν (u2 (u2 (u2 σ 16 (upd (σ 16) i (nI 2))) 17 (upd (σ 17) i (nI (((tNum (ν 7) tx ((tAll (ν 7) tx (litC 5) s).2)).2).vl)))) 18 (upd (σ 18) i (nI (((tNum (ν 7) tx ((tAll (ν 7) tx (litC 5) s).2)).2).cd)))) τ tx ((tNum (ν 7) tx ((tAll (ν 7) tx (litC 5) s).2)).2)) 10 rfl i rfl (by omega) (by omega) rfl 156 rfl d_Mod_isClause_155 ?_
              refine r_aload_n rfl 157 rfl d_Mod_isClause_156 ?_
              refine r_iconst (nI 0) rfl 158 rfl d_Mod_isClause_157 ?_
              refine r_putf (w2 := MT X a ν (u2 (u2 (u2 σ 16 (upd (σ 16) i (nI 2))) 17 (upd (σ 17) i (nI (((tNum (ν 7) tx ((tAll (ν 7) tx (litC 5) s).2)).2).vl)))) 18 (upd (σ 18) i (nI (((tNum (ν 7) tx ((tAll (ν 7) tx (litC 5) s).2)).2).cd)))) τ tx (TSm (((tNum (ν 7) tx ((tAll (ν 7) tx (litC 5) s).2)).2).ax) (((tNum (ν 7) tx ((tAll (ν 7) tx (litC 5) s).2)).2).dg) 0 (((tNum (ν 7) tx ((tAll (ν 7) tx (litC 5) s).2)).2).cd) (((tNum (ν 7) tx ((tAll (ν 7) tx (litC 5) s).2)).2).vl) (((tNum (ν 7) tx ((tAll (ν 7) tx (litC 5) s).2)).2).c))) pf_Mod_188 0 rfl (rfl) rfl (Nat.le_of_ble_eq_true rfl) rfl 161 rfl d_Mod_isClause_158 ?_
              refine r_iload_n rfl 162 rfl d_Mod_isClause_161 ?_
              refine r_iconst (nI 2) rfl 163 rfl d_Mod_isClause_162 ?_
              refine r_icmp_geN_t 2 2 (by omega) (by omega) 184 rfl d_Mod_isClause_163 (by decide) ?_
              show Runs X 23 M_Mod_isClause 0 0 Q 184 [some (.ref (a 0)), some (.int (nI i)), some (.int (nI 2)), some (.int (nI 1))] [] 0 0 (MT X a ν (u2 (u2 (u2 σ 16 (upd (σ 16) i (nI 2))) 17 (upd (σ 17) i (nI (((tNum (ν 7) tx ((tAll (ν 7) tx (litC 5) s).2)).2).vl)))) 18 (upd (σ 18) i (nI (((tNum (ν 7) tx ((tAll (ν 7) tx (litC 5) s).2)).2).cd)))) τ tx (tO (tNum (ν 7) tx (tAll (ν 7) tx (litC 5) s).2).2))
              refine r_aload_n rfl 185 rfl d_Mod_isClause_184 ?_
              refine r_getf (v := .ref (a 19)) gf_Mod_42 0 rfl rfl 188 rfl d_Mod_isClause_185 ?_
              refine r_iload_n rfl 189 rfl d_Mod_isClause_188 ?_
              refine r_aload_n rfl 190 rfl d_Mod_isClause_189 ?_
              refine r_getf (v := .int (nI ((tO (tNum (ν 7) tx (tAll (ν 7) tx (litC 5) s).2).2).cd))) gf_Mod_172 0 rfl rfl 193 rfl d_Mod_isClause_190 ?_
              refine r_aload_n rfl 194 rfl d_Mod_isClause_193 ?_
              refine r_getf (v := .ref (a 18)) gf_Mod_39 0 rfl rfl 197 rfl d_Mod_isClause_194 ?_
              refine r_iload_n rfl 198 rfl d_Mod_isClause_197 ?_
              refine r_iald (f := upd (σ 18) i (nI (((tNum (ν 7) tx ((tAll (ν 7) tx (litC 5) s).2)).2).cd))) 10 rfl i rfl (by omega) (by omega) 199 rfl d_Mod_isClause_198 ?_
              refine r_topi (nI (tNum (ν 7) tx (tAll (ν 7) tx (litC 5) s).2).2.cd) pk_us ?_
              refine r_isub 200 rfl d_Mod_isClause_199 ?_
              refine r_topi (nI ((tO (tNum (ν 7) tx (tAll (ν 7) tx (litC 5) s).2).2).cd - (tNum (ν 7) tx (tAll (ν 7) tx (litC 5) s).2).2.cd)) (nI_sub (Nat.le_refl _)) ?_
              refine r_iast (w2 := MT X a ν (u2 (u2 (u2 (u2 σ 16 (upd (σ 16) i (nI 2))) 17 (upd (σ 17) i (nI (((tNum (ν 7) tx ((tAll (ν 7) tx (litC 5) s).2)).2).vl)))) 18 (upd (σ 18) i (nI (((tNum (ν 7) tx ((tAll (ν 7) tx (litC 5) s).2)).2).cd)))) 19 (upd (σ 19) i (nI ((tO (tNum (ν 7) tx (tAll (ν 7) tx (litC 5) s).2).2).cd - (tNum (ν 7) tx (tAll (ν 7) tx (litC 5) s).2).2.cd)))) τ tx (tO (tNum (ν 7) tx (tAll (ν 7) tx (litC 5) s).2).2)) 11 rfl i rfl (by omega) (by omega) rfl 201 rfl d_Mod_isClause_200 ?_
              refine r_iconst (nI 1) rfl 202 rfl d_Mod_isClause_201 ?_
              exact r_zret rfl (rfl) (Nat.zero_le _) (Nat.zero_le _) d_Mod_isClause_202 (by rw [← hQ]; exact clR (upd (σ 16) i (nI 2)) (upd (σ 17) i (nI (tNum (ν 7) tx (tAll (ν 7) tx (litC 5) s).2).2.vl)) (upd (σ 18) i (nI (tNum (ν 7) tx (tAll (ν 7) tx (litC 5) s).2).2.cd)) (upd (σ 19) i (nI ((tO (tNum (ν 7) tx (tAll (ν 7) tx (litC 5) s).2).2).cd - (tNum (ν 7) tx (tAll (ν 7) tx (litC 5) s).2).2.cd))) (b := true) (by have hK : tKd (ν 7) tx s = 2 := (by unfold tKd; rw [if_pos h10, if_neg h24, if_neg h42, if_pos h60]); unfold tCl; rw [hK, if_pos (by decide)]; unfold tCk; rw [if_pos h107, if_pos h124, if_neg (by decide)]) rfl rfl (clo4 _ _ _ _) (fun _ => ⟨by have hK : tKd (ν 7) tx s = 2 := (by unfold tKd; rw [if_pos h10, if_neg h24, if_neg h42, if_pos h60]); rw [hK]; exact pk_us, by have hK : tKd (ν 7) tx s = 2 := (by unfold tKd; rw [if_pos h10, if_neg h24, if_neg h42, if_pos h60]); rw [hK]; exact pk_us, pk_us.trans (congrArg nI (n3.trans a3)), pk_us.trans (by rw [n3.trans a3])⟩))
            · refine r_iconst (nI 0) rfl 128 rfl d_Mod_isClause_127 ?_
              exact r_zret rfl (rfl) (Nat.zero_le _) (Nat.zero_le _) d_Mod_isClause_128 (by rw [← hQ]; exact clR (σ 16) (σ 17) (σ 18) (σ 19) (b := false) (by have hK : tKd (ν 7) tx s = 2 := (by unfold tKd; rw [if_pos h10, if_neg h24, if_neg h42, if_pos h60]); unfold tCl; rw [hK, if_pos (by decide)]; unfold tCk; rw [if_pos h107, if_neg (by rw [h124]; decide)]) rfl (u4_self σ) (fun _ _ => ⟨rfl, rfl, rfl, rfl⟩) (fun z => by cases z))
      · refine r_iconst (nI 1) rfl 46 rfl d_Mod_isClause_45 ?_
        refine r_goto 68 rfl d_Mod_isClause_46 ?_
        refine r_istore_n (ls2 := [some (.ref (a 0)), some (.int (nI i)), some (.int (nI 1)), none]) 69 rfl d_Mod_isClause_68 (by decide) rfl rfl ?_
        refine r_iload_n rfl 70 rfl d_Mod_isClause_69 ?_
        refine r_if_neN_t 1 (by omega) 82 rfl d_Mod_isClause_70 (by decide) ?_
        refine r_iload_n rfl 83 rfl d_Mod_isClause_82 ?_
        refine r_iconst (nI 1) rfl 84 rfl d_Mod_isClause_83 ?_
        refine r_icmp_neN_f 1 1 (by omega) (by omega) 87 rfl 96 rfl d_Mod_isClause_84 (by decide) ?_
        refine r_aload_n rfl 88 rfl d_Mod_isClause_87 ?_
        refine r_ldcS 4 (by decide) rfl rfl 90 rfl d_Mod_isClause_88 ?_
        refine r_callVA1 (st2 := [.int (bI ((tAll (ν 7) tx (litC 4) s).1))]) (w2 := MT X a ν σ τ tx ((tAll (ν 7) tx (litC 4) s).2)) lk_Mod_isAll ln_Mod_208 (c_Mod_isAll X a ν σ τ tx ht hct 4 (by decide) s (by first | assumption | omega)) (by first | decide | omega) rfl rfl (Nat.le_of_ble_eq_true rfl) (Nat.le_of_ble_eq_true rfl) (Nat.le_of_ble_eq_true rfl) 0 rfl rfl rfl rfl 93 rfl d_Mod_isClause_90 ?_
        refine r_goto 115 rfl d_Mod_isClause_93 ?_
        refine r_istore_n (ls2 := [some (.ref (a 0)), some (.int (nI i)), some (.int (nI 1)), some (.int (bI ((tAll (ν 7) tx (litC 4) s).1)))]) 116 rfl d_Mod_isClause_115 (by decide) rfl rfl ?_
        refine r_iload_n rfl 117 rfl d_Mod_isClause_116 ?_
        refine r_if_eqB 120 127 rfl rfl d_Mod_isClause_117 (fun h117 => ?_) (fun h117 => ?_)
        · refine r_iconst (nI 0) rfl 128 rfl d_Mod_isClause_127 ?_
          exact r_zret rfl (rfl) (Nat.zero_le _) (Nat.zero_le _) d_Mod_isClause_128 (by rw [← hQ]; exact clR (σ 16) (σ 17) (σ 18) (σ 19) (b := false) (by have hK : tKd (ν 7) tx s = 1 := (by unfold tKd; rw [if_pos h10, if_neg h24, if_pos h42]); unfold tCl; rw [hK, if_pos (by decide)]; unfold tCk; rw [if_neg (by rw [h117]; decide)]) rfl (u4_self σ) (fun _ _ => ⟨rfl, rfl, rfl, rfl⟩) (fun z => by cases z))
        · refine r_aload_n rfl 121 rfl d_Mod_isClause_120 ?_
          have ag := tAll_g (n := ν 7) (tx := tx) (litC 4) s hax
          have a1 := ag.1.1
          have a2 := ag.1.2.1 hax
          have a3 := ag.2.1
          have ng := tNum_g (n := ν 7) (tx := tx) (tAll (ν 7) tx (litC 4) s).2
          have n1 := ng.1.1
          have n2 := ng.1.2.1 a2
          have n3 := ng.2.1
          refine r_callVA1 (st2 := [.int (bI ((tNum (ν 7) tx ((tAll (ν 7) tx (litC 4) s).2)).1))]) (w2 := MT X a ν σ τ tx ((tNum (ν 7) tx ((tAll (ν 7) tx (litC 4) s).2)).2)) lk_Mod_isNumber ln_Mod_182 (c_Mod_isNumber X a ν σ τ tx ht hct ((tAll (ν 7) tx (litC 4) s).2) (by first | assumption | omega)) (by first | decide | omega) rfl rfl (Nat.le_of_ble_eq_true rfl) (Nat.le_of_ble_eq_true rfl) (Nat.le_of_ble_eq_true rfl) 0 rfl rfl rfl rfl 124 rfl d_Mod_isClause_121 ?_
          refine r_if_neB 127 129 rfl rfl d_Mod_isClause_124 (fun h124 => ?_) (fun h124 => ?_)
          · refine r_aload_n rfl 130 rfl d_Mod_isClause_129 ?_
            refine r_getf (v := .ref (a 16)) gf_Mod_33 0 rfl rfl 133 rfl d_Mod_isClause_130 ?_
            refine r_iload_n rfl 134 rfl d_Mod_isClause_133 ?_
            refine r_iload_n rfl 135 rfl d_Mod_isClause_134 ?_
            refine r_iast (w2 := MT X a ν (u2 σ 16 (upd (σ 16) i (nI 1))) τ tx ((tNum (ν 7) tx ((tAll (ν 7) tx (litC 4) s).2)).2)) 8 rfl i rfl (by omega) (by omega) rfl 136 rfl d_Mod_isClause_135 ?_
            refine r_aload_n rfl 137 rfl d_Mod_isClause_136 ?_
            refine r_getf (v := .ref (a 17)) gf_Mod_36 0 rfl rfl 140 rfl d_Mod_isClause_137 ?_
            refine r_iload_n rfl 141 rfl d_Mod_isClause_140 ?_
            refine r_aload_n rfl 142 rfl d_Mod_isClause_141 ?_
            refine r_getf (v := .int (nI (((tNum (ν 7) tx ((tAll (ν 7) tx (litC 4) s).2)).2).vl))) gf_Mod_150 0 rfl rfl 145 rfl d_Mod_isClause_142 ?_
            refine r_iast (w2 := MT X a ν (u2 (u2 σ 16 (upd (σ 16) i (nI 1))) 17 (upd (σ 17) i (nI (((tNum (ν 7) tx ((tAll (ν 7) tx (litC 4) s).2)).2).vl)))) τ tx ((tNum (ν 7) tx ((tAll (ν 7) tx (litC 4) s).2)).2)) 9 rfl i rfl (by omega) (by omega) rfl 146 rfl d_Mod_isClause_145 ?_
            refine r_aload_n rfl 147 rfl d_Mod_isClause_146 ?_
            refine r_getf (v := .ref (a 18)) gf_Mod_39 0 rfl rfl 150 rfl d_Mod_isClause_147 ?_
            refine r_iload_n rfl 151 rfl d_Mod_isClause_150 ?_
            refine r_aload_n rfl 152 rfl d_Mod_isClause_151 ?_
            refine r_getf (v := .int (nI (((tNum (ν 7) tx ((tAll (ν 7) tx (litC 4) s).2)).2).cd))) gf_Mod_172 0 rfl rfl 155 rfl d_Mod_isClause_152 ?_
            refine r_iast (w2 := MT X a ν (u2 (u2 (u2 σ 16 (upd (σ 16) i (nI 1))) 17 (upd (σ 17) i (nI (((tNum (ν 7) tx ((tAll (ν 7) tx (litC 4) s).2)).2).vl)))) 18 (upd (σ 18) i (nI (((tNum (ν 7) tx ((tAll (ν 7) tx (litC 4) s).2)).2).cd)))) τ tx ((tNum (ν 7) tx ((tAll (ν 7) tx (litC 4) s).2)).2)) 10 rfl i rfl (by omega) (by omega) rfl 156 rfl d_Mod_isClause_155 ?_
            refine r_aload_n rfl 157 rfl d_Mod_isClause_156 ?_
            refine r_iconst (nI 0) rfl 158 rfl d_Mod_isClause_157 ?_
            refine r_putf (w2 := MT X a ν (u2 (u2 (u2 σ 16 (upd (σ 16) i (nI 1))) 17 (upd (σ 17) i (nI (((tNum (ν 7) tx ((tAll (ν 7) tx (litC 4) s).2)).2).vl)))) 18 (upd (σ 18) i (nI (((tNum (ν 7) tx ((tAll (ν 7) tx (litC 4) s).2)).2).cd)))) τ tx (TSm (((tNum (ν 7) tx ((tAll (ν 7) tx (litC 4) s).2)).2).ax) (((tNum (ν 7) tx ((tAll (ν 7) tx (litC 4) s).2)).2).dg) 0 (((tNum (ν 7) tx ((tAll (ν 7) tx (litC 4) s).2)).2).cd) (((tNum (ν 7) tx ((tAll (ν 7) tx (litC 4) s).2)).2).vl) (((tNum (ν 7) tx ((tAll (ν 7) tx (litC 4) s).2)).2).c))) pf_Mod_188 0 rfl (rfl) rfl (Nat.le_of_ble_eq_true rfl) rfl 161 rfl d_Mod_isClause_158 ?_
            refine r_iload_n rfl 162 rfl d_Mod_isClause_161 ?_
            refine r_iconst (nI 2) rfl 163 rfl d_Mod_isClause_162 ?_
            refine r_icmp_geN_f 1 2 (by omega) (by omega) 166 rfl 184 rfl d_Mod_isClause_163 (by decide) ?_
            show Runs X 23 M_Mod_isClause 0 0 Q 166 [some (.ref (a 0)), some (.int (nI i)), some (.int (nI 1)), some (.int (bI ((tAll (ν 7) tx (litC 4) s).1)))] [] 0 0 (MT X a ν (u2 (u2 (u2 σ 16 (upd (σ 16) i (nI 1))) 17 (upd (σ 17) i (nI (((tNum (ν 7) tx ((tAll (ν 7) tx (litC 4) s).2)).2).vl)))) 18 (upd (σ 18) i (nI (((tNum (ν 7) tx ((tAll (ν 7) tx (litC 4) s).2)).2).cd)))) τ tx (tO (tNum (ν 7) tx (tAll (ν 7) tx (litC 4) s).2).2))
            refine r_aload_n rfl 167 rfl d_Mod_isClause_166 ?_
            refine r_bipush (nI 32) rfl 169 rfl d_Mod_isClause_167 ?_
            refine r_callVA1 (st2 := [.int (bI ((tIs (ν 7) tx 32 (tO (tNum (ν 7) tx (tAll (ν 7) tx (litC 4) s).2).2)).1))]) (w2 := MT X a ν (u2 (u2 (u2 σ 16 (upd (σ 16) i (nI 1))) 17 (upd (σ 17) i (nI (((tNum (ν 7) tx ((tAll (ν 7) tx (litC 4) s).2)).2).vl)))) 18 (upd (σ 18) i (nI (((tNum (ν 7) tx ((tAll (ν 7) tx (litC 4) s).2)).2).cd)))) τ tx ((tIs (ν 7) tx 32 (tO (tNum (ν 7) tx (tAll (ν 7) tx (litC 4) s).2).2)).2)) lk_Mod_is ln_Mod_169 (c_Mod_is X a ν (u2 (u2 (u2 σ 16 (upd (σ 16) i (nI 1))) 17 (upd (σ 17) i (nI (((tNum (ν 7) tx ((tAll (ν 7) tx (litC 4) s).2)).2).vl)))) 18 (upd (σ 18) i (nI (((tNum (ν 7) tx ((tAll (ν 7) tx (litC 4) s).2)).2).cd)))) τ tx ht hct 32 (by omega) (tO (tNum (ν 7) tx (tAll (ν 7) tx (litC 4) s).2).2) (by first | assumption | omega)) (by first | decide | omega) rfl rfl (Nat.le_of_ble_eq_true rfl) (Nat.le_of_ble_eq_true rfl) (Nat.le_of_ble_eq_true rfl) 0 rfl rfl rfl rfl 172 rfl d_Mod_isClause_169 ?_
            refine r_if_eqB 175 182 rfl rfl d_Mod_isClause_172 (fun h172 => ?_) (fun h172 => ?_)
            · refine r_iconst (nI 0) rfl 183 rfl d_Mod_isClause_182 ?_
              exact r_zret rfl (rfl) (Nat.zero_le _) (Nat.zero_le _) d_Mod_isClause_183 (by rw [← hQ]; exact clR (upd (σ 16) i (nI 1)) (upd (σ 17) i (nI (tNum (ν 7) tx (tAll (ν 7) tx (litC 4) s).2).2.vl)) (upd (σ 18) i (nI (tNum (ν 7) tx (tAll (ν 7) tx (litC 4) s).2).2.cd)) (σ 19) (b := false) (by have hK : tKd (ν 7) tx s = 1 := (by unfold tKd; rw [if_pos h10, if_neg h24, if_pos h42]); unfold tCl; rw [hK, if_pos (by decide)]; unfold tCk; rw [if_pos h117, if_pos h124, if_pos (by decide), if_neg (by rw [h172]; decide)]) rfl (u4_3 σ _ _ _) (clo3 _ _ _) (fun z => by cases z))
            · have it : (tIs (ν 7) tx 32 (tO (tNum (ν 7) tx (tAll (ν 7) tx (litC 4) s).2).2)).2 = TSm ((tNum (ν 7) tx (tAll (ν 7) tx (litC 4) s).2).2.ax + 1) (tNum (ν 7) tx (tAll (ν 7) tx (litC 4) s).2).2.dg 0 (tNum (ν 7) tx (tAll (ν 7) tx (litC 4) s).2).2.cd (tNum (ν 7) tx (tAll (ν 7) tx (litC 4) s).2).2.vl (tNum (ν 7) tx (tAll (ν 7) tx (litC 4) s).2).2.c := (tIs_t h172).1
              have i1 : (tIs (ν 7) tx 32 (tO (tNum (ν 7) tx (tAll (ν 7) tx (litC 4) s).2).2)).2.ax = (tNum (ν 7) tx (tAll (ν 7) tx (litC 4) s).2).2.ax + 1 := by rw [it]; rfl
              have i2 : (tIs (ν 7) tx 32 (tO (tNum (ν 7) tx (tAll (ν 7) tx (litC 4) s).2).2)).2.cd = (tNum (ν 7) tx (tAll (ν 7) tx (litC 4) s).2).2.cd := by rw [it]; rfl
              have i3 : (tIs (ν 7) tx 32 (tO (tNum (ν 7) tx (tAll (ν 7) tx (litC 4) s).2).2)).2.op + 4 = 4 := by rw [it]; rfl
              have i4 : (tNum (ν 7) tx (tAll (ν 7) tx (litC 4) s).2).2.ax ≠ ν 7 := (tIs_t h172).2.1
              have xg := tEx_g (n := ν 7) (tx := tx) (tIs (ν 7) tx 32 (tO (tNum (ν 7) tx (tAll (ν 7) tx (litC 4) s).2).2)).2 (by omega)
              have x3 := xg.2.2.1
              have x1 := xg.1
              have x2 := xg.2.1 (by omega)
              have xm := (tEx_a (n := ν 7) (tx := tx) (tIs (ν 7) tx 32 (tO (tNum (ν 7) tx (tAll (ν 7) tx (litC 4) s).2).2)).2 (by omega) (by omega)).2.2.1
              refine r_aload_n rfl 176 rfl d_Mod_isClause_175 ?_
              refine r_callVA1 (st2 := [.int (bI ((tEx (ν 7) tx ((tIs (ν 7) tx 32 (tO (tNum (ν 7) tx (tAll (ν 7) tx (litC 4) s).2).2)).2)).1))]) (w2 := MT X a ν (u2 (u2 (u2 σ 16 (upd (σ 16) i (nI 1))) 17 (upd (σ 17) i (nI (((tNum (ν 7) tx ((tAll (ν 7) tx (litC 4) s).2)).2).vl)))) 18 (upd (σ 18) i (nI (((tNum (ν 7) tx ((tAll (ν 7) tx (litC 4) s).2)).2).cd)))) τ tx ((tEx (ν 7) tx ((tIs (ν 7) tx 32 (tO (tNum (ν 7) tx (tAll (ν 7) tx (litC 4) s).2).2)).2)).2)) lk_Mod_isE ln_Mod_197 (c_Mod_isE X a ν (u2 (u2 (u2 σ 16 (upd (σ 16) i (nI 1))) 17 (upd (σ 17) i (nI (((tNum (ν 7) tx ((tAll (ν 7) tx (litC 4) s).2)).2).vl)))) 18 (upd (σ 18) i (nI (((tNum (ν 7) tx ((tAll (ν 7) tx (litC 4) s).2)).2).cd)))) τ tx ht hct (tRow (ν 7) tx (tF (ν 7) tx 4) 38 1) 4 21 (by omega) (fun r h1 h2 h3 => c_Mod_isT X a ν (u2 (u2 (u2 σ 16 (upd (σ 16) i (nI 1))) 17 (upd (σ 17) i (nI (((tNum (ν 7) tx ((tAll (ν 7) tx (litC 4) s).2)).2).vl)))) 18 (upd (σ 18) i (nI (((tNum (ν 7) tx ((tAll (ν 7) tx (litC 4) s).2)).2).cd)))) τ tx ht hct (tF (ν 7) tx 4) 4 20 (by omega) (fun r h1 h2 h3 => c_Mod_isF X a ν (u2 (u2 (u2 σ 16 (upd (σ 16) i (nI 1))) 17 (upd (σ 17) i (nI (((tNum (ν 7) tx ((tAll (ν 7) tx (litC 4) s).2)).2).vl)))) 18 (upd (σ 18) i (nI (((tNum (ν 7) tx ((tAll (ν 7) tx (litC 4) s).2)).2).cd)))) τ tx ht hct 4 r h1 h2 h3) (fun s hs => tF_g 4 s hs) r h1 h2 h3) (fun s hs => tRow_g (fun s hs => tF_g 4 s hs) s hs) ((tIs (ν 7) tx 32 (tO (tNum (ν 7) tx (tAll (ν 7) tx (litC 4) s).2).2)).2) (by first | assumption | omega) (by first | assumption | omega) (by first | assumption | omega)) (by first | decide | omega) rfl rfl (Nat.le_of_ble_eq_true rfl) (Nat.le_of_ble_eq_true rfl) (Nat.le_of_ble_eq_true rfl) 0 rfl rfl rfl rfl 179 rfl d_Mod_isClause_176 ?_
              refine r_if_neB 182 184 rfl rfl d_Mod_isClause_179 (fun h179 => ?_) (fun h179 => ?_)
              · refine r_aload_n rfl 185 rfl d_Mod_isClause_184 ?_
                refine r_getf (v := .ref (a 19)) gf_Mod_42 0 rfl rfl 188 rfl d_Mod_isClause_185 ?_
                refine r_iload_n rfl 189 rfl d_Mod_isClause_188 ?_
                refine r_aload_n rfl 190 rfl d_Mod_isClause_189 ?_
                refine r_getf (v := .int (nI (((tEx (ν 7) tx ((tIs (ν 7) tx 32 (tO (tNum (ν 7) tx (tAll (ν 7) tx (litC 4) s).2).2)).2)).2).cd))) gf_Mod_172 0 rfl rfl 193 rfl d_Mod_isClause_190 ?_
                refine r_aload_n rfl 194 rfl d_Mod_isClause_193 ?_
                refine r_getf (v := .ref (a 18)) gf_Mod_39 0 rfl rfl 197 rfl d_Mod_isClause_194 ?_
                refine r_iload_n rfl 198 rfl d_Mod_isClause_197 ?_
                refine r_iald (f := upd (σ 18) i (nI (((tNum (ν 7) tx ((tAll (ν 7) tx (litC 4) s).2)).2).cd))) 10 rfl i rfl (by omega) (by omega) 199 rfl d_Mod_isClause_198 ?_
                refine r_topi (nI (tNum (ν 7) tx (tAll (ν 7) tx (litC 4) s).2).2.cd) pk_us ?_
                refine r_isub 200 rfl d_Mod_isClause_199 ?_
                refine r_topi (nI (((tEx (ν 7) tx ((tIs (ν 7) tx 32 (tO (tNum (ν 7) tx (tAll (ν 7) tx (litC 4) s).2).2)).2)).2).cd - (tNum (ν 7) tx (tAll (ν 7) tx (litC 4) s).2).2.cd)) (nI_sub (by omega)) ?_
                refine r_iast (w2 := MT X a ν (u2 (u2 (u2 (u2 σ 16 (upd (σ 16) i (nI 1))) 17 (upd (σ 17) i (nI (((tNum (ν 7) tx ((tAll (ν 7) tx (litC 4) s).2)).2).vl)))) 18 (upd (σ 18) i (nI (((tNum (ν 7) tx ((tAll (ν 7) tx (litC 4) s).2)).2).cd)))) 19 (upd (σ 19) i (nI (((tEx (ν 7) tx ((tIs (ν 7) tx 32 (tO (tNum (ν 7) tx (tAll (ν 7) tx (litC 4) s).2).2)).2)).2).cd - (tNum (ν 7) tx (tAll (ν 7) tx (litC 4) s).2).2.cd)))) τ tx ((tEx (ν 7) tx ((tIs (ν 7) tx 32 (tO (tNum (ν 7) tx (tAll (ν 7) tx (litC 4) s).2).2)).2)).2)) 11 rfl i rfl (by omega) (by omega) rfl 201 rfl d_Mod_isClause_200 ?_
                refine r_iconst (nI 1) rfl 202 rfl d_Mod_isClause_201 ?_
                exact r_zret rfl (rfl) (Nat.zero_le _) (Nat.zero_le _) d_Mod_isClause_202 (by rw [← hQ]; exact clR (upd (σ 16) i (nI 1)) (upd (σ 17) i (nI (tNum (ν 7) tx (tAll (ν 7) tx (litC 4) s).2).2.vl)) (upd (σ 18) i (nI (tNum (ν 7) tx (tAll (ν 7) tx (litC 4) s).2).2.cd)) (upd (σ 19) i (nI (((tEx (ν 7) tx ((tIs (ν 7) tx 32 (tO (tNum (ν 7) tx (tAll (ν 7) tx (litC 4) s).2).2)).2)).2).cd - (tNum (ν 7) tx (tAll (ν 7) tx (litC 4) s).2).2.cd))) (b := true) (by have hK : tKd (ν 7) tx s = 1 := (by unfold tKd; rw [if_pos h10, if_neg h24, if_pos h42]); unfold tCl; rw [hK, if_pos (by decide)]; unfold tCk; rw [if_pos h117, if_pos h124, if_pos (by decide), if_pos h172]; exact Prod.ext h179 rfl) rfl rfl (clo4 _ _ _ _) (fun _ => ⟨by have hK : tKd (ν 7) tx s = 1 := (by unfold tKd; rw [if_pos h10, if_neg h24, if_pos h42]); rw [hK]; exact pk_us, by have hK : tKd (ν 7) tx s = 1 := (by unfold tKd; rw [if_pos h10, if_neg h24, if_pos h42]); rw [hK]; exact pk_us, pk_us.trans (congrArg nI (n3.trans a3)), pk_us.trans (by rw [n3.trans a3])⟩))
              · refine r_iconst (nI 0) rfl 183 rfl d_Mod_isClause_182 ?_
                exact r_zret rfl (rfl) (Nat.zero_le _) (Nat.zero_le _) d_Mod_isClause_183 (by rw [← hQ]; exact clR (upd (σ 16) i (nI 1)) (upd (σ 17) i (nI (tNum (ν 7) tx (tAll (ν 7) tx (litC 4) s).2).2.vl)) (upd (σ 18) i (nI (tNum (ν 7) tx (tAll (ν 7) tx (litC 4) s).2).2.cd)) (σ 19) (b := false) (by have hK : tKd (ν 7) tx s = 1 := (by unfold tKd; rw [if_pos h10, if_neg h24, if_pos h42]); unfold tCl; rw [hK, if_pos (by decide)]; unfold tCk; rw [if_pos h117, if_pos h124, if_pos (by decide), if_pos h172]; exact Prod.ext h179 rfl) rfl (u4_3 σ _ _ _) (clo3 _ _ _) (fun z => by cases z))
          · refine r_iconst (nI 0) rfl 128 rfl d_Mod_isClause_127 ?_
            exact r_zret rfl (rfl) (Nat.zero_le _) (Nat.zero_le _) d_Mod_isClause_128 (by rw [← hQ]; exact clR (σ 16) (σ 17) (σ 18) (σ 19) (b := false) (by have hK : tKd (ν 7) tx s = 1 := (by unfold tKd; rw [if_pos h10, if_neg h24, if_pos h42]); unfold tCl; rw [hK, if_pos (by decide)]; unfold tCk; rw [if_pos h117, if_neg (by rw [h124]; decide)]) rfl (u4_self σ) (fun _ _ => ⟨rfl, rfl, rfl, rfl⟩) (fun z => by cases z))
    · refine r_iconst (nI 0) rfl 28 rfl d_Mod_isClause_27 ?_
      refine r_goto 68 rfl d_Mod_isClause_28 ?_
      refine r_istore_n (ls2 := [some (.ref (a 0)), some (.int (nI i)), some (.int (nI 0)), none]) 69 rfl d_Mod_isClause_68 (by decide) rfl rfl ?_
      refine r_iload_n rfl 70 rfl d_Mod_isClause_69 ?_
      refine r_if_neN_f 0 (by omega) 73 rfl 82 rfl d_Mod_isClause_70 (by decide) ?_
      refine r_aload_n rfl 74 rfl d_Mod_isClause_73 ?_
      refine r_ldcS 3 (by decide) rfl rfl 76 rfl d_Mod_isClause_74 ?_
      refine r_callVA1 (st2 := [.int (bI ((tAll (ν 7) tx (litC 3) s).1))]) (w2 := MT X a ν σ τ tx ((tAll (ν 7) tx (litC 3) s).2)) lk_Mod_isAll ln_Mod_208 (c_Mod_isAll X a ν σ τ tx ht hct 3 (by decide) s (by first | assumption | omega)) (by first | decide | omega) rfl rfl (Nat.le_of_ble_eq_true rfl) (Nat.le_of_ble_eq_true rfl) (Nat.le_of_ble_eq_true rfl) 0 rfl rfl rfl rfl 79 rfl d_Mod_isClause_76 ?_
      refine r_goto 115 rfl d_Mod_isClause_79 ?_
      refine r_istore_n (ls2 := [some (.ref (a 0)), some (.int (nI i)), some (.int (nI 0)), some (.int (bI ((tAll (ν 7) tx (litC 3) s).1)))]) 116 rfl d_Mod_isClause_115 (by decide) rfl rfl ?_
      refine r_iload_n rfl 117 rfl d_Mod_isClause_116 ?_
      refine r_if_eqB 120 127 rfl rfl d_Mod_isClause_117 (fun h117 => ?_) (fun h117 => ?_)
      · refine r_iconst (nI 0) rfl 128 rfl d_Mod_isClause_127 ?_
        exact r_zret rfl (rfl) (Nat.zero_le _) (Nat.zero_le _) d_Mod_isClause_128 (by rw [← hQ]; exact clR (σ 16) (σ 17) (σ 18) (σ 19) (b := false) (by have hK : tKd (ν 7) tx s = 0 := (by unfold tKd; rw [if_pos h10, if_pos h24]); unfold tCl; rw [hK, if_pos (by decide)]; unfold tCk; rw [if_neg (by rw [h117]; decide)]) rfl (u4_self σ) (fun _ _ => ⟨rfl, rfl, rfl, rfl⟩) (fun z => by cases z))
      · refine r_aload_n rfl 121 rfl d_Mod_isClause_120 ?_
        have ag := tAll_g (n := ν 7) (tx := tx) (litC 3) s hax
        have a1 := ag.1.1
        have a2 := ag.1.2.1 hax
        have a3 := ag.2.1
        have ng := tNum_g (n := ν 7) (tx := tx) (tAll (ν 7) tx (litC 3) s).2
        have n1 := ng.1.1
        have n2 := ng.1.2.1 a2
        have n3 := ng.2.1
        refine r_callVA1 (st2 := [.int (bI ((tNum (ν 7) tx ((tAll (ν 7) tx (litC 3) s).2)).1))]) (w2 := MT X a ν σ τ tx ((tNum (ν 7) tx ((tAll (ν 7) tx (litC 3) s).2)).2)) lk_Mod_isNumber ln_Mod_182 (c_Mod_isNumber X a ν σ τ tx ht hct ((tAll (ν 7) tx (litC 3) s).2) (by first | assumption | omega)) (by first | decide | omega) rfl rfl (Nat.le_of_ble_eq_true rfl) (Nat.le_of_ble_eq_true rfl) (Nat.le_of_ble_eq_true rfl) 0 rfl rfl rfl rfl 124 rfl d_Mod_isClause_121 ?_
        refine r_if_neB 127 129 rfl rfl d_Mod_isClause_124 (fun h124 => ?_) (fun h124 => ?_)
        · refine r_aload_n rfl 130 rfl d_Mod_isClause_129 ?_
          refine r_getf (v := .ref (a 16)) gf_Mod_33 0 rfl rfl 133 rfl d_Mod_isClause_130 ?_
          refine r_iload_n rfl 134 rfl d_Mod_isClause_133 ?_
          refine r_iload_n rfl 135 rfl d_Mod_isClause_134 ?_
          refine r_iast (w2 := MT X a ν (u2 σ 16 (upd (σ 16) i (nI 0))) τ tx ((tNum (ν 7) tx ((tAll (ν 7) tx (litC 3) s).2)).2)) 8 rfl i rfl (by omega) (by omega) rfl 136 rfl d_Mod_isClause_135 ?_
          refine r_aload_n rfl 137 rfl d_Mod_isClause_136 ?_
          refine r_getf (v := .ref (a 17)) gf_Mod_36 0 rfl rfl 140 rfl d_Mod_isClause_137 ?_
          refine r_iload_n rfl 141 rfl d_Mod_isClause_140 ?_
          refine r_aload_n rfl 142 rfl d_Mod_isClause_141 ?_
          refine r_getf (v := .int (nI (((tNum (ν 7) tx ((tAll (ν 7) tx (litC 3) s).2)).2).vl))) gf_Mod_150 0 rfl rfl 145 rfl d_Mod_isClause_142 ?_
          refine r_iast (w2 := MT X a ν (u2 (u2 σ 16 (upd (σ 16) i (nI 0))) 17 (upd (σ 17) i (nI (((tNum (ν 7) tx ((tAll (ν 7) tx (litC 3) s).2)).2).vl)))) τ tx ((tNum (ν 7) tx ((tAll (ν 7) tx (litC 3) s).2)).2)) 9 rfl i rfl (by omega) (by omega) rfl 146 rfl d_Mod_isClause_145 ?_
          refine r_aload_n rfl 147 rfl d_Mod_isClause_146 ?_
          refine r_getf (v := .ref (a 18)) gf_Mod_39 0 rfl rfl 150 rfl d_Mod_isClause_147 ?_
          refine r_iload_n rfl 151 rfl d_Mod_isClause_150 ?_
          refine r_aload_n rfl 152 rfl d_Mod_isClause_151 ?_
          refine r_getf (v := .int (nI (((tNum (ν 7) tx ((tAll (ν 7) tx (litC 3) s).2)).2).cd))) gf_Mod_172 0 rfl rfl 155 rfl d_Mod_isClause_152 ?_
          refine r_iast (w2 := MT X a ν (u2 (u2 (u2 σ 16 (upd (σ 16) i (nI 0))) 17 (upd (σ 17) i (nI (((tNum (ν 7) tx ((tAll (ν 7) tx (litC 3) s).2)).2).vl)))) 18 (upd (σ 18) i (nI (((tNum (ν 7) tx ((tAll (ν 7) tx (litC 3) s).2)).2).cd)))) τ tx ((tNum (ν 7) tx ((tAll (ν 7) tx (litC 3) s).2)).2)) 10 rfl i rfl (by omega) (by omega) rfl 156 rfl d_Mod_isClause_155 ?_
          refine r_aload_n rfl 157 rfl d_Mod_isClause_156 ?_
          refine r_iconst (nI 0) rfl 158 rfl d_Mod_isClause_157 ?_
          refine r_putf (w2 := MT X a ν (u2 (u2 (u2 σ 16 (upd (σ 16) i (nI 0))) 17 (upd (σ 17) i (nI (((tNum (ν 7) tx ((tAll (ν 7) tx (litC 3) s).2)).2).vl)))) 18 (upd (σ 18) i (nI (((tNum (ν 7) tx ((tAll (ν 7) tx (litC 3) s).2)).2).cd)))) τ tx (TSm (((tNum (ν 7) tx ((tAll (ν 7) tx (litC 3) s).2)).2).ax) (((tNum (ν 7) tx ((tAll (ν 7) tx (litC 3) s).2)).2).dg) 0 (((tNum (ν 7) tx ((tAll (ν 7) tx (litC 3) s).2)).2).cd) (((tNum (ν 7) tx ((tAll (ν 7) tx (litC 3) s).2)).2).vl) (((tNum (ν 7) tx ((tAll (ν 7) tx (litC 3) s).2)).2).c))) pf_Mod_188 0 rfl (rfl) rfl (Nat.le_of_ble_eq_true rfl) rfl 161 rfl d_Mod_isClause_158 ?_
          refine r_iload_n rfl 162 rfl d_Mod_isClause_161 ?_
          refine r_iconst (nI 2) rfl 163 rfl d_Mod_isClause_162 ?_
          refine r_icmp_geN_f 0 2 (by omega) (by omega) 166 rfl 184 rfl d_Mod_isClause_163 (by decide) ?_
          show Runs X 23 M_Mod_isClause 0 0 Q 166 [some (.ref (a 0)), some (.int (nI i)), some (.int (nI 0)), some (.int (bI ((tAll (ν 7) tx (litC 3) s).1)))] [] 0 0 (MT X a ν (u2 (u2 (u2 σ 16 (upd (σ 16) i (nI 0))) 17 (upd (σ 17) i (nI (((tNum (ν 7) tx ((tAll (ν 7) tx (litC 3) s).2)).2).vl)))) 18 (upd (σ 18) i (nI (((tNum (ν 7) tx ((tAll (ν 7) tx (litC 3) s).2)).2).cd)))) τ tx (tO (tNum (ν 7) tx (tAll (ν 7) tx (litC 3) s).2).2))
          refine r_aload_n rfl 167 rfl d_Mod_isClause_166 ?_
          refine r_bipush (nI 32) rfl 169 rfl d_Mod_isClause_167 ?_
          refine r_callVA1 (st2 := [.int (bI ((tIs (ν 7) tx 32 (tO (tNum (ν 7) tx (tAll (ν 7) tx (litC 3) s).2).2)).1))]) (w2 := MT X a ν (u2 (u2 (u2 σ 16 (upd (σ 16) i (nI 0))) 17 (upd (σ 17) i (nI (((tNum (ν 7) tx ((tAll (ν 7) tx (litC 3) s).2)).2).vl)))) 18 (upd (σ 18) i (nI (((tNum (ν 7) tx ((tAll (ν 7) tx (litC 3) s).2)).2).cd)))) τ tx ((tIs (ν 7) tx 32 (tO (tNum (ν 7) tx (tAll (ν 7) tx (litC 3) s).2).2)).2)) lk_Mod_is ln_Mod_169 (c_Mod_is X a ν (u2 (u2 (u2 σ 16 (upd (σ 16) i (nI 0))) 17 (upd (σ 17) i (nI (((tNum (ν 7) tx ((tAll (ν 7) tx (litC 3) s).2)).2).vl)))) 18 (upd (σ 18) i (nI (((tNum (ν 7) tx ((tAll (ν 7) tx (litC 3) s).2)).2).cd)))) τ tx ht hct 32 (by omega) (tO (tNum (ν 7) tx (tAll (ν 7) tx (litC 3) s).2).2) (by first | assumption | omega)) (by first | decide | omega) rfl rfl (Nat.le_of_ble_eq_true rfl) (Nat.le_of_ble_eq_true rfl) (Nat.le_of_ble_eq_true rfl) 0 rfl rfl rfl rfl 172 rfl d_Mod_isClause_169 ?_
          refine r_if_eqB 175 182 rfl rfl d_Mod_isClause_172 (fun h172 => ?_) (fun h172 => ?_)
          · refine r_iconst (nI 0) rfl 183 rfl d_Mod_isClause_182 ?_
            exact r_zret rfl (rfl) (Nat.zero_le _) (Nat.zero_le _) d_Mod_isClause_183 (by rw [← hQ]; exact clR (upd (σ 16) i (nI 0)) (upd (σ 17) i (nI (tNum (ν 7) tx (tAll (ν 7) tx (litC 3) s).2).2.vl)) (upd (σ 18) i (nI (tNum (ν 7) tx (tAll (ν 7) tx (litC 3) s).2).2.cd)) (σ 19) (b := false) (by have hK : tKd (ν 7) tx s = 0 := (by unfold tKd; rw [if_pos h10, if_pos h24]); unfold tCl; rw [hK, if_pos (by decide)]; unfold tCk; rw [if_pos h117, if_pos h124, if_pos (by decide), if_neg (by rw [h172]; decide)]) rfl (u4_3 σ _ _ _) (clo3 _ _ _) (fun z => by cases z))
          · have it : (tIs (ν 7) tx 32 (tO (tNum (ν 7) tx (tAll (ν 7) tx (litC 3) s).2).2)).2 = TSm ((tNum (ν 7) tx (tAll (ν 7) tx (litC 3) s).2).2.ax + 1) (tNum (ν 7) tx (tAll (ν 7) tx (litC 3) s).2).2.dg 0 (tNum (ν 7) tx (tAll (ν 7) tx (litC 3) s).2).2.cd (tNum (ν 7) tx (tAll (ν 7) tx (litC 3) s).2).2.vl (tNum (ν 7) tx (tAll (ν 7) tx (litC 3) s).2).2.c := (tIs_t h172).1
            have i1 : (tIs (ν 7) tx 32 (tO (tNum (ν 7) tx (tAll (ν 7) tx (litC 3) s).2).2)).2.ax = (tNum (ν 7) tx (tAll (ν 7) tx (litC 3) s).2).2.ax + 1 := by rw [it]; rfl
            have i2 : (tIs (ν 7) tx 32 (tO (tNum (ν 7) tx (tAll (ν 7) tx (litC 3) s).2).2)).2.cd = (tNum (ν 7) tx (tAll (ν 7) tx (litC 3) s).2).2.cd := by rw [it]; rfl
            have i3 : (tIs (ν 7) tx 32 (tO (tNum (ν 7) tx (tAll (ν 7) tx (litC 3) s).2).2)).2.op + 4 = 4 := by rw [it]; rfl
            have i4 : (tNum (ν 7) tx (tAll (ν 7) tx (litC 3) s).2).2.ax ≠ ν 7 := (tIs_t h172).2.1
            have xg := tEx_g (n := ν 7) (tx := tx) (tIs (ν 7) tx 32 (tO (tNum (ν 7) tx (tAll (ν 7) tx (litC 3) s).2).2)).2 (by omega)
            have x3 := xg.2.2.1
            have x1 := xg.1
            have x2 := xg.2.1 (by omega)
            have xm := (tEx_a (n := ν 7) (tx := tx) (tIs (ν 7) tx 32 (tO (tNum (ν 7) tx (tAll (ν 7) tx (litC 3) s).2).2)).2 (by omega) (by omega)).2.2.1
            refine r_aload_n rfl 176 rfl d_Mod_isClause_175 ?_
            refine r_callVA1 (st2 := [.int (bI ((tEx (ν 7) tx ((tIs (ν 7) tx 32 (tO (tNum (ν 7) tx (tAll (ν 7) tx (litC 3) s).2).2)).2)).1))]) (w2 := MT X a ν (u2 (u2 (u2 σ 16 (upd (σ 16) i (nI 0))) 17 (upd (σ 17) i (nI (((tNum (ν 7) tx ((tAll (ν 7) tx (litC 3) s).2)).2).vl)))) 18 (upd (σ 18) i (nI (((tNum (ν 7) tx ((tAll (ν 7) tx (litC 3) s).2)).2).cd)))) τ tx ((tEx (ν 7) tx ((tIs (ν 7) tx 32 (tO (tNum (ν 7) tx (tAll (ν 7) tx (litC 3) s).2).2)).2)).2)) lk_Mod_isE ln_Mod_197 (c_Mod_isE X a ν (u2 (u2 (u2 σ 16 (upd (σ 16) i (nI 0))) 17 (upd (σ 17) i (nI (((tNum (ν 7) tx ((tAll (ν 7) tx (litC 3) s).2)).2).vl)))) 18 (upd (σ 18) i (nI (((tNum (ν 7) tx ((tAll (ν 7) tx (litC 3) s).2)).2).cd)))) τ tx ht hct (tRow (ν 7) tx (tF (ν 7) tx 4) 38 1) 4 21 (by omega) (fun r h1 h2 h3 => c_Mod_isT X a ν (u2 (u2 (u2 σ 16 (upd (σ 16) i (nI 0))) 17 (upd (σ 17) i (nI (((tNum (ν 7) tx ((tAll (ν 7) tx (litC 3) s).2)).2).vl)))) 18 (upd (σ 18) i (nI (((tNum (ν 7) tx ((tAll (ν 7) tx (litC 3) s).2)).2).cd)))) τ tx ht hct (tF (ν 7) tx 4) 4 20 (by omega) (fun r h1 h2 h3 => c_Mod_isF X a ν (u2 (u2 (u2 σ 16 (upd (σ 16) i (nI 0))) 17 (upd (σ 17) i (nI (((tNum (ν 7) tx ((tAll (ν 7) tx (litC 3) s).2)).2).vl)))) 18 (upd (σ 18) i (nI (((tNum (ν 7) tx ((tAll (ν 7) tx (litC 3) s).2)).2).cd)))) τ tx ht hct 4 r h1 h2 h3) (fun s hs => tF_g 4 s hs) r h1 h2 h3) (fun s hs => tRow_g (fun s hs => tF_g 4 s hs) s hs) ((tIs (ν 7) tx 32 (tO (tNum (ν 7) tx (tAll (ν 7) tx (litC 3) s).2).2)).2) (by first | assumption | omega) (by first | assumption | omega) (by first | assumption | omega)) (by first | decide | omega) rfl rfl (Nat.le_of_ble_eq_true rfl) (Nat.le_of_ble_eq_true rfl) (Nat.le_of_ble_eq_true rfl) 0 rfl rfl rfl rfl 179 rfl d_Mod_isClause_176 ?_
            refine r_if_neB 182 184 rfl rfl d_Mod_isClause_179 (fun h179 => ?_) (fun h179 => ?_)
            · refine r_aload_n rfl 185 rfl d_Mod_isClause_184 ?_
              refine r_getf (v := .ref (a 19)) gf_Mod_42 0 rfl rfl 188 rfl d_Mod_isClause_185 ?_
              refine r_iload_n rfl 189 rfl d_Mod_isClause_188 ?_
              refine r_aload_n rfl 190 rfl d_Mod_isClause_189 ?_
              refine r_getf (v := .int (nI (((tEx (ν 7) tx ((tIs (ν 7) tx 32 (tO (tNum (ν 7) tx (tAll (ν 7) tx (litC 3) s).2).2)).2)).2).cd))) gf_Mod_172 0 rfl rfl 193 rfl d_Mod_isClause_190 ?_
              refine r_aload_n rfl 194 rfl d_Mod_isClause_193 ?_
              refine r_getf (v := .ref (a 18)) gf_Mod_39 0 rfl rfl 197 rfl d_Mod_isClause_194 ?_
              refine r_iload_n rfl 198 rfl d_Mod_isClause_197 ?_
              refine r_iald (f := upd (σ 18) i (nI (((tNum (ν 7) tx ((tAll (ν 7) tx (litC 3) s).2)).2).cd))) 10 rfl i rfl (by omega) (by omega) 199 rfl d_Mod_isClause_198 ?_
              refine r_topi (nI (tNum (ν 7) tx (tAll (ν 7) tx (litC 3) s).2).2.cd) pk_us ?_
              refine r_isub 200 rfl d_Mod_isClause_199 ?_
              refine r_topi (nI (((tEx (ν 7) tx ((tIs (ν 7) tx 32 (tO (tNum (ν 7) tx (tAll (ν 7) tx (litC 3) s).2).2)).2)).2).cd - (tNum (ν 7) tx (tAll (ν 7) tx (litC 3) s).2).2.cd)) (nI_sub (by omega)) ?_
              refine r_iast (w2 := MT X a ν (u2 (u2 (u2 (u2 σ 16 (upd (σ 16) i (nI 0))) 17 (upd (σ 17) i (nI (((tNum (ν 7) tx ((tAll (ν 7) tx (litC 3) s).2)).2).vl)))) 18 (upd (σ 18) i (nI (((tNum (ν 7) tx ((tAll (ν 7) tx (litC 3) s).2)).2).cd)))) 19 (upd (σ 19) i (nI (((tEx (ν 7) tx ((tIs (ν 7) tx 32 (tO (tNum (ν 7) tx (tAll (ν 7) tx (litC 3) s).2).2)).2)).2).cd - (tNum (ν 7) tx (tAll (ν 7) tx (litC 3) s).2).2.cd)))) τ tx ((tEx (ν 7) tx ((tIs (ν 7) tx 32 (tO (tNum (ν 7) tx (tAll (ν 7) tx (litC 3) s).2).2)).2)).2)) 11 rfl i rfl (by omega) (by omega) rfl 201 rfl d_Mod_isClause_200 ?_
              refine r_iconst (nI 1) rfl 202 rfl d_Mod_isClause_201 ?_
              exact r_zret rfl (rfl) (Nat.zero_le _) (Nat.zero_le _) d_Mod_isClause_202 (by rw [← hQ]; exact clR (upd (σ 16) i (nI 0)) (upd (σ 17) i (nI (tNum (ν 7) tx (tAll (ν 7) tx (litC 3) s).2).2.vl)) (upd (σ 18) i (nI (tNum (ν 7) tx (tAll (ν 7) tx (litC 3) s).2).2.cd)) (upd (σ 19) i (nI (((tEx (ν 7) tx ((tIs (ν 7) tx 32 (tO (tNum (ν 7) tx (tAll (ν 7) tx (litC 3) s).2).2)).2)).2).cd - (tNum (ν 7) tx (tAll (ν 7) tx (litC 3) s).2).2.cd))) (b := true) (by have hK : tKd (ν 7) tx s = 0 := (by unfold tKd; rw [if_pos h10, if_pos h24]); unfold tCl; rw [hK, if_pos (by decide)]; unfold tCk; rw [if_pos h117, if_pos h124, if_pos (by decide), if_pos h172]; exact Prod.ext h179 rfl) rfl rfl (clo4 _ _ _ _) (fun _ => ⟨by have hK : tKd (ν 7) tx s = 0 := (by unfold tKd; rw [if_pos h10, if_pos h24]); rw [hK]; exact pk_us, by have hK : tKd (ν 7) tx s = 0 := (by unfold tKd; rw [if_pos h10, if_pos h24]); rw [hK]; exact pk_us, pk_us.trans (congrArg nI (n3.trans a3)), pk_us.trans (by rw [n3.trans a3])⟩))
            · refine r_iconst (nI 0) rfl 183 rfl d_Mod_isClause_182 ?_
              exact r_zret rfl (rfl) (Nat.zero_le _) (Nat.zero_le _) d_Mod_isClause_183 (by rw [← hQ]; exact clR (upd (σ 16) i (nI 0)) (upd (σ 17) i (nI (tNum (ν 7) tx (tAll (ν 7) tx (litC 3) s).2).2.vl)) (upd (σ 18) i (nI (tNum (ν 7) tx (tAll (ν 7) tx (litC 3) s).2).2.cd)) (σ 19) (b := false) (by have hK : tKd (ν 7) tx s = 0 := (by unfold tKd; rw [if_pos h10, if_pos h24]); unfold tCl; rw [hK, if_pos (by decide)]; unfold tCk; rw [if_pos h117, if_pos h124, if_pos (by decide), if_pos h172]; exact Prod.ext h179 rfl) rfl (u4_3 σ _ _ _) (clo3 _ _ _) (fun z => by cases z))
        · refine r_iconst (nI 0) rfl 128 rfl d_Mod_isClause_127 ?_
          exact r_zret rfl (rfl) (Nat.zero_le _) (Nat.zero_le _) d_Mod_isClause_128 (by rw [← hQ]; exact clR (σ 16) (σ 17) (σ 18) (σ 19) (b := false) (by have hK : tKd (ν 7) tx s = 0 := (by unfold tKd; rw [if_pos h10, if_pos h24]); unfold tCl; rw [hK, if_pos (by decide)]; unfold tCk; rw [if_pos h117, if_neg (by rw [h124]; decide)]) rfl (u4_self σ) (fun _ _ => ⟨rfl, rfl, rfl, rfl⟩) (fun z => by cases z))
