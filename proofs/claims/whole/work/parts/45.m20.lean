def M_Mod_exchange : XM := (⟨"HandshakeBindsModel", "exchange", "()I"⟩, prog_11_method_26_code, 5, (some .int))
theorem d_Mod_exchange_0 : decode M_Mod_exchange.2.1 0 = .ok (.aload_n 0, 1) := by decide +kernel
theorem d_Mod_exchange_1 : decode M_Mod_exchange.2.1 1 = .ok (.getfield 216, 3) := by decide +kernel
theorem d_Mod_exchange_4 : decode M_Mod_exchange.2.1 4 = .ok (.bipush 6, 2) := by decide +kernel
theorem d_Mod_exchange_6 : decode M_Mod_exchange.2.1 6 = .ok (.if_icmp .ne 6, 3) := by decide +kernel
theorem d_Mod_exchange_12 : decode M_Mod_exchange.2.1 12 = .ok (.aload_n 0, 1) := by decide +kernel
theorem d_Mod_exchange_13 : decode M_Mod_exchange.2.1 13 = .ok (.getfield 172, 3) := by decide +kernel
theorem d_Mod_exchange_16 : decode M_Mod_exchange.2.1 16 = .ok (.istore_n 1, 1) := by decide +kernel
theorem d_Mod_exchange_17 : decode M_Mod_exchange.2.1 17 = .ok (.aload_n 0, 1) := by decide +kernel
theorem d_Mod_exchange_18 : decode M_Mod_exchange.2.1 18 = .ok (.iconst 0, 1) := by decide +kernel
theorem d_Mod_exchange_19 : decode M_Mod_exchange.2.1 19 = .ok (.putfield 147, 3) := by decide +kernel
theorem d_Mod_exchange_22 : decode M_Mod_exchange.2.1 22 = .ok (.iconst 0, 1) := by decide +kernel
theorem d_Mod_exchange_23 : decode M_Mod_exchange.2.1 23 = .ok (.istore_n 2, 1) := by decide +kernel
theorem d_Mod_exchange_24 : decode M_Mod_exchange.2.1 24 = .ok (.iconst 1, 1) := by decide +kernel
theorem d_Mod_exchange_25 : decode M_Mod_exchange.2.1 25 = .ok (.istore_n 3, 1) := by decide +kernel
theorem d_Mod_exchange_26 : decode M_Mod_exchange.2.1 26 = .ok (.iconst 0, 1) := by decide +kernel
theorem d_Mod_exchange_27 : decode M_Mod_exchange.2.1 27 = .ok (.istore 4, 2) := by decide +kernel
theorem d_Mod_exchange_29 : decode M_Mod_exchange.2.1 29 = .ok (.iload_n 3, 1) := by decide +kernel
theorem d_Mod_exchange_30 : decode M_Mod_exchange.2.1 30 = .ok (.ifCond .eq 93, 3) := by decide +kernel
theorem d_Mod_exchange_33 : decode M_Mod_exchange.2.1 33 = .ok (.iload 4, 2) := by decide +kernel
theorem d_Mod_exchange_35 : decode M_Mod_exchange.2.1 35 = .ok (.ifCond .ne 88, 3) := by decide +kernel
theorem d_Mod_exchange_38 : decode M_Mod_exchange.2.1 38 = .ok (.iload_n 2, 1) := by decide +kernel
theorem d_Mod_exchange_39 : decode M_Mod_exchange.2.1 39 = .ok (.bipush 10, 2) := by decide +kernel
theorem d_Mod_exchange_41 : decode M_Mod_exchange.2.1 41 = .ok (.if_icmp .ge 23, 3) := by decide +kernel
theorem d_Mod_exchange_44 : decode M_Mod_exchange.2.1 44 = .ok (.aload_n 0, 1) := by decide +kernel
theorem d_Mod_exchange_45 : decode M_Mod_exchange.2.1 45 = .ok (.bipush 10, 2) := by decide +kernel
theorem d_Mod_exchange_47 : decode M_Mod_exchange.2.1 47 = .ok (.aload_n 0, 1) := by decide +kernel
theorem d_Mod_exchange_48 : decode M_Mod_exchange.2.1 48 = .ok (.getfield 216, 3) := by decide +kernel
theorem d_Mod_exchange_51 : decode M_Mod_exchange.2.1 51 = .ok (.imul, 1) := by decide +kernel
theorem d_Mod_exchange_52 : decode M_Mod_exchange.2.1 52 = .ok (.iload_n 2, 1) := by decide +kernel
theorem d_Mod_exchange_53 : decode M_Mod_exchange.2.1 53 = .ok (.iadd, 1) := by decide +kernel
theorem d_Mod_exchange_54 : decode M_Mod_exchange.2.1 54 = .ok (.invokevirtual 219, 3) := by decide +kernel
theorem ln_Mod_219 : Cond.methodLink "HandshakeBindsModel" 219 M_Mod_isClause.1 ∈ TB := inTB 1050 (by decide +kernel) rfl
theorem lk_Mod_isClause : LVt M_Mod_isClause 1 := ⟨⟨inTB 72 (by decide +kernel) rfl, inTB 1053 (by decide +kernel) rfl, ⟨by decide, by decide, by decide +kernel⟩, by decide⟩, inTB 1052 (by decide +kernel) rfl, inTB 27 (by decide +kernel) rfl⟩
theorem d_Mod_exchange_57 : decode M_Mod_exchange.2.1 57 = .ok (.ifCond .eq 7, 3) := by decide +kernel
theorem d_Mod_exchange_64 : decode M_Mod_exchange.2.1 64 = .ok (.iconst 0, 1) := by decide +kernel
theorem d_Mod_exchange_65 : decode M_Mod_exchange.2.1 65 = .ok (.istore_n 3, 1) := by decide +kernel
theorem d_Mod_exchange_66 : decode M_Mod_exchange.2.1 66 = .ok (.iload_n 3, 1) := by decide +kernel
theorem d_Mod_exchange_67 : decode M_Mod_exchange.2.1 67 = .ok (.ifCond .ne 6, 3) := by decide +kernel
theorem d_Mod_exchange_70 : decode M_Mod_exchange.2.1 70 = .ok (.goto (-41), 3) := by decide +kernel
theorem d_Mod_exchange_123 : decode M_Mod_exchange.2.1 123 = .ok (.aload_n 0, 1) := by decide +kernel
theorem d_Mod_exchange_124 : decode M_Mod_exchange.2.1 124 = .ok (.iconst 0, 1) := by decide +kernel
theorem d_Mod_exchange_125 : decode M_Mod_exchange.2.1 125 = .ok (.putfield 144, 3) := by decide +kernel
theorem d_Mod_exchange_128 : decode M_Mod_exchange.2.1 128 = .ok (.iload 4, 2) := by decide +kernel
theorem d_Mod_exchange_130 : decode M_Mod_exchange.2.1 130 = .ok (.ifCond .ne 16, 3) := by decide +kernel
theorem d_Mod_exchange_133 : decode M_Mod_exchange.2.1 133 = .ok (.aload_n 0, 1) := by decide +kernel
theorem d_Mod_exchange_134 : decode M_Mod_exchange.2.1 134 = .ok (.iload_n 1, 1) := by decide +kernel
theorem d_Mod_exchange_135 : decode M_Mod_exchange.2.1 135 = .ok (.putfield 172, 3) := by decide +kernel
theorem d_Mod_exchange_138 : decode M_Mod_exchange.2.1 138 = .ok (.bipush (-10), 2) := by decide +kernel
theorem d_Mod_exchange_140 : decode M_Mod_exchange.2.1 140 = .ok (.aload_n 0, 1) := by decide +kernel
theorem d_Mod_exchange_141 : decode M_Mod_exchange.2.1 141 = .ok (.getfield 147, 3) := by decide +kernel
theorem d_Mod_exchange_144 : decode M_Mod_exchange.2.1 144 = .ok (.isub, 1) := by decide +kernel
theorem d_Mod_exchange_145 : decode M_Mod_exchange.2.1 145 = .ok (.ireturn, 1) := by decide +kernel
theorem d_Mod_exchange_60 : decode M_Mod_exchange.2.1 60 = .ok (.iconst 1, 1) := by decide +kernel
theorem d_Mod_exchange_61 : decode M_Mod_exchange.2.1 61 = .ok (.goto 4, 3) := by decide +kernel
theorem d_Mod_exchange_73 : decode M_Mod_exchange.2.1 73 = .ok (.iinc 2 1, 3) := by decide +kernel
theorem d_Mod_exchange_76 : decode M_Mod_exchange.2.1 76 = .ok (.aload_n 0, 1) := by decide +kernel
theorem d_Mod_exchange_77 : decode M_Mod_exchange.2.1 77 = .ok (.getfield 147, 3) := by decide +kernel
theorem d_Mod_exchange_80 : decode M_Mod_exchange.2.1 80 = .ok (.aload_n 0, 1) := by decide +kernel
theorem d_Mod_exchange_81 : decode M_Mod_exchange.2.1 81 = .ok (.getfield 144, 3) := by decide +kernel
theorem d_Mod_exchange_84 : decode M_Mod_exchange.2.1 84 = .ok (.if_icmp .ne 7, 3) := by decide +kernel
theorem d_Mod_exchange_91 : decode M_Mod_exchange.2.1 91 = .ok (.iconst 0, 1) := by decide +kernel
theorem d_Mod_exchange_92 : decode M_Mod_exchange.2.1 92 = .ok (.istore 4, 2) := by decide +kernel
theorem d_Mod_exchange_94 : decode M_Mod_exchange.2.1 94 = .ok (.iload 4, 2) := by decide +kernel
theorem d_Mod_exchange_96 : decode M_Mod_exchange.2.1 96 = .ok (.ifCond .ne 18, 3) := by decide +kernel
theorem d_Mod_exchange_99 : decode M_Mod_exchange.2.1 99 = .ok (.iload_n 2, 1) := by decide +kernel
theorem d_Mod_exchange_100 : decode M_Mod_exchange.2.1 100 = .ok (.bipush 10, 2) := by decide +kernel
theorem d_Mod_exchange_102 : decode M_Mod_exchange.2.1 102 = .ok (.if_icmp .ge 16, 3) := by decide +kernel
theorem d_Mod_exchange_118 : decode M_Mod_exchange.2.1 118 = .ok (.iconst 0, 1) := by decide +kernel
theorem d_Mod_exchange_119 : decode M_Mod_exchange.2.1 119 = .ok (.istore_n 3, 1) := by decide +kernel
theorem d_Mod_exchange_120 : decode M_Mod_exchange.2.1 120 = .ok (.goto (-91), 3) := by decide +kernel
theorem d_Mod_exchange_105 : decode M_Mod_exchange.2.1 105 = .ok (.aload_n 0, 1) := by decide +kernel
theorem d_Mod_exchange_106 : decode M_Mod_exchange.2.1 106 = .ok (.bipush 59, 2) := by decide +kernel
theorem d_Mod_exchange_108 : decode M_Mod_exchange.2.1 108 = .ok (.invokevirtual 169, 3) := by decide +kernel
theorem d_Mod_exchange_111 : decode M_Mod_exchange.2.1 111 = .ok (.ifCond .eq 7, 3) := by decide +kernel
theorem d_Mod_exchange_114 : decode M_Mod_exchange.2.1 114 = .ok (.iconst 1, 1) := by decide +kernel
theorem d_Mod_exchange_115 : decode M_Mod_exchange.2.1 115 = .ok (.goto 4, 3) := by decide +kernel
theorem d_Mod_exchange_87 : decode M_Mod_exchange.2.1 87 = .ok (.iconst 1, 1) := by decide +kernel
theorem d_Mod_exchange_88 : decode M_Mod_exchange.2.1 88 = .ok (.goto 4, 3) := by decide +kernel
theorem d_Mod_exchange_146 : decode M_Mod_exchange.2.1 146 = .ok (.aload_n 0, 1) := by decide +kernel
theorem d_Mod_exchange_147 : decode M_Mod_exchange.2.1 147 = .ok (.getfield 30, 3) := by decide +kernel
theorem d_Mod_exchange_150 : decode M_Mod_exchange.2.1 150 = .ok (.aload_n 0, 1) := by decide +kernel
theorem d_Mod_exchange_151 : decode M_Mod_exchange.2.1 151 = .ok (.getfield 216, 3) := by decide +kernel
theorem d_Mod_exchange_154 : decode M_Mod_exchange.2.1 154 = .ok (.iload_n 2, 1) := by decide +kernel
theorem d_Mod_exchange_155 : decode M_Mod_exchange.2.1 155 = .ok (.iastore, 1) := by decide +kernel
theorem d_Mod_exchange_156 : decode M_Mod_exchange.2.1 156 = .ok (.aload_n 0, 1) := by decide +kernel
theorem d_Mod_exchange_157 : decode M_Mod_exchange.2.1 157 = .ok (.aload_n 0, 1) := by decide +kernel
theorem d_Mod_exchange_158 : decode M_Mod_exchange.2.1 158 = .ok (.getfield 216, 3) := by decide +kernel
theorem d_Mod_exchange_161 : decode M_Mod_exchange.2.1 161 = .ok (.putfield 107, 3) := by decide +kernel
theorem d_Mod_exchange_164 : decode M_Mod_exchange.2.1 164 = .ok (.aload_n 0, 1) := by decide +kernel
theorem d_Mod_exchange_165 : decode M_Mod_exchange.2.1 165 = .ok (.dup, 1) := by decide +kernel
theorem d_Mod_exchange_166 : decode M_Mod_exchange.2.1 166 = .ok (.getfield 216, 3) := by decide +kernel
theorem d_Mod_exchange_169 : decode M_Mod_exchange.2.1 169 = .ok (.dup_x1, 1) := by decide +kernel
theorem d_Mod_exchange_170 : decode M_Mod_exchange.2.1 170 = .ok (.iconst 1, 1) := by decide +kernel
theorem d_Mod_exchange_171 : decode M_Mod_exchange.2.1 171 = .ok (.iadd, 1) := by decide +kernel
theorem d_Mod_exchange_172 : decode M_Mod_exchange.2.1 172 = .ok (.putfield 216, 3) := by decide +kernel
theorem pf_Mod_216 : PF "HandshakeBindsModel" 216 9 13 (.int) false := ⟨_, _, _, t_Mod, rfl, by decide, i_Mod, t_Mod_ok, n_Mod, inTB 863 (by decide +kernel) rfl, rfl, t_Mod_ok 13 (by decide), fun _ => rfl⟩
theorem d_Mod_exchange_175 : decode M_Mod_exchange.2.1 175 = .ok (.ireturn, 1) := by decide +kernel
theorem d_Mod_exchange_9 : decode M_Mod_exchange.2.1 9 = .ok (.bipush (-4), 2) := by decide +kernel
theorem d_Mod_exchange_11 : decode M_Mod_exchange.2.1 11 = .ok (.ireturn, 1) := by decide +kernel
theorem c_Mod_exchange (X : Xn) (a ν : Nat → Nat) (σ : Nat → Nat → Int32) (τ : Nat → Int64) (tx : Nat → Nat) (ht : ν 7 ≤ 100) (hct : ∀ x, tx x < 128) (h8 : σ 8 = fun x => nI (tx x)) (he : ν 13 ≤ 6) (hcd : ν 21 ≤ 100 * ν 13) : Does X 24 M_Mod_exchange [.ref (a 0)] (MW X a ν σ τ) 0 0 (fun (vv : Option Value) (ww : va_W) => (ν 13 = 6 → vv = some (.int (-4)) ∧ ww = MW X a ν σ τ) ∧ (ν 13 ≠ 6 → ∃ (ν2 : Nat → Nat) (σ2 : Nat → Nat → Int32) (v : Int32), vv = some (.int v) ∧ ww = MW X a ν2 σ2 τ ∧ exQ (ν 7) tx ν σ ν2 σ2 v)) := by
  generalize hQ : (fun (vv : Option Value) (ww : va_W) => (ν 13 = 6 → vv = some (.int (-4)) ∧ ww = MW X a ν σ τ) ∧ (ν 13 ≠ 6 → ∃ (ν2 : Nat → Nat) (σ2 : Nat → Nat → Int32) (v : Int32), vv = some (.int v) ∧ ww = MW X a ν2 σ2 τ ∧ exQ (ν 7) tx ν σ ν2 σ2 v)) = Q
  refine Does.go rfl (Nat.le_of_ble_eq_true rfl) [some (.ref (a 0)), none, none, none, none] 4 rfl ?_
  refine r_aload_n rfl 1 rfl d_Mod_exchange_0 ?_
  refine r_getf (v := .int (nI (ν 13))) gf_Mod_216 0 rfl rfl 4 rfl d_Mod_exchange_1 ?_
  refine r_bipush (nI 6) rfl 6 rfl d_Mod_exchange_4 ?_
  refine r_icmp_neN (ν 13) 6 (by omega) (by omega) 9 12 rfl rfl d_Mod_exchange_6 (fun h6 => ?_) (fun h6 => ?_)
  · refine r_aload_n rfl 13 rfl d_Mod_exchange_12 ?_
    refine r_getf (v := .int (nI (ν 21))) gf_Mod_172 0 rfl rfl 16 rfl d_Mod_exchange_13 ?_
    refine r_istore_n (ls2 := [some (.ref (a 0)), some (.int (nI (ν 21))), none, none, none]) 17 rfl d_Mod_exchange_16 (by decide) rfl rfl ?_
    refine r_aload_n rfl 18 rfl d_Mod_exchange_17 ?_
    refine r_iconst (nI 0) rfl 19 rfl d_Mod_exchange_18 ?_
    refine r_putf (w2 := MW X a (u1 ν 9 0) σ τ) pf_Mod_147 0 rfl (rfl) rfl (Nat.le_of_ble_eq_true rfl) rfl 22 rfl d_Mod_exchange_19 ?_
    refine r_iconst (nI 0) rfl 23 rfl d_Mod_exchange_22 ?_
    refine r_istore_n (ls2 := [some (.ref (a 0)), some (.int (nI (ν 21))), some (.int (nI 0)), none, none]) 24 rfl d_Mod_exchange_23 (by decide) rfl rfl ?_
    refine r_iconst (nI 1) rfl 25 rfl d_Mod_exchange_24 ?_
    refine r_istore_n (ls2 := [some (.ref (a 0)), some (.int (nI (ν 21))), some (.int (nI 0)), some (.int (nI 1)), none]) 26 rfl d_Mod_exchange_25 (by decide) rfl rfl ?_
    refine r_iconst (nI 0) rfl 27 rfl d_Mod_exchange_26 ?_
    refine r_istore (ls2 := [some (.ref (a 0)), some (.int (nI (ν 21))), some (.int (nI 0)), some (.int (nI 1)), some (.int (nI 0))]) 29 rfl d_Mod_exchange_27 (by decide) rfl rfl ?_
    refine r_iload_n rfl 30 rfl d_Mod_exchange_29 ?_
    refine r_if_eqN_f 1 (by omega) 33 rfl 123 rfl d_Mod_exchange_30 (by decide) ?_
    refine r_iload rfl 35 rfl d_Mod_exchange_33 ?_
    refine r_if_neN_f 0 (by omega) 38 rfl 123 rfl d_Mod_exchange_35 (by decide) ?_
    have L38_1 : ∀ (f : Nat) (u : Nat) (s : TS) (cs : List (Nat × Nat × List Nat)) (fa : Nat → Int32) (ga : Nat → Int32) (ha : Nat → Int32) (la : Nat → Int32), (cs.length + (u + 1) = 10) → (aXs (ν 7) tx (u + 1) s.ax cs = exR (ν 7) tx) → (s.ax ≤ ν 7) → (s.cd + ν 7 ≤ ν 21 + ν 7 + s.ax) → (XI σ (ν 13) (ν 21) cs s fa ga ha la) → u < f → Runs X 24 M_Mod_exchange 0 0 Q 38 [some (.ref (a 0)), some (.int (nI (ν 21))), some (.int (nI cs.length)), some (.int (nI 1)), some (.int (nI 0))] [] 0 0 (MT X a ν (u4 σ fa ga ha la) τ tx s) := by
      intro f
      induction f with
      | zero => intro u s cs fa ga ha la hu hr hx hc hX hmu; exact absurd hmu (Nat.not_lt_zero _)
      | succ f ih2 =>
        intro u s cs fa ga ha la hu hr hx hc hX hmu
        refine r_iload_n rfl 39 rfl d_Mod_exchange_38 ?_
        refine r_bipush (nI 10) rfl 41 rfl d_Mod_exchange_39 ?_
        refine r_icmp_geN_f cs.length 10 (by omega) (by omega) 44 rfl 64 rfl d_Mod_exchange_41 (by omega) ?_
        refine r_aload_n rfl 45 rfl d_Mod_exchange_44 ?_
        refine r_bipush (nI 10) rfl 47 rfl d_Mod_exchange_45 ?_
        refine r_aload_n rfl 48 rfl d_Mod_exchange_47 ?_
        refine r_getf (v := .int (nI (ν 13))) gf_Mod_216 0 rfl rfl 51 rfl d_Mod_exchange_48 ?_
        refine r_imul 52 rfl d_Mod_exchange_51 ?_
        refine r_topi (nI (10 * (ν 13))) (pk_mul _ _) ?_
        refine r_iload_n rfl 53 rfl d_Mod_exchange_52 ?_
        refine r_iadd 54 rfl d_Mod_exchange_53 ?_
        refine r_topi (nI ((10 * (ν 13)) + cs.length)) (nI_add _ _) ?_
        refine r_callVAQ (st2 := []) (w2 := []) lk_Mod_isClause ln_Mod_219 (c_Mod_isClause X a ν (u4 σ fa ga ha la) τ tx ht hct ((10 * (ν 13)) + cs.length) (by omega) s hx (by omega)) (by first | decide | omega) rfl rfl (Nat.le_of_ble_eq_true rfl) (Nat.le_of_ble_eq_true rfl) (Nat.le_of_ble_eq_true rfl) 0 rfl rfl 57 rfl d_Mod_exchange_54 (fun vv ww hq2 => ?_)
        obtain ⟨f2, g2, h2, l2, rfl, rfl, hP⟩ := hq2
        rw [u4_u4]
        refine ⟨rfl, ?_⟩
        show Runs X 24 M_Mod_exchange 0 0 Q 57 [some (.ref (a 0)), some (.int (nI (ν 21))), some (.int (nI cs.length)), some (.int (nI 1)), some (.int (nI 0))] [.int (bI ((tCl (ν 7) tx s).1))] 0 0 (MT X a ν (u4 σ f2 g2 h2 l2) τ tx ((tCl (ν 7) tx s).2))
        refine r_if_eqB 60 64 rfl rfl d_Mod_exchange_57 (fun h57 => ?_) (fun h57 => ?_)
        · obtain ⟨y1, y2, y3, y4⟩ := tCl_a (n := ν 7) (tx := tx) s hx
          obtain ⟨v1, v2, v3⟩ := tCl_g (n := ν 7) (tx := tx) s hx
          obtain ⟨yb, yc⟩ := XI_below hX hx hP
          refine r_iconst (nI 0) rfl 65 rfl d_Mod_exchange_64 ?_
          refine r_istore_n (ls2 := [some (.ref (a 0)), some (.int (nI (ν 21))), some (.int (nI cs.length)), some (.int (nI 0)), some (.int (nI 0))]) 66 rfl d_Mod_exchange_65 (by decide) rfl rfl ?_
          refine r_iload_n rfl 67 rfl d_Mod_exchange_66 ?_
          refine r_if_neN_f 0 (by omega) 70 rfl 73 rfl d_Mod_exchange_67 (by decide) ?_
          refine r_goto 29 rfl d_Mod_exchange_70 ?_
          refine r_iload_n rfl 30 rfl d_Mod_exchange_29 ?_
          refine r_if_eqN_t 0 (by omega) 123 rfl d_Mod_exchange_30 (by decide) ?_
          refine r_aload_n rfl 124 rfl d_Mod_exchange_123 ?_
          refine r_iconst (nI 0) rfl 125 rfl d_Mod_exchange_124 ?_
          refine r_putf (w2 := MT X a (u1 ν 7 0) (u4 σ f2 g2 h2 l2) τ tx ((tCl (ν 7) tx s).2)) pf_Mod_144 0 rfl (rfl) rfl (Nat.le_of_ble_eq_true rfl) rfl 128 rfl d_Mod_exchange_125 ?_
          refine r_iload rfl 130 rfl d_Mod_exchange_128 ?_
          refine r_if_neN_f 0 (by omega) 133 rfl 146 rfl d_Mod_exchange_130 (by decide) ?_
          refine r_aload_n rfl 134 rfl d_Mod_exchange_133 ?_
          refine r_iload_n rfl 135 rfl d_Mod_exchange_134 ?_
          refine r_putf (w2 := MT X a (u1 ν 7 0) (u4 σ f2 g2 h2 l2) τ tx (TSm (((tCl (ν 7) tx s).2).ax) (((tCl (ν 7) tx s).2).dg) (((tCl (ν 7) tx s).2).op) (ν 21) (((tCl (ν 7) tx s).2).vl) (((tCl (ν 7) tx s).2).c))) pf_Mod_172 0 rfl (rfl) rfl (Nat.le_of_ble_eq_true rfl) rfl 138 rfl d_Mod_exchange_135 ?_
          refine r_bipush ((-10)) rfl 140 rfl d_Mod_exchange_138 ?_
          refine r_aload_n rfl 141 rfl d_Mod_exchange_140 ?_
          refine r_getf (v := .int (nI (((tCl (ν 7) tx s).2).ax))) gf_Mod_147 0 rfl rfl 144 rfl d_Mod_exchange_141 ?_
          refine r_isub 145 rfl d_Mod_exchange_144 ?_
          exact r_iret rfl (Nat.zero_le _) (Nat.zero_le _) d_Mod_exchange_145 (by rw [← hQ]; exact ⟨fun z => absurd z h6, fun _ => ⟨(tN (u1 ν 7 0) (TSm (((tCl (ν 7) tx s).2).ax) (((tCl (ν 7) tx s).2).dg) (((tCl (ν 7) tx s).2).op) (ν 21) (((tCl (ν 7) tx s).2).vl) (((tCl (ν 7) tx s).2).c))), (tS (u4 σ f2 g2 h2 l2) tx (TSm (((tCl (ν 7) tx s).2).ax) (((tCl (ν 7) tx s).2).dg) (((tCl (ν 7) tx s).2).op) (ν 21) (((tCl (ν 7) tx s).2).vl) (((tCl (ν 7) tx s).2).c))), _, rfl, rfl, ⟨fun k z1 z2 z3 z4 z5 z6 => by simp [tN, u1, z1, z2, z3, z4, z5, z6], rfl, fun k z1 z2 z3 z4 z5 z6 z7 z8 => by by_cases z0 : k = 8; rw [z0, h8]; rfl; simp [tS, u4, u2, z0, z1, z2, z3, z4, z5, z6, z7, z8], yb, by have he : exR (ν 7) tx = (false, (aCl (ν 7) tx s.ax).2.1, cs) := (by rw [← hr, aXs, if_neg (fun z => by rw [← y1, h57] at z; cases z)]); rw [he, if_neg Bool.false_ne_true]; exact ⟨by rw [← y2] <;> rfl, rfl, rfl, rfl, rfl⟩⟩⟩⟩)
        · obtain ⟨y1, y2, y3, y4⟩ := tCl_a (n := ν 7) (tx := tx) s hx
          obtain ⟨v1, v2, v3⟩ := tCl_g (n := ν 7) (tx := tx) s hx
          obtain ⟨yb, yc⟩ := XI_below hX hx hP
          have yX := XI_s hX hx hP h57
          refine r_iconst (nI 1) rfl 61 rfl d_Mod_exchange_60 ?_
          refine r_goto 65 rfl d_Mod_exchange_61 ?_
          refine r_istore_n (ls2 := [some (.ref (a 0)), some (.int (nI (ν 21))), some (.int (nI cs.length)), some (.int (nI 1)), some (.int (nI 0))]) 66 rfl d_Mod_exchange_65 (by decide) rfl rfl ?_
          refine r_iload_n rfl 67 rfl d_Mod_exchange_66 ?_
          refine r_if_neN_t 1 (by omega) 73 rfl d_Mod_exchange_67 (by decide) ?_
          refine r_iinc (ls2 := [some (.ref (a 0)), some (.int (nI (ν 21))), some (.int (nI (cs.length + 1))), some (.int (nI 1)), some (.int (nI 0))]) (nI (cs.length + 1)) rfl (nI_1 _) 76 rfl d_Mod_exchange_73 (by decide) rfl rfl ?_
          refine r_aload_n rfl 77 rfl d_Mod_exchange_76 ?_
          refine r_getf (v := .int (nI (((tCl (ν 7) tx s).2).ax))) gf_Mod_147 0 rfl rfl 80 rfl d_Mod_exchange_77 ?_
          refine r_aload_n rfl 81 rfl d_Mod_exchange_80 ?_
          refine r_getf (v := .int (nI (ν 7))) gf_Mod_144 0 rfl rfl 84 rfl d_Mod_exchange_81 ?_
          refine r_icmp_neN (((tCl (ν 7) tx s).2).ax) (ν 7) (by omega) (by omega) 87 91 rfl rfl d_Mod_exchange_84 (fun h84 => ?_) (fun h84 => ?_)
          · refine r_iconst (nI 0) rfl 92 rfl d_Mod_exchange_91 ?_
            refine r_istore (ls2 := [some (.ref (a 0)), some (.int (nI (ν 21))), some (.int (nI (cs.length + 1))), some (.int (nI 1)), some (.int (nI 0))]) 94 rfl d_Mod_exchange_92 (by decide) rfl rfl ?_
            refine r_iload rfl 96 rfl d_Mod_exchange_94 ?_
            refine r_if_neN_f 0 (by omega) 99 rfl 114 rfl d_Mod_exchange_96 (by decide) ?_
            refine r_iload_n rfl 100 rfl d_Mod_exchange_99 ?_
            refine r_bipush (nI 10) rfl 102 rfl d_Mod_exchange_100 ?_
            refine r_icmp_geN (cs.length + 1) 10 (by omega) (by omega) 105 118 rfl rfl d_Mod_exchange_102 (fun h102 => ?_) (fun h102 => ?_)
            · refine r_iconst (nI 0) rfl 119 rfl d_Mod_exchange_118 ?_
              refine r_istore_n (ls2 := [some (.ref (a 0)), some (.int (nI (ν 21))), some (.int (nI (cs.length + 1))), some (.int (nI 0)), some (.int (nI 0))]) 120 rfl d_Mod_exchange_119 (by decide) rfl rfl ?_
              refine r_goto 29 rfl d_Mod_exchange_120 ?_
              refine r_iload_n rfl 30 rfl d_Mod_exchange_29 ?_
              refine r_if_eqN_t 0 (by omega) 123 rfl d_Mod_exchange_30 (by decide) ?_
              refine r_aload_n rfl 124 rfl d_Mod_exchange_123 ?_
              refine r_iconst (nI 0) rfl 125 rfl d_Mod_exchange_124 ?_
              refine r_putf (w2 := MT X a (u1 ν 7 0) (u4 σ f2 g2 h2 l2) τ tx ((tCl (ν 7) tx s).2)) pf_Mod_144 0 rfl (rfl) rfl (Nat.le_of_ble_eq_true rfl) rfl 128 rfl d_Mod_exchange_125 ?_
              refine r_iload rfl 130 rfl d_Mod_exchange_128 ?_
              refine r_if_neN_f 0 (by omega) 133 rfl 146 rfl d_Mod_exchange_130 (by decide) ?_
              refine r_aload_n rfl 134 rfl d_Mod_exchange_133 ?_
              refine r_iload_n rfl 135 rfl d_Mod_exchange_134 ?_
              refine r_putf (w2 := MT X a (u1 ν 7 0) (u4 σ f2 g2 h2 l2) τ tx (TSm (((tCl (ν 7) tx s).2).ax) (((tCl (ν 7) tx s).2).dg) (((tCl (ν 7) tx s).2).op) (ν 21) (((tCl (ν 7) tx s).2).vl) (((tCl (ν 7) tx s).2).c))) pf_Mod_172 0 rfl (rfl) rfl (Nat.le_of_ble_eq_true rfl) rfl 138 rfl d_Mod_exchange_135 ?_
              refine r_bipush ((-10)) rfl 140 rfl d_Mod_exchange_138 ?_
              refine r_aload_n rfl 141 rfl d_Mod_exchange_140 ?_
              refine r_getf (v := .int (nI (((tCl (ν 7) tx s).2).ax))) gf_Mod_147 0 rfl rfl 144 rfl d_Mod_exchange_141 ?_
              refine r_isub 145 rfl d_Mod_exchange_144 ?_
              exact r_iret rfl (Nat.zero_le _) (Nat.zero_le _) d_Mod_exchange_145 (by rw [← hQ]; exact ⟨fun z => absurd z h6, fun _ => ⟨(tN (u1 ν 7 0) (TSm (((tCl (ν 7) tx s).2).ax) (((tCl (ν 7) tx s).2).dg) (((tCl (ν 7) tx s).2).op) (ν 21) (((tCl (ν 7) tx s).2).vl) (((tCl (ν 7) tx s).2).c))), (tS (u4 σ f2 g2 h2 l2) tx (TSm (((tCl (ν 7) tx s).2).ax) (((tCl (ν 7) tx s).2).dg) (((tCl (ν 7) tx s).2).op) (ν 21) (((tCl (ν 7) tx s).2).vl) (((tCl (ν 7) tx s).2).c))), _, rfl, rfl, ⟨fun k z1 z2 z3 z4 z5 z6 => by simp [tN, u1, z1, z2, z3, z4, z5, z6], rfl, fun k z1 z2 z3 z4 z5 z6 z7 z8 => by by_cases z0 : k = 8; rw [z0, h8]; rfl; simp [tS, u4, u2, z0, z1, z2, z3, z4, z5, z6, z7, z8], yb, by have he : exR (ν 7) tx = (false, (aCl (ν 7) tx s.ax).2.1, cs ++ [(aKd (ν 7) tx s.ax, (aCl (ν 7) tx s.ax).2.2.1, (aCl (ν 7) tx s.ax).2.2.2)]) := (by rw [← hr, aXs, if_pos (y1.symm.trans h57), if_neg (fun z => h84 (y2.trans z)), if_pos (by omega)]); rw [he, if_neg Bool.false_ne_true]; exact ⟨by rw [← y2] <;> rfl, rfl, rfl, rfl, rfl⟩⟩⟩⟩)
            · refine r_aload_n rfl 106 rfl d_Mod_exchange_105 ?_
              refine r_bipush (nI 59) rfl 108 rfl d_Mod_exchange_106 ?_
              refine r_callVA1 (st2 := [.int (bI ((tIs (ν 7) tx 59 ((tCl (ν 7) tx s).2)).1))]) (w2 := MT X a ν (u4 σ f2 g2 h2 l2) τ tx ((tIs (ν 7) tx 59 ((tCl (ν 7) tx s).2)).2)) lk_Mod_is ln_Mod_169 (c_Mod_is X a ν (u4 σ f2 g2 h2 l2) τ tx ht hct 59 (by omega) ((tCl (ν 7) tx s).2) (by first | assumption | omega)) (by first | decide | omega) rfl rfl (Nat.le_of_ble_eq_true rfl) (Nat.le_of_ble_eq_true rfl) (Nat.le_of_ble_eq_true rfl) 0 rfl rfl rfl rfl 111 rfl d_Mod_exchange_108 ?_
              refine r_if_eqB 114 118 rfl rfl d_Mod_exchange_111 (fun h111 => ?_) (fun h111 => ?_)
              · refine r_iconst (nI 0) rfl 119 rfl d_Mod_exchange_118 ?_
                refine r_istore_n (ls2 := [some (.ref (a 0)), some (.int (nI (ν 21))), some (.int (nI (cs.length + 1))), some (.int (nI 0)), some (.int (nI 0))]) 120 rfl d_Mod_exchange_119 (by decide) rfl rfl ?_
                refine r_goto 29 rfl d_Mod_exchange_120 ?_
                refine r_iload_n rfl 30 rfl d_Mod_exchange_29 ?_
                refine r_if_eqN_t 0 (by omega) 123 rfl d_Mod_exchange_30 (by decide) ?_
                refine r_aload_n rfl 124 rfl d_Mod_exchange_123 ?_
                refine r_iconst (nI 0) rfl 125 rfl d_Mod_exchange_124 ?_
                refine r_putf (w2 := MT X a (u1 ν 7 0) (u4 σ f2 g2 h2 l2) τ tx ((tIs (ν 7) tx 59 ((tCl (ν 7) tx s).2)).2)) pf_Mod_144 0 rfl (rfl) rfl (Nat.le_of_ble_eq_true rfl) rfl 128 rfl d_Mod_exchange_125 ?_
                refine r_iload rfl 130 rfl d_Mod_exchange_128 ?_
                refine r_if_neN_f 0 (by omega) 133 rfl 146 rfl d_Mod_exchange_130 (by decide) ?_
                refine r_aload_n rfl 134 rfl d_Mod_exchange_133 ?_
                refine r_iload_n rfl 135 rfl d_Mod_exchange_134 ?_
                refine r_putf (w2 := MT X a (u1 ν 7 0) (u4 σ f2 g2 h2 l2) τ tx (TSm (((tIs (ν 7) tx 59 ((tCl (ν 7) tx s).2)).2).ax) (((tIs (ν 7) tx 59 ((tCl (ν 7) tx s).2)).2).dg) (((tIs (ν 7) tx 59 ((tCl (ν 7) tx s).2)).2).op) (ν 21) (((tIs (ν 7) tx 59 ((tCl (ν 7) tx s).2)).2).vl) (((tIs (ν 7) tx 59 ((tCl (ν 7) tx s).2)).2).c))) pf_Mod_172 0 rfl (rfl) rfl (Nat.le_of_ble_eq_true rfl) rfl 138 rfl d_Mod_exchange_135 ?_
                refine r_bipush ((-10)) rfl 140 rfl d_Mod_exchange_138 ?_
                refine r_aload_n rfl 141 rfl d_Mod_exchange_140 ?_
                refine r_getf (v := .int (nI (((tIs (ν 7) tx 59 ((tCl (ν 7) tx s).2)).2).ax))) gf_Mod_147 0 rfl rfl 144 rfl d_Mod_exchange_141 ?_
                refine r_isub 145 rfl d_Mod_exchange_144 ?_
                exact r_iret rfl (Nat.zero_le _) (Nat.zero_le _) d_Mod_exchange_145 (by rw [← hQ]; exact ⟨fun z => absurd z h6, fun _ => ⟨(tN (u1 ν 7 0) (TSm (((tIs (ν 7) tx 59 ((tCl (ν 7) tx s).2)).2).ax) (((tIs (ν 7) tx 59 ((tCl (ν 7) tx s).2)).2).dg) (((tIs (ν 7) tx 59 ((tCl (ν 7) tx s).2)).2).op) (ν 21) (((tIs (ν 7) tx 59 ((tCl (ν 7) tx s).2)).2).vl) (((tIs (ν 7) tx 59 ((tCl (ν 7) tx s).2)).2).c))), (tS (u4 σ f2 g2 h2 l2) tx (TSm (((tIs (ν 7) tx 59 ((tCl (ν 7) tx s).2)).2).ax) (((tIs (ν 7) tx 59 ((tCl (ν 7) tx s).2)).2).dg) (((tIs (ν 7) tx 59 ((tCl (ν 7) tx s).2)).2).op) (ν 21) (((tIs (ν 7) tx 59 ((tCl (ν 7) tx s).2)).2).vl) (((tIs (ν 7) tx 59 ((tCl (ν 7) tx s).2)).2).c))), _, rfl, rfl, ⟨fun k z1 z2 z3 z4 z5 z6 => by simp [tN, u1, z1, z2, z3, z4, z5, z6], rfl, fun k z1 z2 z3 z4 z5 z6 z7 z8 => by by_cases z0 : k = 8; rw [z0, h8]; rfl; simp [tS, u4, u2, z0, z1, z2, z3, z4, z5, z6, z7, z8], (by have := tIs_f h111; show below σ (ν 13) (ν 21) (tIs (ν 7) tx 59 (tCl (ν 7) tx s).2).2.c f2 g2 h2 l2; rw [this]; exact yb), by have he : exR (ν 7) tx = (false, (aCl (ν 7) tx s.ax).2.1, cs ++ [(aKd (ν 7) tx s.ax, (aCl (ν 7) tx s.ax).2.2.1, (aCl (ν 7) tx s.ax).2.2.2)]) := (by rw [← hr, aXs, if_pos (y1.symm.trans h57), if_neg (fun z => h84 (y2.trans z)), if_neg (by omega), if_neg (fun z => by rw [tIs_a, y2] at h111; rw [if_pos z] at h111; cases h111)]); rw [he, if_neg Bool.false_ne_true]; exact ⟨by rw [← ((congrArg TS.ax (tIs_f h111)).trans y2)] <;> rfl, rfl, rfl, rfl, rfl⟩⟩⟩⟩)
              · obtain ⟨u0, rfl⟩ : ∃ u0, u = u0 + 1 := ⟨u - 1, by omega⟩
                obtain ⟨i0, i4, i5⟩ := tIs_t h111
                have i6 : aIs (ν 7) tx 59 (aCl (ν 7) tx s.ax).2.1 = true := by rw [tIs_a, y2] at h111; by_cases z : aIs (ν 7) tx 59 (aCl (ν 7) tx s.ax).2.1 = true; exact z; rw [if_neg z] at h111; cases h111
                have i1 : (tIs (ν 7) tx 59 (tCl (ν 7) tx s).2).2.ax = (tCl (ν 7) tx s).2.ax + 1 := by rw [i0]; rfl
                have i2 : (tIs (ν 7) tx 59 (tCl (ν 7) tx s).2).2.cd = (tCl (ν 7) tx s).2.cd := by rw [i0]; rfl
                refine r_iconst (nI 1) rfl 115 rfl d_Mod_exchange_114 ?_
                refine r_goto 119 rfl d_Mod_exchange_115 ?_
                refine r_istore_n (ls2 := [some (.ref (a 0)), some (.int (nI (ν 21))), some (.int (nI (cs.length + 1))), some (.int (nI 1)), some (.int (nI 0))]) 120 rfl d_Mod_exchange_119 (by decide) rfl rfl ?_
                refine r_goto 29 rfl d_Mod_exchange_120 ?_
                refine r_iload_n rfl 30 rfl d_Mod_exchange_29 ?_
                refine r_if_eqN_f 1 (by omega) 33 rfl 123 rfl d_Mod_exchange_30 (by decide) ?_
                refine r_iload rfl 35 rfl d_Mod_exchange_33 ?_
                refine r_if_neN_f 0 (by omega) 38 rfl 123 rfl d_Mod_exchange_35 (by decide) ?_
                refine Runs.cast (ih2 u0 ((tIs (ν 7) tx 59 ((tCl (ν 7) tx s).2)).2) (cs ++ [(aKd (ν 7) tx s.ax, (aCl (ν 7) tx s.ax).2.2.1, (aCl (ν 7) tx s.ax).2.2.2)]) f2 g2 h2 l2 (by rw [List.length_append]; show cs.length + 1 + (u0 + 1) = 10; omega) (by have hr2 := hr; rw [aXs, if_pos (y1.symm.trans h57), if_neg (fun z => h84 (y2.trans z)), if_neg (by omega), if_pos i6] at hr2; rw [i1, y2]; exact hr2) (by omega) (by omega) (by rw [i0]; exact ⟨yX.1, yX.2.1, yX.2.2⟩) (by omega)) (by rw [List.length_append]; try rfl) rfl (rfl)
          · refine r_iconst (nI 1) rfl 88 rfl d_Mod_exchange_87 ?_
            refine r_goto 92 rfl d_Mod_exchange_88 ?_
            refine r_istore (ls2 := [some (.ref (a 0)), some (.int (nI (ν 21))), some (.int (nI (cs.length + 1))), some (.int (nI 1)), some (.int (nI 1))]) 94 rfl d_Mod_exchange_92 (by decide) rfl rfl ?_
            refine r_iload rfl 96 rfl d_Mod_exchange_94 ?_
            refine r_if_neN_t 1 (by omega) 114 rfl d_Mod_exchange_96 (by decide) ?_
            refine r_iconst (nI 1) rfl 115 rfl d_Mod_exchange_114 ?_
            refine r_goto 119 rfl d_Mod_exchange_115 ?_
            refine r_istore_n (ls2 := [some (.ref (a 0)), some (.int (nI (ν 21))), some (.int (nI (cs.length + 1))), some (.int (nI 1)), some (.int (nI 1))]) 120 rfl d_Mod_exchange_119 (by decide) rfl rfl ?_
            refine r_goto 29 rfl d_Mod_exchange_120 ?_
            refine r_iload_n rfl 30 rfl d_Mod_exchange_29 ?_
            refine r_if_eqN_f 1 (by omega) 33 rfl 123 rfl d_Mod_exchange_30 (by decide) ?_
            refine r_iload rfl 35 rfl d_Mod_exchange_33 ?_
            refine r_if_neN_t 1 (by omega) 123 rfl d_Mod_exchange_35 (by decide) ?_
            refine r_aload_n rfl 124 rfl d_Mod_exchange_123 ?_
            refine r_iconst (nI 0) rfl 125 rfl d_Mod_exchange_124 ?_
            refine r_putf (w2 := MT X a (u1 ν 7 0) (u4 σ f2 g2 h2 l2) τ tx ((tCl (ν 7) tx s).2)) pf_Mod_144 0 rfl (rfl) rfl (Nat.le_of_ble_eq_true rfl) rfl 128 rfl d_Mod_exchange_125 ?_
            refine r_iload rfl 130 rfl d_Mod_exchange_128 ?_
            refine r_if_neN_t 1 (by omega) 146 rfl d_Mod_exchange_130 (by decide) ?_
            refine r_aload_n rfl 147 rfl d_Mod_exchange_146 ?_
            refine r_getf (v := .ref (a 15)) gf_Mod_30 0 rfl rfl 150 rfl d_Mod_exchange_147 ?_
            refine r_aload_n rfl 151 rfl d_Mod_exchange_150 ?_
            refine r_getf (v := .int (nI (ν 13))) gf_Mod_216 0 rfl rfl 154 rfl d_Mod_exchange_151 ?_
            refine r_iload_n rfl 155 rfl d_Mod_exchange_154 ?_
            refine r_iast (w2 := MT X a (u1 ν 7 0) (u2 (u4 σ f2 g2 h2 l2) 15 (upd (σ 15) (ν 13) (nI (cs.length + 1)))) τ tx ((tCl (ν 7) tx s).2)) 7 rfl (ν 13) rfl (by omega) (by omega) rfl 156 rfl d_Mod_exchange_155 ?_
            refine r_aload_n rfl 157 rfl d_Mod_exchange_156 ?_
            refine r_aload_n rfl 158 rfl d_Mod_exchange_157 ?_
            refine r_getf (v := .int (nI (ν 13))) gf_Mod_216 0 rfl rfl 161 rfl d_Mod_exchange_158 ?_
            refine r_putf (w2 := MT X a (u1 ν 7 0) (u2 (u2 (u4 σ f2 g2 h2 l2) 15 (upd (σ 15) (ν 13) (nI (cs.length + 1)))) 14 (upd (σ 14) 0 (nI (ν 13)))) τ tx ((tCl (ν 7) tx s).2)) pf_Mod_107 0 rfl (rfl) rfl (Nat.le_of_ble_eq_true rfl) rfl 164 rfl d_Mod_exchange_161 ?_
            refine r_aload_n rfl 165 rfl d_Mod_exchange_164 ?_
            refine r_dup rfl 166 rfl d_Mod_exchange_165 ?_
            refine r_getf (v := .int (nI (ν 13))) gf_Mod_216 0 rfl rfl 169 rfl d_Mod_exchange_166 ?_
            refine r_dup_x1 rfl rfl 170 rfl d_Mod_exchange_169 ?_
            refine r_iconst (nI 1) rfl 171 rfl d_Mod_exchange_170 ?_
            refine r_iadd 172 rfl d_Mod_exchange_171 ?_
            refine r_topi (nI ((ν 13) + 1)) (nI_add _ _) ?_
            refine r_putf (w2 := MT X a (u1 (u1 ν 7 0) 13 ((ν 13) + 1)) (u2 (u2 (u4 σ f2 g2 h2 l2) 15 (upd (σ 15) (ν 13) (nI (cs.length + 1)))) 14 (upd (σ 14) 0 (nI (ν 13)))) τ tx ((tCl (ν 7) tx s).2)) pf_Mod_216 0 rfl (rfl) rfl (Nat.le_of_ble_eq_true rfl) rfl 175 rfl d_Mod_exchange_172 ?_
            exact r_iret rfl (Nat.zero_le _) (Nat.zero_le _) d_Mod_exchange_175 (by rw [← hQ]; exact ⟨fun z => absurd z h6, fun _ => ⟨(tN (u1 (u1 ν 7 0) 13 ((ν 13) + 1)) ((tCl (ν 7) tx s).2)), (tS (u2 (u2 (u4 σ f2 g2 h2 l2) 15 (upd (σ 15) (ν 13) (nI (cs.length + 1)))) 14 (upd (σ 14) 0 (nI (ν 13)))) tx ((tCl (ν 7) tx s).2)), _, rfl, rfl, ⟨fun k z1 z2 z3 z4 z5 z6 => by simp [tN, u1, z1, z2, z3, z4, z5, z6], rfl, fun k z1 z2 z3 z4 z5 z6 z7 z8 => by by_cases z0 : k = 8; rw [z0, h8]; rfl; simp [tS, u4, u2, z0, z1, z2, z3, z4, z5, z6, z7, z8], yb, by have he : exR (ν 7) tx = (true, (aCl (ν 7) tx s.ax).2.1, cs ++ [(aKd (ν 7) tx s.ax, (aCl (ν 7) tx s.ax).2.2.1, (aCl (ν 7) tx s.ax).2.2.2)]) := (by rw [← hr, aXs, if_pos (y1.symm.trans h57), if_pos (y2.symm.trans h84)]); rw [he, if_pos rfl]; exact ⟨rfl, rfl, yc, by show (tCl (ν 7) tx s).2.cd ≤ _; omega, rfl, fun j hj => pk_un hj, by rw [List.length_append]; exact pk_us, by rw [List.length_append]; show cs.length + 1 ≤ 10; omega, yX.2.2⟩⟩⟩⟩)
    refine Runs.cast (L38_1 _ 9 (TSm 0 (ν 11) (ν 12) (ν 21) (σ 10 0).toUInt32.toNat (σ 20)) ([]) (σ 16) (σ 17) (σ 18) (σ 19) (rfl) (rfl) (Nat.zero_le _) ((by show ν 21 + ν 7 ≤ ν 21 + ν 7 + 0; omega)) (XI_0 (s := TSm 0 (ν 11) (ν 12) (ν 21) (σ 10 0).toUInt32.toNat (σ 20)) rfl) (Nat.lt_succ_self _)) (rfl) rfl (by rw [← u4_self, MT_0 X a ν σ τ tx h8 0 _ (by first | exact (Int32.toBitVec_inj.mp (by simp [nI])) | (apply Int32.toBitVec_inj.mp; show _ = BitVec.ofNat 32 _; rw [show (σ 10 0).toUInt32.toNat = (σ 10 0).toBitVec.toNat from rfl]; exact (BitVec.ofNat_toNat _ _).symm))])
  · refine r_bipush ((-4)) rfl 11 rfl d_Mod_exchange_9 ?_
    exact r_iret rfl (Nat.zero_le _) (Nat.zero_le _) d_Mod_exchange_11 (by rw [← hQ]; exact ⟨fun _ => ⟨rfl, rfl⟩, fun z => absurd h6 z⟩)
