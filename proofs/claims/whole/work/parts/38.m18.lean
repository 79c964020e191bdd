def M_Mod_isF : XM := (⟨"HandshakeBindsModel", "isF", "()Z"⟩, prog_11_method_22_code, 2, (some .boolean))
def M_Mod_isT : XM := (⟨"HandshakeBindsModel", "isT", "()Z"⟩, prog_11_method_23_code, 1, (some .boolean))
theorem d_Mod_isT_0 : decode M_Mod_isT.2.1 0 = .ok (.aload_n 0, 1) := by decide +kernel
theorem d_Mod_isT_1 : decode M_Mod_isT.2.1 1 = .ok (.invokevirtual 194, 3) := by decide +kernel
theorem ln_Mod_194 : Cond.methodLink "HandshakeBindsModel" 194 M_Mod_isF.1 ∈ TB := inTB 1083 (by decide +kernel) rfl
theorem lk_Mod_isF : LVt M_Mod_isF 0 := ⟨⟨inTB 72 (by decide +kernel) rfl, inTB 1086 (by decide +kernel) rfl, ⟨by decide, by decide, by decide +kernel⟩, by decide⟩, inTB 1085 (by decide +kernel) rfl, inTB 34 (by decide +kernel) rfl⟩
theorem d_Mod_isT_4 : decode M_Mod_isT.2.1 4 = .ok (.ifCond .ne 5, 3) := by decide +kernel
theorem d_Mod_isT_9 : decode M_Mod_isT.2.1 9 = .ok (.aload_n 0, 1) := by decide +kernel
theorem d_Mod_isT_10 : decode M_Mod_isT.2.1 10 = .ok (.bipush 38, 2) := by decide +kernel
theorem d_Mod_isT_12 : decode M_Mod_isT.2.1 12 = .ok (.invokevirtual 169, 3) := by decide +kernel
theorem d_Mod_isT_15 : decode M_Mod_isT.2.1 15 = .ok (.ifCond .eq 20, 3) := by decide +kernel
theorem d_Mod_isT_35 : decode M_Mod_isT.2.1 35 = .ok (.iconst 1, 1) := by decide +kernel
theorem d_Mod_isT_36 : decode M_Mod_isT.2.1 36 = .ok (.ireturn, 1) := by decide +kernel
theorem d_Mod_isT_18 : decode M_Mod_isT.2.1 18 = .ok (.aload_n 0, 1) := by decide +kernel
theorem d_Mod_isT_19 : decode M_Mod_isT.2.1 19 = .ok (.invokevirtual 194, 3) := by decide +kernel
theorem d_Mod_isT_22 : decode M_Mod_isT.2.1 22 = .ok (.ifCond .eq 11, 3) := by decide +kernel
theorem d_Mod_isT_33 : decode M_Mod_isT.2.1 33 = .ok (.iconst 0, 1) := by decide +kernel
theorem d_Mod_isT_34 : decode M_Mod_isT.2.1 34 = .ok (.ireturn, 1) := by decide +kernel
theorem d_Mod_isT_25 : decode M_Mod_isT.2.1 25 = .ok (.aload_n 0, 1) := by decide +kernel
theorem d_Mod_isT_26 : decode M_Mod_isT.2.1 26 = .ok (.iconst 1, 1) := by decide +kernel
theorem d_Mod_isT_27 : decode M_Mod_isT.2.1 27 = .ok (.invokevirtual 185, 3) := by decide +kernel
theorem d_Mod_isT_30 : decode M_Mod_isT.2.1 30 = .ok (.ifCond .ne (-21), 3) := by decide +kernel
theorem d_Mod_isT_7 : decode M_Mod_isT.2.1 7 = .ok (.iconst 0, 1) := by decide +kernel
theorem d_Mod_isT_8 : decode M_Mod_isT.2.1 8 = .ok (.ireturn, 1) := by decide +kernel
def M_Mod_isE : XM := (⟨"HandshakeBindsModel", "isE", "()Z"⟩, prog_11_method_24_code, 1, (some .boolean))
theorem d_Mod_isE_0 : decode M_Mod_isE.2.1 0 = .ok (.aload_n 0, 1) := by decide +kernel
theorem d_Mod_isE_1 : decode M_Mod_isE.2.1 1 = .ok (.invokevirtual 203, 3) := by decide +kernel
theorem ln_Mod_203 : Cond.methodLink "HandshakeBindsModel" 203 M_Mod_isT.1 ∈ TB := inTB 1079 (by decide +kernel) rfl
theorem lk_Mod_isT : LVt M_Mod_isT 0 := ⟨⟨inTB 72 (by decide +kernel) rfl, inTB 1082 (by decide +kernel) rfl, ⟨by decide, by decide, by decide +kernel⟩, by decide⟩, inTB 1081 (by decide +kernel) rfl, inTB 33 (by decide +kernel) rfl⟩
theorem d_Mod_isE_4 : decode M_Mod_isE.2.1 4 = .ok (.ifCond .ne 5, 3) := by decide +kernel
theorem d_Mod_isE_9 : decode M_Mod_isE.2.1 9 = .ok (.aload_n 0, 1) := by decide +kernel
theorem d_Mod_isE_10 : decode M_Mod_isE.2.1 10 = .ok (.bipush 124, 2) := by decide +kernel
theorem d_Mod_isE_12 : decode M_Mod_isE.2.1 12 = .ok (.invokevirtual 169, 3) := by decide +kernel
theorem d_Mod_isE_15 : decode M_Mod_isE.2.1 15 = .ok (.ifCond .eq 20, 3) := by decide +kernel
theorem d_Mod_isE_35 : decode M_Mod_isE.2.1 35 = .ok (.iconst 1, 1) := by decide +kernel
theorem d_Mod_isE_36 : decode M_Mod_isE.2.1 36 = .ok (.ireturn, 1) := by decide +kernel
theorem d_Mod_isE_18 : decode M_Mod_isE.2.1 18 = .ok (.aload_n 0, 1) := by decide +kernel
theorem d_Mod_isE_19 : decode M_Mod_isE.2.1 19 = .ok (.invokevirtual 203, 3) := by decide +kernel
theorem d_Mod_isE_22 : decode M_Mod_isE.2.1 22 = .ok (.ifCond .eq 11, 3) := by decide +kernel
theorem d_Mod_isE_33 : decode M_Mod_isE.2.1 33 = .ok (.iconst 0, 1) := by decide +kernel
theorem d_Mod_isE_34 : decode M_Mod_isE.2.1 34 = .ok (.ireturn, 1) := by decide +kernel
theorem d_Mod_isE_25 : decode M_Mod_isE.2.1 25 = .ok (.aload_n 0, 1) := by decide +kernel
theorem d_Mod_isE_26 : decode M_Mod_isE.2.1 26 = .ok (.iconst 2, 1) := by decide +kernel
theorem d_Mod_isE_27 : decode M_Mod_isE.2.1 27 = .ok (.invokevirtual 185, 3) := by decide +kernel
theorem d_Mod_isE_30 : decode M_Mod_isE.2.1 30 = .ok (.ifCond .ne (-21), 3) := by decide +kernel
theorem d_Mod_isE_7 : decode M_Mod_isE.2.1 7 = .ok (.iconst 0, 1) := by decide +kernel
theorem d_Mod_isE_8 : decode M_Mod_isE.2.1 8 = .ok (.ireturn, 1) := by decide +kernel
theorem d_Mod_isF_0 : decode M_Mod_isF.2.1 0 = .ok (.aload_n 0, 1) := by decide +kernel
theorem d_Mod_isF_1 : decode M_Mod_isF.2.1 1 = .ok (.bipush 33, 2) := by decide +kernel
theorem d_Mod_isF_3 : decode M_Mod_isF.2.1 3 = .ok (.invokevirtual 191, 3) := by decide +kernel
theorem ln_Mod_191 : Cond.methodLink "HandshakeBindsModel" 191 M_Mod_isOpened.1 ∈ TB := inTB 1087 (by decide +kernel) rfl
theorem lk_Mod_isOpened : LVt M_Mod_isOpened 1 := ⟨⟨inTB 72 (by decide +kernel) rfl, inTB 1090 (by decide +kernel) rfl, ⟨by decide, by decide, by decide +kernel⟩, by decide⟩, inTB 1089 (by decide +kernel) rfl, inTB 35 (by decide +kernel) rfl⟩
theorem d_Mod_isF_6 : decode M_Mod_isF.2.1 6 = .ok (.ifCond .eq 27, 3) := by decide +kernel
theorem d_Mod_isF_33 : decode M_Mod_isF.2.1 33 = .ok (.aload_n 0, 1) := by decide +kernel
theorem d_Mod_isF_34 : decode M_Mod_isF.2.1 34 = .ok (.bipush 40, 2) := by decide +kernel
theorem d_Mod_isF_36 : decode M_Mod_isF.2.1 36 = .ok (.invokevirtual 191, 3) := by decide +kernel
theorem d_Mod_isF_39 : decode M_Mod_isF.2.1 39 = .ok (.ifCond .eq 28, 3) := by decide +kernel
theorem d_Mod_isF_67 : decode M_Mod_isF.2.1 67 = .ok (.aload_n 0, 1) := by decide +kernel
theorem d_Mod_isF_68 : decode M_Mod_isF.2.1 68 = .ok (.invokevirtual 200, 3) := by decide +kernel
theorem ln_Mod_200 : Cond.methodLink "HandshakeBindsModel" 200 M_Mod_isTest.1 ∈ TB := inTB 1095 (by decide +kernel) rfl
theorem lk_Mod_isTest : LVt M_Mod_isTest 0 := ⟨⟨inTB 72 (by decide +kernel) rfl, inTB 1098 (by decide +kernel) rfl, ⟨by decide, by decide, by decide +kernel⟩, by decide⟩, inTB 1097 (by decide +kernel) rfl, inTB 37 (by decide +kernel) rfl⟩
theorem d_Mod_isF_71 : decode M_Mod_isF.2.1 71 = .ok (.ireturn, 1) := by decide +kernel
theorem d_Mod_isF_42 : decode M_Mod_isF.2.1 42 = .ok (.aload_n 0, 1) := by decide +kernel
theorem d_Mod_isF_43 : decode M_Mod_isF.2.1 43 = .ok (.invokevirtual 197, 3) := by decide +kernel
theorem ln_Mod_197 : Cond.methodLink "HandshakeBindsModel" 197 M_Mod_isE.1 ∈ TB := inTB 1075 (by decide +kernel) rfl
theorem lk_Mod_isE : LVt M_Mod_isE 0 := ⟨⟨inTB 72 (by decide +kernel) rfl, inTB 1078 (by decide +kernel) rfl, ⟨by decide, by decide, by decide +kernel⟩, by decide⟩, inTB 1077 (by decide +kernel) rfl, inTB 32 (by decide +kernel) rfl⟩
theorem d_Mod_isF_46 : decode M_Mod_isF.2.1 46 = .ok (.ifCond .eq 16, 3) := by decide +kernel
theorem d_Mod_isF_62 : decode M_Mod_isF.2.1 62 = .ok (.iconst 0, 1) := by decide +kernel
theorem d_Mod_isF_63 : decode M_Mod_isF.2.1 63 = .ok (.istore_n 1, 1) := by decide +kernel
theorem d_Mod_isF_64 : decode M_Mod_isF.2.1 64 = .ok (.goto 8, 3) := by decide +kernel
theorem d_Mod_isF_72 : decode M_Mod_isF.2.1 72 = .ok (.aload_n 0, 1) := by decide +kernel
theorem d_Mod_isF_73 : decode M_Mod_isF.2.1 73 = .ok (.dup, 1) := by decide +kernel
theorem d_Mod_isF_74 : decode M_Mod_isF.2.1 74 = .ok (.getfield 188, 3) := by decide +kernel
theorem d_Mod_isF_77 : decode M_Mod_isF.2.1 77 = .ok (.iconst 1, 1) := by decide +kernel
theorem d_Mod_isF_78 : decode M_Mod_isF.2.1 78 = .ok (.isub, 1) := by decide +kernel
theorem d_Mod_isF_79 : decode M_Mod_isF.2.1 79 = .ok (.putfield 188, 3) := by decide +kernel
theorem d_Mod_isF_82 : decode M_Mod_isF.2.1 82 = .ok (.iload_n 1, 1) := by decide +kernel
theorem d_Mod_isF_83 : decode M_Mod_isF.2.1 83 = .ok (.ireturn, 1) := by decide +kernel
theorem d_Mod_isF_49 : decode M_Mod_isF.2.1 49 = .ok (.aload_n 0, 1) := by decide +kernel
theorem d_Mod_isF_50 : decode M_Mod_isF.2.1 50 = .ok (.bipush 41, 2) := by decide +kernel
theorem d_Mod_isF_52 : decode M_Mod_isF.2.1 52 = .ok (.invokevirtual 169, 3) := by decide +kernel
theorem d_Mod_isF_55 : decode M_Mod_isF.2.1 55 = .ok (.ifCond .eq 7, 3) := by decide +kernel
theorem d_Mod_isF_58 : decode M_Mod_isF.2.1 58 = .ok (.iconst 1, 1) := by decide +kernel
theorem d_Mod_isF_59 : decode M_Mod_isF.2.1 59 = .ok (.goto 4, 3) := by decide +kernel
theorem d_Mod_isF_9 : decode M_Mod_isF.2.1 9 = .ok (.aload_n 0, 1) := by decide +kernel
theorem d_Mod_isF_10 : decode M_Mod_isF.2.1 10 = .ok (.invokevirtual 194, 3) := by decide +kernel
theorem d_Mod_isF_13 : decode M_Mod_isF.2.1 13 = .ok (.ifCond .eq 15, 3) := by decide +kernel
theorem d_Mod_isF_28 : decode M_Mod_isF.2.1 28 = .ok (.iconst 0, 1) := by decide +kernel
theorem d_Mod_isF_29 : decode M_Mod_isF.2.1 29 = .ok (.istore_n 1, 1) := by decide +kernel
theorem d_Mod_isF_30 : decode M_Mod_isF.2.1 30 = .ok (.goto 42, 3) := by decide +kernel
theorem d_Mod_isF_16 : decode M_Mod_isF.2.1 16 = .ok (.aload_n 0, 1) := by decide +kernel
theorem d_Mod_isF_17 : decode M_Mod_isF.2.1 17 = .ok (.iconst 0, 1) := by decide +kernel
theorem d_Mod_isF_18 : decode M_Mod_isF.2.1 18 = .ok (.invokevirtual 185, 3) := by decide +kernel
theorem d_Mod_isF_21 : decode M_Mod_isF.2.1 21 = .ok (.ifCond .eq 7, 3) := by decide +kernel
theorem d_Mod_isF_24 : decode M_Mod_isF.2.1 24 = .ok (.iconst 1, 1) := by decide +kernel
theorem d_Mod_isF_25 : decode M_Mod_isF.2.1 25 = .ok (.goto 4, 3) := by decide +kernel
theorem c_Mod_isT (X : Xn) (a ν : Nat → Nat) (σ : Nat → Nat → Int32) (τ : Nat → Int64) (tx : Nat → Nat) (ht : ν 7 ≤ 100) (hct : ∀ x, tx x < 128) (g : TS → Bool × TS) (o dF : Nat) (hdF : 7 ≤ dF) (hF : ∀ r : TS, r.ax ≤ ν 7 → r.cd + ν 7 ≤ 700 + r.ax → r.op + o = 4 → Does X dF M_Mod_isF [.ref (a 0)] (MT X a ν σ τ tx r) 0 0 (fun (vv : Option Value) (ww : va_W) => vv = some (.int (bI (g r).1)) ∧ ww = MT X a ν σ τ tx (g r).2)) (hG : ∀ s : TS, s.ax ≤ ν 7 → tG (ν 7) s (g s).2) (s : TS) (hax : s.ax ≤ ν 7) (hcd : s.cd + ν 7 ≤ 700 + s.ax) (hop : s.op + o = 4) : Does X (dF + 1) M_Mod_isT [.ref (a 0)] (MT X a ν σ τ tx s) 0 0 (fun (vv : Option Value) (ww : va_W) => vv = some (.int (bI (tRow (ν 7) tx g 38 1 s).1)) ∧ ww = MT X a ν σ τ tx ((tRow (ν 7) tx g 38 1 s).2)) := by
  generalize hQ : (fun (vv : Option Value) (ww : va_W) => vv = some (.int (bI (tRow (ν 7) tx g 38 1 s).1)) ∧ ww = MT X a ν σ τ tx ((tRow (ν 7) tx g 38 1 s).2)) = Q
  refine Does.go rfl (Nat.le_of_ble_eq_true rfl) [some (.ref (a 0))] 0 rfl ?_
  refine r_aload_n rfl 1 rfl d_Mod_isT_0 ?_
  refine r_callVA1 (st2 := [.int (bI ((g s).1))]) (w2 := MT X a ν σ τ tx ((g s).2)) lk_Mod_isF ln_Mod_194 (hF s (by first | assumption | omega) (by first | assumption | omega) (by first | assumption | omega)) (by first | decide | omega) rfl rfl (Nat.le_of_ble_eq_true rfl) (Nat.le_of_ble_eq_true rfl) (Nat.le_of_ble_eq_true rfl) 0 rfl rfl rfl rfl 4 rfl d_Mod_isT_1 ?_
  refine r_if_neB 7 9 rfl rfl d_Mod_isT_4 (fun h4 => ?_) (fun h4 => ?_)
  · have hg0 := hG s hax
    have g1 := hg0.1
    have g2 := hg0.2.1 hax
    have g3 := hg0.2.2.1
    have g4 := hg0.2.2.2
    have L9_1 : ∀ (f : Nat) (u : Nat) (r : TS), (tLoop (ν 7) tx g 38 1 u r = tLoop (ν 7) tx g 38 1 101 ((g s).2)) → (ν 7 - r.ax < u) → (r.ax ≤ ν 7) → (r.cd + ν 7 ≤ 700 + r.ax) → (r.op + o = 4) → u < f → Runs X (dF + 1) M_Mod_isT 0 0 Q 9 [some (.ref (a 0))] [] 0 0 (MT X a ν σ τ tx r) := by
      intro f
      induction f with
      | zero => intro u r hr hu hx hc ho hmu; exact absurd hmu (Nat.not_lt_zero _)
      | succ f ih2 =>
        intro u r hr hu hx hc ho hmu
        refine r_aload_n rfl 10 rfl d_Mod_isT_9 ?_
        refine r_bipush (nI 38) rfl 12 rfl d_Mod_isT_10 ?_
        refine r_callVA1 (st2 := [.int (bI ((tIs (ν 7) tx 38 r).1))]) (w2 := MT X a ν σ τ tx ((tIs (ν 7) tx 38 r).2)) lk_Mod_is ln_Mod_169 (c_Mod_is X a ν σ τ tx ht hct 38 (by omega) r (by first | assumption | omega)) (by first | decide | omega) rfl rfl (Nat.le_of_ble_eq_true rfl) (Nat.le_of_ble_eq_true rfl) (Nat.le_of_ble_eq_true rfl) 0 rfl rfl rfl rfl 15 rfl d_Mod_isT_12 ?_
        refine r_if_eqB 18 35 rfl rfl d_Mod_isT_15 (fun h15 => ?_) (fun h15 => ?_)
        · obtain ⟨u0, rfl⟩ : ∃ u0, u = u0 + 1 := ⟨u - 1, by omega⟩
          refine r_iconst (nI 1) rfl 36 rfl d_Mod_isT_35 ?_
          exact r_zret rfl (rfl) (Nat.zero_le _) (Nat.zero_le _) d_Mod_isT_36 (by rw [← hQ]; exact zR (q := tRow (ν 7) tx g 38 1 s) (b := true) (by unfold tRow; rw [if_pos h4, ← hr, tLoop, if_neg (by rw [h15]; decide)]) rfl)
        · obtain ⟨u0, rfl⟩ : ∃ u0, u = u0 + 1 := ⟨u - 1, by omega⟩
          have it := tIs_t h15
          have i1 : (tIs (ν 7) tx 38 r).2.ax = r.ax + 1 := by rw [it.1]; rfl
          have i2 : (tIs (ν 7) tx 38 r).2.cd = r.cd := by rw [it.1]; rfl
          have i3 : (tIs (ν 7) tx 38 r).2.op = r.op := by rw [it.1]; rfl
          have i4 := it.2.1
          have hg1 := hG (tIs (ν 7) tx 38 r).2 (by omega)
          have k1 := hg1.1
          have k2 := hg1.2.1 (by omega)
          have k3 := hg1.2.2.1
          have k4 := hg1.2.2.2
          refine r_aload_n rfl 19 rfl d_Mod_isT_18 ?_
          refine r_callVA1 (st2 := [.int (bI ((g ((tIs (ν 7) tx 38 r).2)).1))]) (w2 := MT X a ν σ τ tx ((g ((tIs (ν 7) tx 38 r).2)).2)) lk_Mod_isF ln_Mod_194 (hF ((tIs (ν 7) tx 38 r).2) (by first | assumption | omega) (by first | assumption | omega) (by first | assumption | omega)) (by first | decide | omega) rfl rfl (Nat.le_of_ble_eq_true rfl) (Nat.le_of_ble_eq_true rfl) (Nat.le_of_ble_eq_true rfl) 0 rfl rfl rfl rfl 22 rfl d_Mod_isT_19 ?_
          refine r_if_eqB 25 33 rfl rfl d_Mod_isT_22 (fun h22 => ?_) (fun h22 => ?_)
          · refine r_iconst (nI 0) rfl 34 rfl d_Mod_isT_33 ?_
            exact r_zret rfl (rfl) (Nat.zero_le _) (Nat.zero_le _) d_Mod_isT_34 (by rw [← hQ]; exact zR (q := tRow (ν 7) tx g 38 1 s) (b := false) (by unfold tRow; rw [if_pos h4, ← hr, tLoop, if_pos h15, if_neg (by rw [h22]; decide)]) rfl)
          · refine r_aload_n rfl 26 rfl d_Mod_isT_25 ?_
            refine r_iconst (nI 1) rfl 27 rfl d_Mod_isT_26 ?_
            refine r_callVA1 (st2 := [.int (nI 1)]) (w2 := MT X a ν σ τ tx (tCode 1 ((g ((tIs (ν 7) tx 38 r).2)).2))) lk_Mod_codes ln_Mod_185 (c_Mod_codes X a ν σ τ tx ht hct 1 ((g ((tIs (ν 7) tx 38 r).2)).2) (by first | assumption | omega)) (by first | decide | omega) rfl rfl (Nat.le_of_ble_eq_true rfl) (Nat.le_of_ble_eq_true rfl) (Nat.le_of_ble_eq_true rfl) 0 rfl rfl rfl rfl 30 rfl d_Mod_isT_27 ?_
            refine r_if_neN_t 1 (by omega) 9 rfl d_Mod_isT_30 (by decide) ?_
            exact ih2 u0 (tCode 1 ((g ((tIs (ν 7) tx 38 r).2)).2)) (by rw [← hr, tLoop, if_pos h15, if_pos h22]) (by show ν 7 - (g (tIs (ν 7) tx 38 r).2).2.ax < u0; omega) (by show (g (tIs (ν 7) tx 38 r).2).2.ax ≤ ν 7; omega) (by show (g (tIs (ν 7) tx 38 r).2).2.cd + 1 + ν 7 ≤ 700 + (g (tIs (ν 7) tx 38 r).2).2.ax; omega) (by show (g (tIs (ν 7) tx 38 r).2).2.op + o = 4; omega) (Nat.lt_of_succ_lt_succ hmu)
    exact L9_1 _ 101 ((g s).2) (rfl) (by omega) (by omega) (by omega) (by omega) (Nat.lt_succ_self _)
  · refine r_iconst (nI 0) rfl 8 rfl d_Mod_isT_7 ?_
    exact r_zret rfl (rfl) (Nat.zero_le _) (Nat.zero_le _) d_Mod_isT_8 (by rw [← hQ]; exact zR (q := tRow (ν 7) tx g 38 1 s) (b := false) (by unfold tRow; rw [if_neg (by rw [h4]; decide)]) rfl)
theorem c_Mod_isE (X : Xn) (a ν : Nat → Nat) (σ : Nat → Nat → Int32) (τ : Nat → Int64) (tx : Nat → Nat) (ht : ν 7 ≤ 100) (hct : ∀ x, tx x < 128) (g : TS → Bool × TS) (o dF : Nat) (hdF : 7 ≤ dF) (hF : ∀ r : TS, r.ax ≤ ν 7 → r.cd + ν 7 ≤ 700 + r.ax → r.op + o = 4 → Does X dF M_Mod_isT [.ref (a 0)] (MT X a ν σ τ tx r) 0 0 (fun (vv : Option Value) (ww : va_W) => vv = some (.int (bI (g r).1)) ∧ ww = MT X a ν σ τ tx (g r).2)) (hG : ∀ s : TS, s.ax ≤ ν 7 → tG (ν 7) s (g s).2) (s : TS) (hax : s.ax ≤ ν 7) (hcd : s.cd + ν 7 ≤ 700 + s.ax) (hop : s.op + o = 4) : Does X (dF + 1) M_Mod_isE [.ref (a 0)] (MT X a ν σ τ tx s) 0 0 (fun (vv : Option Value) (ww : va_W) => vv = some (.int (bI (tRow (ν 7) tx g 124 2 s).1)) ∧ ww = MT X a ν σ τ tx ((tRow (ν 7) tx g 124 2 s).2)) := by
  generalize hQ : (fun (vv : Option Value) (ww : va_W) => vv = some (.int (bI (tRow (ν 7) tx g 124 2 s).1)) ∧ ww = MT X a ν σ τ tx ((tRow (ν 7) tx g 124 2 s).2)) = Q
  refine Does.go rfl (Nat.le_of_ble_eq_true rfl) [some (.ref (a 0))] 0 rfl ?_
  refine r_aload_n rfl 1 rfl d_Mod_isE_0 ?_
  refine r_callVA1 (st2 := [.int (bI ((g s).1))]) (w2 := MT X a ν σ τ tx ((g s).2)) lk_Mod_isT ln_Mod_203 (hF s (by first | assumption | omega) (by first | assumption | omega) (by first | assumption | omega)) (by first | decide | omega) rfl rfl (Nat.le_of_ble_eq_true rfl) (Nat.le_of_ble_eq_true rfl) (Nat.le_of_ble_eq_true rfl) 0 rfl rfl rfl rfl 4 rfl d_Mod_isE_1 ?_
  refine r_if_neB 7 9 rfl rfl d_Mod_isE_4 (fun h4 => ?_) (fun h4 => ?_)
  · have hg0 := hG s hax
    have g1 := hg0.1
    have g2 := hg0.2.1 hax
    have g3 := hg0.2.2.1
    have g4 := hg0.2.2.2
    have L9_1 : ∀ (f : Nat) (u : Nat) (r : TS), (tLoop (ν 7) tx g 124 2 u r = tLoop (ν 7) tx g 124 2 101 ((g s).2)) → (ν 7 - r.ax < u) → (r.ax ≤ ν 7) → (r.cd + ν 7 ≤ 700 + r.ax) → (r.op + o = 4) → u < f → Runs X (dF + 1) M_Mod_isE 0 0 Q 9 [some (.ref (a 0))] [] 0 0 (MT X a ν σ τ tx r) := by
      intro f
      induction f with
      | zero => intro u r hr hu hx hc ho hmu; exact absurd hmu (Nat.not_lt_zero _)
      | succ f ih2 =>
        intro u r hr hu hx hc ho hmu
        refine r_aload_n rfl 10 rfl d_Mod_isE_9 ?_
        refine r_bipush (nI 124) rfl 12 rfl d_Mod_isE_10 ?_
        refine r_callVA1 (st2 := [.int (bI ((tIs (ν 7) tx 124 r).1))]) (w2 := MT X a ν σ τ tx ((tIs (ν 7) tx 124 r).2)) lk_Mod_is ln_Mod_169 (c_Mod_is X a ν σ τ tx ht hct 124 (by omega) r (by first | assumption | omega)) (by first | decide | omega) rfl rfl (Nat.le_of_ble_eq_true rfl) (Nat.le_of_ble_eq_true rfl) (Nat.le_of_ble_eq_true rfl) 0 rfl rfl rfl rfl 15 rfl d_Mod_isE_12 ?_
        refine r_if_eqB 18 35 rfl rfl d_Mod_isE_15 (fun h15 => ?_) (fun h15 => ?_)
        · obtain ⟨u0, rfl⟩ : ∃ u0, u = u0 + 1 := ⟨u - 1, by omega⟩
          refine r_iconst (nI 1) rfl 36 rfl d_Mod_isE_35 ?_
          exact r_zret rfl (rfl) (Nat.zero_le _) (Nat.zero_le _) d_Mod_isE_36 (by rw [← hQ]; exact zR (q := tRow (ν 7) tx g 124 2 s) (b := true) (by unfold tRow; rw [if_pos h4, ← hr, tLoop, if_neg (by rw [h15]; decide)]) rfl)
        · obtain ⟨u0, rfl⟩ : ∃ u0, u = u0 + 1 := ⟨u - 1, by omega⟩
          have it := tIs_t h15
          have i1 : (tIs (ν 7) tx 124 r).2.ax = r.ax + 1 := by rw [it.1]; rfl
          have i2 : (tIs (ν 7) tx 124 r).2.cd = r.cd := by rw [it.1]; rfl
          have i3 : (tIs (ν 7) tx 124 r).2.op = r.op := by rw [it.1]; rfl
          have i4 := it.2.1
          have hg1 := hG (tIs (ν 7) tx 124 r).2 (by omega)
          have k1 := hg1.1
          have k2 := hg1.2.1 (by omega)
          have k3 := hg1.2.2.1
          have k4 := hg1.2.2.2
          refine r_aload_n rfl 19 rfl d_Mod_isE_18 ?_
          refine r_callVA1 (st2 := [.int (bI ((g ((tIs (ν 7) tx 124 r).2)).1))]) (w2 := MT X a ν σ τ tx ((g ((tIs (ν 7) tx 124 r).2)).2)) lk_Mod_isT ln_Mod_203 (hF ((tIs (ν 7) tx 124 r).2) (by first | assumption | omega) (by first | assumption | omega) (by first | assumption | omega)) (by first | decide | omega) rfl rfl (Nat.le_of_ble_eq_true rfl) (Nat.le_of_ble_eq_true rfl) (Nat.le_of_ble_eq_true rfl) 0 rfl rfl rfl rfl 22 rfl d_Mod_isE_19 ?_
          refine r_if_eqB 25 33 rfl rfl d_Mod_isE_22 (fun h22 => ?_) (fun h22 => ?_)
          · refine r_iconst (nI 0) rfl 34 rfl d_Mod_isE_33 ?_
            exact r_zret rfl (rfl) (Nat.zero_le _) (Nat.zero_le _) d_Mod_isE_34 (by rw [← hQ]; exact zR (q := tRow (ν 7) tx g 124 2 s) (b := false) (by unfold tRow; rw [if_pos h4, ← hr, tLoop, if_pos h15, if_neg (by rw [h22]; decide)]) rfl)
          · refine r_aload_n rfl 26 rfl d_Mod_isE_25 ?_
            refine r_iconst (nI 2) rfl 27 rfl d_Mod_isE_26 ?_
            refine r_callVA1 (st2 := [.int (nI 1)]) (w2 := MT X a ν σ τ tx (tCode 2 ((g ((tIs (ν 7) tx 124 r).2)).2))) lk_Mod_codes ln_Mod_185 (c_Mod_codes X a ν σ τ tx ht hct 2 ((g ((tIs (ν 7) tx 124 r).2)).2) (by first | assumption | omega)) (by first | decide | omega) rfl rfl (Nat.le_of_ble_eq_true rfl) (Nat.le_of_ble_eq_true rfl) (Nat.le_of_ble_eq_true rfl) 0 rfl rfl rfl rfl 30 rfl d_Mod_isE_27 ?_
            refine r_if_neN_t 1 (by omega) 9 rfl d_Mod_isE_30 (by decide) ?_
            exact ih2 u0 (tCode 2 ((g ((tIs (ν 7) tx 124 r).2)).2)) (by rw [← hr, tLoop, if_pos h15, if_pos h22]) (by show ν 7 - (g (tIs (ν 7) tx 124 r).2).2.ax < u0; omega) (by show (g (tIs (ν 7) tx 124 r).2).2.ax ≤ ν 7; omega) (by show (g (tIs (ν 7) tx 124 r).2).2.cd + 1 + ν 7 ≤ 700 + (g (tIs (ν 7) tx 124 r).2).2.ax; omega) (by show (g (tIs (ν 7) tx 124 r).2).2.op + o = 4; omega) (Nat.lt_of_succ_lt_succ hmu)
    exact L9_1 _ 101 ((g s).2) (rfl) (by omega) (by omega) (by omega) (by omega) (Nat.lt_succ_self _)
  · refine r_iconst (nI 0) rfl 8 rfl d_Mod_isE_7 ?_
    exact r_zret rfl (rfl) (Nat.zero_le _) (Nat.zero_le _) d_Mod_isE_8 (by rw [← hQ]; exact zR (q := tRow (ν 7) tx g 124 2 s) (b := false) (by unfold tRow; rw [if_neg (by rw [h4]; decide)]) rfl)
theorem c_Mod_isF0 (X : Xn) (a ν : Nat → Nat) (σ : Nat → Nat → Int32) (τ : Nat → Int64) (tx : Nat → Nat) (ht : ν 7 ≤ 100) (hct : ∀ x, tx x < 128) (s : TS) (hax : s.ax ≤ ν 7) (hcd : s.cd + ν 7 ≤ 700 + s.ax) (hop : s.op + 0 = 4) : Does X 8 M_Mod_isF [.ref (a 0)] (MT X a ν σ τ tx s) 0 0 (fun (vv : Option Value) (ww : va_W) => vv = some (.int (bI (tF (ν 7) tx 0 s).1)) ∧ ww = MT X a ν σ τ tx ((tF (ν 7) tx 0 s).2)) := by
  generalize hQ : (fun (vv : Option Value) (ww : va_W) => vv = some (.int (bI (tF (ν 7) tx 0 s).1)) ∧ ww = MT X a ν σ τ tx ((tF (ν 7) tx 0 s).2)) = Q
  refine Does.go rfl (Nat.le_of_ble_eq_true rfl) [some (.ref (a 0)), none] 1 rfl ?_
  refine r_aload_n rfl 1 rfl d_Mod_isF_0 ?_
  refine r_bipush (nI 33) rfl 3 rfl d_Mod_isF_1 ?_
  refine r_callVA1 (st2 := [.int (bI ((tOpen (ν 7) tx 33 s).1))]) (w2 := MT X a ν σ τ tx ((tOpen (ν 7) tx 33 s).2)) lk_Mod_isOpened ln_Mod_191 (c_Mod_isOpened X a ν σ τ tx ht hct 33 (by omega) s (by first | assumption | omega) (by first | assumption | omega)) (by first | decide | omega) rfl rfl (Nat.le_of_ble_eq_true rfl) (Nat.le_of_ble_eq_true rfl) (Nat.le_of_ble_eq_true rfl) 0 rfl rfl rfl rfl 6 rfl d_Mod_isF_3 ?_
  refine r_if_eqB_t 33 rfl d_Mod_isF_6 (by unfold tOpen; rw [if_pos (by omega)]) ?_
  refine Runs.cast (w' := MT X a ν σ τ tx s) ?_ rfl rfl (by rw [tOpen_f (by rw [show (tOpen (ν 7) tx 33 s).1 = false from by unfold tOpen; rw [if_pos (by omega)]]; decide)])
  refine r_aload_n rfl 34 rfl d_Mod_isF_33 ?_
  refine r_bipush (nI 40) rfl 36 rfl d_Mod_isF_34 ?_
  refine r_callVA1 (st2 := [.int (bI ((tOpen (ν 7) tx 40 s).1))]) (w2 := MT X a ν σ τ tx ((tOpen (ν 7) tx 40 s).2)) lk_Mod_isOpened ln_Mod_191 (c_Mod_isOpened X a ν σ τ tx ht hct 40 (by omega) s (by first | assumption | omega) (by first | assumption | omega)) (by first | decide | omega) rfl rfl (Nat.le_of_ble_eq_true rfl) (Nat.le_of_ble_eq_true rfl) (Nat.le_of_ble_eq_true rfl) 0 rfl rfl rfl rfl 39 rfl d_Mod_isF_36 ?_
  refine r_if_eqB_t 67 rfl d_Mod_isF_39 (by unfold tOpen; rw [if_pos (by omega)]) ?_
  refine Runs.cast (w' := MT X a ν σ τ tx s) ?_ rfl rfl (by rw [tOpen_f (by rw [show (tOpen (ν 7) tx 40 s).1 = false from by unfold tOpen; rw [if_pos (by omega)]]; decide)])
  refine r_aload_n rfl 68 rfl d_Mod_isF_67 ?_
  refine r_callVA1 (st2 := [.int (bI ((tTest (ν 7) tx s).1))]) (w2 := MT X a ν σ τ tx ((tTest (ν 7) tx s).2)) lk_Mod_isTest ln_Mod_200 (c_Mod_isTest X a ν σ τ tx ht hct s (by first | assumption | omega) (by first | assumption | omega)) (by first | decide | omega) rfl rfl (Nat.le_of_ble_eq_true rfl) (Nat.le_of_ble_eq_true rfl) (Nat.le_of_ble_eq_true rfl) 0 rfl rfl rfl rfl 71 rfl d_Mod_isF_68 ?_
  exact r_zret rfl (bI_nar _) (Nat.zero_le _) (Nat.zero_le _) d_Mod_isF_71 (by rw [← hQ]; exact ⟨rfl, rfl⟩)
theorem c_Mod_isF1 (X : Xn) (a ν : Nat → Nat) (σ : Nat → Nat → Int32) (τ : Nat → Int64) (tx : Nat → Nat) (ht : ν 7 ≤ 100) (hct : ∀ x, tx x < 128) (o dF : Nat) (hdF : 7 ≤ dF) (hF : ∀ r : TS, r.ax ≤ ν 7 → r.cd + ν 7 ≤ 700 + r.ax → r.op + o = 4 → Does X dF M_Mod_isF [.ref (a 0)] (MT X a ν σ τ tx r) 0 0 (fun (vv : Option Value) (ww : va_W) => vv = some (.int (bI (tF (ν 7) tx o r).1)) ∧ ww = MT X a ν σ τ tx (tF (ν 7) tx o r).2)) (s : TS) (hax : s.ax ≤ ν 7) (hcd : s.cd + ν 7 ≤ 700 + s.ax) (hop : s.op + (o + 1) = 4) : Does X (dF + 3) M_Mod_isF [.ref (a 0)] (MT X a ν σ τ tx s) 0 0 (fun (vv : Option Value) (ww : va_W) => vv = some (.int (bI (tF (ν 7) tx (o + 1) s).1)) ∧ ww = MT X a ν σ τ tx ((tF (ν 7) tx (o + 1) s).2)) := by
  generalize hQ : (fun (vv : Option Value) (ww : va_W) => vv = some (.int (bI (tF (ν 7) tx (o + 1) s).1)) ∧ ww = MT X a ν σ τ tx ((tF (ν 7) tx (o + 1) s).2)) = Q
  refine Does.go rfl (Nat.le_of_ble_eq_true rfl) [some (.ref (a 0)), none] 1 rfl ?_
  refine r_aload_n rfl 1 rfl d_Mod_isF_0 ?_
  refine r_bipush (nI 33) rfl 3 rfl d_Mod_isF_1 ?_
  refine r_callVA1 (st2 := [.int (bI ((tOpen (ν 7) tx 33 s).1))]) (w2 := MT X a ν σ τ tx ((tOpen (ν 7) tx 33 s).2)) lk_Mod_isOpened ln_Mod_191 (c_Mod_isOpened X a ν σ τ tx ht hct 33 (by omega) s (by first | assumption | omega) (by first | assumption | omega)) (by first | decide | omega) rfl rfl (Nat.le_of_ble_eq_true rfl) (Nat.le_of_ble_eq_true rfl) (Nat.le_of_ble_eq_true rfl) 0 rfl rfl rfl rfl 6 rfl d_Mod_isF_3 ?_
  refine r_if_eqB 9 33 rfl rfl d_Mod_isF_6 (fun h6 => ?_) (fun h6 => ?_)
  · refine Runs.cast (w' := MT X a ν σ τ tx s) ?_ rfl rfl (by rw [tOpen_f (by rw [h6]; decide)])
    refine r_aload_n rfl 34 rfl d_Mod_isF_33 ?_
    refine r_bipush (nI 40) rfl 36 rfl d_Mod_isF_34 ?_
    refine r_callVA1 (st2 := [.int (bI ((tOpen (ν 7) tx 40 s).1))]) (w2 := MT X a ν σ τ tx ((tOpen (ν 7) tx 40 s).2)) lk_Mod_isOpened ln_Mod_191 (c_Mod_isOpened X a ν σ τ tx ht hct 40 (by omega) s (by first | assumption | omega) (by first | assumption | omega)) (by first | decide | omega) rfl rfl (Nat.le_of_ble_eq_true rfl) (Nat.le_of_ble_eq_true rfl) (Nat.le_of_ble_eq_true rfl) 0 rfl rfl rfl rfl 39 rfl d_Mod_isF_36 ?_
    refine r_if_eqB 42 67 rfl rfl d_Mod_isF_39 (fun h39 => ?_) (fun h39 => ?_)
    · refine Runs.cast (w' := MT X a ν σ τ tx s) ?_ rfl rfl (by rw [tOpen_f (by rw [h39]; decide)])
      refine r_aload_n rfl 68 rfl d_Mod_isF_67 ?_
      refine r_callVA1 (st2 := [.int (bI ((tTest (ν 7) tx s).1))]) (w2 := MT X a ν σ τ tx ((tTest (ν 7) tx s).2)) lk_Mod_isTest ln_Mod_200 (c_Mod_isTest X a ν σ τ tx ht hct s (by first | assumption | omega) (by first | assumption | omega)) (by first | decide | omega) rfl rfl (Nat.le_of_ble_eq_true rfl) (Nat.le_of_ble_eq_true rfl) (Nat.le_of_ble_eq_true rfl) 0 rfl rfl rfl rfl 71 rfl d_Mod_isF_68 ?_
      exact r_zret rfl (bI_nar _) (Nat.zero_le _) (Nat.zero_le _) d_Mod_isF_71 (by rw [← hQ]; exact zR (q := tF (ν 7) tx (o + 1) s) (b := (tTest (ν 7) tx s).1) (by rw [tF, if_neg (by rw [h6]; decide), if_neg (by rw [h39]; decide)]) rfl)
    · have o1 := tOpen_t h39
      have c1 : (tOpen (ν 7) tx 40 s).2.ax = s.ax + 1 := by rw [o1.1]; rfl
      have c2 : (tOpen (ν 7) tx 40 s).2.cd = s.cd := by rw [o1.1]; rfl
      have c3 : (tOpen (ν 7) tx 40 s).2.op = s.op + 1 := by rw [o1.1]; rfl
      have c4 := o1.2.1
      have hq := tRow_g (n := ν 7) (c := 124) (t := 2) (tx := tx) (g := tRow (ν 7) tx (tF (ν 7) tx o) 38 1) (fun s hs => tRow_g (fun s hs => tF_g o s hs) s hs) (tOpen (ν 7) tx 40 s).2 (by omega)
      have q1 := hq.1
      have q2 := hq.2.1 (by omega)
      have q3 := hq.2.2.1
      have q4 := hq.2.2.2
      have z0 := tIs_g (c := 41) (tx := tx) q2
      have z4 := z0.2.2.2
      refine r_aload_n rfl 43 rfl d_Mod_isF_42 ?_
      refine r_callVA1 (st2 := [.int (bI ((tRow (ν 7) tx (tRow (ν 7) tx (tF (ν 7) tx o) 38 1) 124 2 ((tOpen (ν 7) tx 40 s).2)).1))]) (w2 := MT X a ν σ τ tx ((tRow (ν 7) tx (tRow (ν 7) tx (tF (ν 7) tx o) 38 1) 124 2 ((tOpen (ν 7) tx 40 s).2)).2)) lk_Mod_isE ln_Mod_197 (c_Mod_isE X a ν σ τ tx ht hct (tRow (ν 7) tx (tF (ν 7) tx o) 38 1) o (dF + 1) (by omega) (fun r h1 h2 h3 => c_Mod_isT X a ν σ τ tx ht hct (tF (ν 7) tx o) o dF hdF hF (fun s hs => tF_g o s hs) r h1 h2 h3) (fun s hs => tRow_g (fun s hs => tF_g o s hs) s hs) ((tOpen (ν 7) tx 40 s).2) (by first | assumption | omega) (by first | assumption | omega) (by first | assumption | omega)) (by first | decide | omega) rfl rfl (Nat.le_of_ble_eq_true rfl) (Nat.le_of_ble_eq_true rfl) (Nat.le_of_ble_eq_true rfl) 0 rfl rfl rfl rfl 46 rfl d_Mod_isF_43 ?_
      refine r_if_eqB 49 62 rfl rfl d_Mod_isF_46 (fun h46 => ?_) (fun h46 => ?_)
      · refine r_iconst (nI 0) rfl 63 rfl d_Mod_isF_62 ?_
        refine r_istore_n (ls2 := [some (.ref (a 0)), some (.int (nI 0))]) 64 rfl d_Mod_isF_63 (by decide) rfl rfl ?_
        refine r_goto 72 rfl d_Mod_isF_64 ?_
        refine r_aload_n rfl 73 rfl d_Mod_isF_72 ?_
        refine r_dup rfl 74 rfl d_Mod_isF_73 ?_
        refine r_getf (v := .int (nI (((tRow (ν 7) tx (tRow (ν 7) tx (tF (ν 7) tx o) 38 1) 124 2 ((tOpen (ν 7) tx 40 s).2)).2).op))) gf_Mod_188 0 rfl rfl 77 rfl d_Mod_isF_74 ?_
        refine r_iconst (nI 1) rfl 78 rfl d_Mod_isF_77 ?_
        refine r_isub 79 rfl d_Mod_isF_78 ?_
        refine r_topi (nI (((tRow (ν 7) tx (tRow (ν 7) tx (tF (ν 7) tx o) 38 1) 124 2 ((tOpen (ν 7) tx 40 s).2)).2).op - 1)) (nI_sub (by have : (((tRow (ν 7) tx (tRow (ν 7) tx (tF (ν 7) tx o) 38 1) 124 2 ((tOpen (ν 7) tx 40 s).2)).2).op) = s.op + 1 := (by first | omega | (show ((tRow (ν 7) tx (tRow (ν 7) tx (tF (ν 7) tx o) 38 1) 124 2 ((tOpen (ν 7) tx 40 s).2)).2).op = s.op + 1; omega)); omega)) ?_
        refine r_putf (w2 := MT X a ν σ τ tx (TSm (((tRow (ν 7) tx (tRow (ν 7) tx (tF (ν 7) tx o) 38 1) 124 2 ((tOpen (ν 7) tx 40 s).2)).2).ax) (((tRow (ν 7) tx (tRow (ν 7) tx (tF (ν 7) tx o) 38 1) 124 2 ((tOpen (ν 7) tx 40 s).2)).2).dg) (((tRow (ν 7) tx (tRow (ν 7) tx (tF (ν 7) tx o) 38 1) 124 2 ((tOpen (ν 7) tx 40 s).2)).2).op - 1) (((tRow (ν 7) tx (tRow (ν 7) tx (tF (ν 7) tx o) 38 1) 124 2 ((tOpen (ν 7) tx 40 s).2)).2).cd) (((tRow (ν 7) tx (tRow (ν 7) tx (tF (ν 7) tx o) 38 1) 124 2 ((tOpen (ν 7) tx 40 s).2)).2).vl) (((tRow (ν 7) tx (tRow (ν 7) tx (tF (ν 7) tx o) 38 1) 124 2 ((tOpen (ν 7) tx 40 s).2)).2).c))) pf_Mod_188 0 rfl (rfl) rfl (Nat.le_of_ble_eq_true rfl) rfl 82 rfl d_Mod_isF_79 ?_
        refine r_iload_n rfl 83 rfl d_Mod_isF_82 ?_
        exact r_zret rfl (rfl) (Nat.zero_le _) (Nat.zero_le _) d_Mod_isF_83 (by rw [← hQ]; exact zR (q := tF (ν 7) tx (o + 1) s) (b := false) (by rw [tF, if_neg (by rw [h6]; decide), if_pos h39, if_neg (by rw [h46]; decide)]) rfl)
      · refine r_aload_n rfl 50 rfl d_Mod_isF_49 ?_
        refine r_bipush (nI 41) rfl 52 rfl d_Mod_isF_50 ?_
        refine r_callVA1 (st2 := [.int (bI ((tIs (ν 7) tx 41 ((tRow (ν 7) tx (tRow (ν 7) tx (tF (ν 7) tx o) 38 1) 124 2 ((tOpen (ν 7) tx 40 s).2)).2)).1))]) (w2 := MT X a ν σ τ tx ((tIs (ν 7) tx 41 ((tRow (ν 7) tx (tRow (ν 7) tx (tF (ν 7) tx o) 38 1) 124 2 ((tOpen (ν 7) tx 40 s).2)).2)).2)) lk_Mod_is ln_Mod_169 (c_Mod_is X a ν σ τ tx ht hct 41 (by omega) ((tRow (ν 7) tx (tRow (ν 7) tx (tF (ν 7) tx o) 38 1) 124 2 ((tOpen (ν 7) tx 40 s).2)).2) (by first | assumption | omega)) (by first | decide | omega) rfl rfl (Nat.le_of_ble_eq_true rfl) (Nat.le_of_ble_eq_true rfl) (Nat.le_of_ble_eq_true rfl) 0 rfl rfl rfl rfl 55 rfl d_Mod_isF_52 ?_
        refine r_if_eqB 58 62 rfl rfl d_Mod_isF_55 (fun h55 => ?_) (fun h55 => ?_)
        · refine r_iconst (nI 0) rfl 63 rfl d_Mod_isF_62 ?_
          refine r_istore_n (ls2 := [some (.ref (a 0)), some (.int (nI 0))]) 64 rfl d_Mod_isF_63 (by decide) rfl rfl ?_
          refine r_goto 72 rfl d_Mod_isF_64 ?_
          refine r_aload_n rfl 73 rfl d_Mod_isF_72 ?_
          refine r_dup rfl 74 rfl d_Mod_isF_73 ?_
          refine r_getf (v := .int (nI (((tIs (ν 7) tx 41 ((tRow (ν 7) tx (tRow (ν 7) tx (tF (ν 7) tx o) 38 1) 124 2 ((tOpen (ν 7) tx 40 s).2)).2)).2).op))) gf_Mod_188 0 rfl rfl 77 rfl d_Mod_isF_74 ?_
          refine r_iconst (nI 1) rfl 78 rfl d_Mod_isF_77 ?_
          refine r_isub 79 rfl d_Mod_isF_78 ?_
          refine r_topi (nI (((tIs (ν 7) tx 41 ((tRow (ν 7) tx (tRow (ν 7) tx (tF (ν 7) tx o) 38 1) 124 2 ((tOpen (ν 7) tx 40 s).2)).2)).2).op - 1)) (nI_sub (by have : (((tIs (ν 7) tx 41 ((tRow (ν 7) tx (tRow (ν 7) tx (tF (ν 7) tx o) 38 1) 124 2 ((tOpen (ν 7) tx 40 s).2)).2)).2).op) = s.op + 1 := (by first | omega | (show ((tIs (ν 7) tx 41 ((tRow (ν 7) tx (tRow (ν 7) tx (tF (ν 7) tx o) 38 1) 124 2 ((tOpen (ν 7) tx 40 s).2)).2)).2).op = s.op + 1; omega)); omega)) ?_
          refine r_putf (w2 := MT X a ν σ τ tx (TSm (((tIs (ν 7) tx 41 ((tRow (ν 7) tx (tRow (ν 7) tx (tF (ν 7) tx o) 38 1) 124 2 ((tOpen (ν 7) tx 40 s).2)).2)).2).ax) (((tIs (ν 7) tx 41 ((tRow (ν 7) tx (tRow (ν 7) tx (tF (ν 7) tx o) 38 1) 124 2 ((tOpen (ν 7) tx 40 s).2)).2)).2).dg) (((tIs (ν 7) tx 41 ((tRow (ν 7) tx (tRow (ν 7) tx (tF (ν 7) tx o) 38 1) 124 2 ((tOpen (ν 7) tx 40 s).2)).2)).2).op - 1) (((tIs (ν 7) tx 41 ((tRow (ν 7) tx (tRow (ν 7) tx (tF (ν 7) tx o) 38 1) 124 2 ((tOpen (ν 7) tx 40 s).2)).2)).2).cd) (((tIs (ν 7) tx 41 ((tRow (ν 7) tx (tRow (ν 7) tx (tF (ν 7) tx o) 38 1) 124 2 ((tOpen (ν 7) tx 40 s).2)).2)).2).vl) (((tIs (ν 7) tx 41 ((tRow (ν 7) tx (tRow (ν 7) tx (tF (ν 7) tx o) 38 1) 124 2 ((tOpen (ν 7) tx 40 s).2)).2)).2).c))) pf_Mod_188 0 rfl (rfl) rfl (Nat.le_of_ble_eq_true rfl) rfl 82 rfl d_Mod_isF_79 ?_
          refine r_iload_n rfl 83 rfl d_Mod_isF_82 ?_
          exact r_zret rfl (rfl) (Nat.zero_le _) (Nat.zero_le _) d_Mod_isF_83 (by rw [← hQ]; exact zR (q := tF (ν 7) tx (o + 1) s) (b := false) (by rw [tF, if_neg (by rw [h6]; decide), if_pos h39, if_pos h46, h55]) rfl)
        · refine r_iconst (nI 1) rfl 59 rfl d_Mod_isF_58 ?_
          refine r_goto 63 rfl d_Mod_isF_59 ?_
          refine r_istore_n (ls2 := [some (.ref (a 0)), some (.int (nI 1))]) 64 rfl d_Mod_isF_63 (by decide) rfl rfl ?_
          refine r_goto 72 rfl d_Mod_isF_64 ?_
          refine r_aload_n rfl 73 rfl d_Mod_isF_72 ?_
          refine r_dup rfl 74 rfl d_Mod_isF_73 ?_
          refine r_getf (v := .int (nI (((tIs (ν 7) tx 41 ((tRow (ν 7) tx (tRow (ν 7) tx (tF (ν 7) tx o) 38 1) 124 2 ((tOpen (ν 7) tx 40 s).2)).2)).2).op))) gf_Mod_188 0 rfl rfl 77 rfl d_Mod_isF_74 ?_
          refine r_iconst (nI 1) rfl 78 rfl d_Mod_isF_77 ?_
          refine r_isub 79 rfl d_Mod_isF_78 ?_
          refine r_topi (nI (((tIs (ν 7) tx 41 ((tRow (ν 7) tx (tRow (ν 7) tx (tF (ν 7) tx o) 38 1) 124 2 ((tOpen (ν 7) tx 40 s).2)).2)).2).op - 1)) (nI_sub (by have : (((tIs (ν 7) tx 41 ((tRow (ν 7) tx (tRow (ν 7) tx (tF (ν 7) tx o) 38 1) 124 2 ((tOpen (ν 7) tx 40 s).2)).2)).2).op) = s.op + 1 := (by first | omega | (show ((tIs (ν 7) tx 41 ((tRow (ν 7) tx (tRow (ν 7) tx (tF (ν 7) tx o) 38 1) 124 2 ((tOpen (ν 7) tx 40 s).2)).2)).2).op = s.op + 1; omega)); omega)) ?_
          refine r_putf (w2 := MT X a ν σ τ tx (TSm (((tIs (ν 7) tx 41 ((tRow (ν 7) tx (tRow (ν 7) tx (tF (ν 7) tx o) 38 1) 124 2 ((tOpen (ν 7) tx 40 s).2)).2)).2).ax) (((tIs (ν 7) tx 41 ((tRow (ν 7) tx (tRow (ν 7) tx (tF (ν 7) tx o) 38 1) 124 2 ((tOpen (ν 7) tx 40 s).2)).2)).2).dg) (((tIs (ν 7) tx 41 ((tRow (ν 7) tx (tRow (ν 7) tx (tF (ν 7) tx o) 38 1) 124 2 ((tOpen (ν 7) tx 40 s).2)).2)).2).op - 1) (((tIs (ν 7) tx 41 ((tRow (ν 7) tx (tRow (ν 7) tx (tF (ν 7) tx o) 38 1) 124 2 ((tOpen (ν 7) tx 40 s).2)).2)).2).cd) (((tIs (ν 7) tx 41 ((tRow (ν 7) tx (tRow (ν 7) tx (tF (ν 7) tx o) 38 1) 124 2 ((tOpen (ν 7) tx 40 s).2)).2)).2).vl) (((tIs (ν 7) tx 41 ((tRow (ν 7) tx (tRow (ν 7) tx (tF (ν 7) tx o) 38 1) 124 2 ((tOpen (ν 7) tx 40 s).2)).2)).2).c))) pf_Mod_188 0 rfl (rfl) rfl (Nat.le_of_ble_eq_true rfl) rfl 82 rfl d_Mod_isF_79 ?_
          refine r_iload_n rfl 83 rfl d_Mod_isF_82 ?_
          exact r_zret rfl (rfl) (Nat.zero_le _) (Nat.zero_le _) d_Mod_isF_83 (by rw [← hQ]; exact zR (q := tF (ν 7) tx (o + 1) s) (b := true) (by rw [tF, if_neg (by rw [h6]; decide), if_pos h39, if_pos h46, h55]) rfl)
  · have o1 := tOpen_t h6
    have c1 : (tOpen (ν 7) tx 33 s).2.ax = s.ax + 1 := by rw [o1.1]; rfl
    have c2 : (tOpen (ν 7) tx 33 s).2.cd = s.cd := by rw [o1.1]; rfl
    have c3 : (tOpen (ν 7) tx 33 s).2.op = s.op + 1 := by rw [o1.1]; rfl
    have c4 := o1.2.1
    have hq := tF_g (n := ν 7) (tx := tx) o (tOpen (ν 7) tx 33 s).2 (by omega)
    have q1 := hq.1
    have q2 := hq.2.1 (by omega)
    have q3 := hq.2.2.1
    have q4 := hq.2.2.2
    refine r_aload_n rfl 10 rfl d_Mod_isF_9 ?_
    refine r_callVA1 (st2 := [.int (bI ((tF (ν 7) tx o ((tOpen (ν 7) tx 33 s).2)).1))]) (w2 := MT X a ν σ τ tx ((tF (ν 7) tx o ((tOpen (ν 7) tx 33 s).2)).2)) lk_Mod_isF ln_Mod_194 (hF ((tOpen (ν 7) tx 33 s).2) (by first | assumption | omega) (by first | assumption | omega) (by first | assumption | omega)) (by first | decide | omega) rfl rfl (Nat.le_of_ble_eq_true rfl) (Nat.le_of_ble_eq_true rfl) (Nat.le_of_ble_eq_true rfl) 0 rfl rfl rfl rfl 13 rfl d_Mod_isF_10 ?_
    refine r_if_eqB 16 28 rfl rfl d_Mod_isF_13 (fun h13 => ?_) (fun h13 => ?_)
    · refine r_iconst (nI 0) rfl 29 rfl d_Mod_isF_28 ?_
      refine r_istore_n (ls2 := [some (.ref (a 0)), some (.int (nI 0))]) 30 rfl d_Mod_isF_29 (by decide) rfl rfl ?_
      refine r_goto 72 rfl d_Mod_isF_30 ?_
      refine r_aload_n rfl 73 rfl d_Mod_isF_72 ?_
      refine r_dup rfl 74 rfl d_Mod_isF_73 ?_
      refine r_getf (v := .int (nI (((tF (ν 7) tx o ((tOpen (ν 7) tx 33 s).2)).2).op))) gf_Mod_188 0 rfl rfl 77 rfl d_Mod_isF_74 ?_
      refine r_iconst (nI 1) rfl 78 rfl d_Mod_isF_77 ?_
      refine r_isub 79 rfl d_Mod_isF_78 ?_
      refine r_topi (nI (((tF (ν 7) tx o ((tOpen (ν 7) tx 33 s).2)).2).op - 1)) (nI_sub (by have : (((tF (ν 7) tx o ((tOpen (ν 7) tx 33 s).2)).2).op) = s.op + 1 := (by first | omega | (show ((tF (ν 7) tx o ((tOpen (ν 7) tx 33 s).2)).2).op = s.op + 1; omega)); omega)) ?_
      refine r_putf (w2 := MT X a ν σ τ tx (TSm (((tF (ν 7) tx o ((tOpen (ν 7) tx 33 s).2)).2).ax) (((tF (ν 7) tx o ((tOpen (ν 7) tx 33 s).2)).2).dg) (((tF (ν 7) tx o ((tOpen (ν 7) tx 33 s).2)).2).op - 1) (((tF (ν 7) tx o ((tOpen (ν 7) tx 33 s).2)).2).cd) (((tF (ν 7) tx o ((tOpen (ν 7) tx 33 s).2)).2).vl) (((tF (ν 7) tx o ((tOpen (ν 7) tx 33 s).2)).2).c))) pf_Mod_188 0 rfl (rfl) rfl (Nat.le_of_ble_eq_true rfl) rfl 82 rfl d_Mod_isF_79 ?_
      refine r_iload_n rfl 83 rfl d_Mod_isF_82 ?_
      exact r_zret rfl (rfl) (Nat.zero_le _) (Nat.zero_le _) d_Mod_isF_83 (by rw [← hQ]; exact zR (q := tF (ν 7) tx (o + 1) s) (b := false) (by rw [tF, if_pos h6, if_neg (by rw [h13]; decide)]) rfl)
    · refine r_aload_n rfl 17 rfl d_Mod_isF_16 ?_
      refine r_iconst (nI 0) rfl 18 rfl d_Mod_isF_17 ?_
      refine r_callVA1 (st2 := [.int (nI 1)]) (w2 := MT X a ν σ τ tx (tCode 0 ((tF (ν 7) tx o ((tOpen (ν 7) tx 33 s).2)).2))) lk_Mod_codes ln_Mod_185 (c_Mod_codes X a ν σ τ tx ht hct 0 ((tF (ν 7) tx o ((tOpen (ν 7) tx 33 s).2)).2) (by first | assumption | omega)) (by first | decide | omega) rfl rfl (Nat.le_of_ble_eq_true rfl) (Nat.le_of_ble_eq_true rfl) (Nat.le_of_ble_eq_true rfl) 0 rfl rfl rfl rfl 21 rfl d_Mod_isF_18 ?_
      refine r_if_eqN_f 1 (by omega) 24 rfl 28 rfl d_Mod_isF_21 (by decide) ?_
      refine r_iconst (nI 1) rfl 25 rfl d_Mod_isF_24 ?_
      refine r_goto 29 rfl d_Mod_isF_25 ?_
      refine r_istore_n (ls2 := [some (.ref (a 0)), some (.int (nI 1))]) 30 rfl d_Mod_isF_29 (by decide) rfl rfl ?_
      refine r_goto 72 rfl d_Mod_isF_30 ?_
      refine r_aload_n rfl 73 rfl d_Mod_isF_72 ?_
      refine r_dup rfl 74 rfl d_Mod_isF_73 ?_
      refine r_getf (v := .int (nI ((tCode 0 ((tF (ν 7) tx o ((tOpen (ν 7) tx 33 s).2)).2)).op))) gf_Mod_188 0 rfl rfl 77 rfl d_Mod_isF_74 ?_
      refine r_iconst (nI 1) rfl 78 rfl d_Mod_isF_77 ?_
      refine r_isub 79 rfl d_Mod_isF_78 ?_
      refine r_topi (nI ((tCode 0 ((tF (ν 7) tx o ((tOpen (ν 7) tx 33 s).2)).2)).op - 1)) (nI_sub (by have : ((tCode 0 ((tF (ν 7) tx o ((tOpen (ν 7) tx 33 s).2)).2)).op) = s.op + 1 := (by first | omega | (show ((((tF (ν 7) tx o ((tOpen (ν 7) tx 33 s).2)).2))).op = s.op + 1; omega)); omega)) ?_
      refine r_putf (w2 := MT X a ν σ τ tx (TSm ((tCode 0 ((tF (ν 7) tx o ((tOpen (ν 7) tx 33 s).2)).2)).ax) ((tCode 0 ((tF (ν 7) tx o ((tOpen (ν 7) tx 33 s).2)).2)).dg) ((tCode 0 ((tF (ν 7) tx o ((tOpen (ν 7) tx 33 s).2)).2)).op - 1) ((tCode 0 ((tF (ν 7) tx o ((tOpen (ν 7) tx 33 s).2)).2)).cd) ((tCode 0 ((tF (ν 7) tx o ((tOpen (ν 7) tx 33 s).2)).2)).vl) ((tCode 0 ((tF (ν 7) tx o ((tOpen (ν 7) tx 33 s).2)).2)).c))) pf_Mod_188 0 rfl (rfl) rfl (Nat.le_of_ble_eq_true rfl) rfl 82 rfl d_Mod_isF_79 ?_
      refine r_iload_n rfl 83 rfl d_Mod_isF_82 ?_
      exact r_zret rfl (rfl) (Nat.zero_le _) (Nat.zero_le _) d_Mod_isF_83 (by rw [← hQ]; exact zR (q := tF (ν 7) tx (o + 1) s) (b := true) (by rw [tF, if_pos h6, if_pos h13]) rfl)
theorem c_Mod_isF (X : Xn) (a ν : Nat → Nat) (σ : Nat → Nat → Int32) (τ : Nat → Int64) (tx : Nat → Nat) (ht : ν 7 ≤ 100) (hct : ∀ x, tx x < 128) : ∀ (o : Nat) (s : TS), s.ax ≤ ν 7 → s.cd + ν 7 ≤ 700 + s.ax → s.op + o = 4 → Does X (8 + 3 * o) M_Mod_isF [.ref (a 0)] (MT X a ν σ τ tx s) 0 0 (fun (vv : Option Value) (ww : va_W) => vv = some (.int (bI (tF (ν 7) tx o s).1)) ∧ ww = MT X a ν σ τ tx (tF (ν 7) tx o s).2)
  | 0, s, h1, h2, h3 => c_Mod_isF0 X a ν σ τ tx ht hct s h1 h2 h3
  | o + 1, s, h1, h2, h3 => c_Mod_isF1 X a ν σ τ tx ht hct o (8 + 3 * o) (by omega) (fun r => c_Mod_isF X a ν σ τ tx ht hct o r) s h1 h2 h3
