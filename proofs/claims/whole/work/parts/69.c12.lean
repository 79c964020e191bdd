theorem ctab_0 {n : Nat} {de t : Nat → Int32} : ∀ s, ctab n de t s 0 = t 0 := by
  intro s
  induction s with
  | zero => rfl
  | succ s ih => rw [ctab, pk_un (by omega)]; exact ih
theorem CWx {X : Xn} {a : Nat → Nat} {ν : Nat → Nat → Nat} {σ : Nat → Nat → Int32} {τ : Nat → Nat → Int64} {h : Nat} (hh : h ≤ 6) : (CW X a ν σ τ)[40 + 4 * h]? = some (a (40 + 4 * h), .inr (5, [.ref (a (41 + 4 * h)), .ref (a (42 + 4 * h)), .ref (a (43 + 4 * h)), .int (nI (ν (40 + 4 * h) 3)), .int (nI (ν (40 + 4 * h) 4)), .int (nI (ν (40 + 4 * h) 5))])) := by
  rcases (show h = 0 ∨ h = 1 ∨ h = 2 ∨ h = 3 ∨ h = 4 ∨ h = 5 ∨ h = 6 by omega) with rfl | rfl | rfl | rfl | rfl | rfl | rfl <;> rfl
def exN (ν : Nat → Nat → Nat) (e kn p A k C b : Nat) : Nat → Nat → Nat := pu (pu ν 37 (u1 (u1 (u1 (u1 (ν 37) 3 0) 4 kn) 5 p) 6 A)) (44 + 4 * e) (u1 (u1 (u1 (ν (44 + 4 * e)) 3 k) 4 C) 5 b)
def exS (σ : Nat → Nat → Int32) (e : Nat) (c s w : Nat → Int32) : Nat → Nat → Int32 := u2 (u2 (u2 σ (45 + 4 * e) c) (46 + 4 * e) s) (47 + 4 * e) w
theorem exN_kn {ν : Nat → Nat → Nat} {e kn p A k C b : Nat} : exN ν e kn p A k C b 37 4 = kn := by
  unfold exN
  have h : pu (pu ν 37 (u1 (u1 (u1 (u1 (ν 37) 3 0) 4 kn) 5 p) 6 A)) (44 + 4 * e) (u1 (u1 (u1 (ν (44 + 4 * e)) 3 k) 4 C) 5 b) 37 = pu ν 37 (u1 (u1 (u1 (u1 (ν 37) 3 0) 4 kn) 5 p) 6 A) 37 := if_neg (by omega)
  rw [h]; rfl
def M_HB_told : XM := (⟨"HandshakeBinds", "told", "(I)I"⟩, prog_1_method_13_code, 2, (some .int))
theorem d_HB_told_0 : decode M_HB_told.2.1 0 = .ok (.iload_n 1, 1) := by decide +kernel
theorem d_HB_told_1 : decode M_HB_told.2.1 1 = .ok (.tableswitch 131 0 7 #[47, 55, 63, 76, 87, 98, 109, 120], 47) := by decide +kernel
theorem d_HB_told_48 : decode M_HB_told.2.1 48 = .ok (.aload_n 0, 1) := by decide +kernel
theorem d_HB_told_49 : decode M_HB_told.2.1 49 = .ok (.getfield 12, 3) := by decide +kernel
theorem d_HB_told_52 : decode M_HB_told.2.1 52 = .ok (.getfield 113, 3) := by decide +kernel
theorem d_HB_told_55 : decode M_HB_told.2.1 55 = .ok (.ireturn, 1) := by decide +kernel
theorem d_HB_told_56 : decode M_HB_told.2.1 56 = .ok (.aload_n 0, 1) := by decide +kernel
theorem d_HB_told_57 : decode M_HB_told.2.1 57 = .ok (.invokevirtual 109, 3) := by decide +kernel
theorem d_HB_told_60 : decode M_HB_told.2.1 60 = .ok (.getfield 155, 3) := by decide +kernel
theorem gf_HB_155 : GFn "HandshakeBinds" 155 5 5 := ⟨_, _, _, rfl, by decide, i_Exc, inNW 233 (by decide +kernel) rfl⟩
theorem d_HB_told_63 : decode M_HB_told.2.1 63 = .ok (.ireturn, 1) := by decide +kernel
theorem d_HB_told_64 : decode M_HB_told.2.1 64 = .ok (.aload_n 0, 1) := by decide +kernel
theorem d_HB_told_65 : decode M_HB_told.2.1 65 = .ok (.getfield 12, 3) := by decide +kernel
theorem d_HB_told_68 : decode M_HB_told.2.1 68 = .ok (.getfield 49, 3) := by decide +kernel
theorem d_HB_told_71 : decode M_HB_told.2.1 71 = .ok (.iconst 0, 1) := by decide +kernel
theorem d_HB_told_72 : decode M_HB_told.2.1 72 = .ok (.iconst 0, 1) := by decide +kernel
theorem d_HB_told_73 : decode M_HB_told.2.1 73 = .ok (.invokevirtual 89, 3) := by decide +kernel
theorem d_HB_told_76 : decode M_HB_told.2.1 76 = .ok (.ireturn, 1) := by decide +kernel
theorem d_HB_told_77 : decode M_HB_told.2.1 77 = .ok (.aload_n 0, 1) := by decide +kernel
theorem d_HB_told_78 : decode M_HB_told.2.1 78 = .ok (.getfield 12, 3) := by decide +kernel
theorem d_HB_told_81 : decode M_HB_told.2.1 81 = .ok (.getfield 49, 3) := by decide +kernel
theorem d_HB_told_84 : decode M_HB_told.2.1 84 = .ok (.invokevirtual 160, 3) := by decide +kernel
theorem ln_HB_160 : Cond.methodLink "HandshakeBinds" 160 M_Led_rescue.1 ∈ TB := inTB 621 (by decide +kernel) rfl
theorem lk_Led_rescue : LVt M_Led_rescue 0 := ⟨⟨inTB 64 (by decide +kernel) rfl, inTB 624 (by decide +kernel) rfl, ⟨by decide, by decide, by decide +kernel⟩, by decide⟩, inTB 622 (by decide +kernel) rfl, inTB 623 (by decide +kernel) rfl⟩
theorem d_HB_told_87 : decode M_HB_told.2.1 87 = .ok (.ireturn, 1) := by decide +kernel
theorem d_HB_told_88 : decode M_HB_told.2.1 88 = .ok (.aload_n 0, 1) := by decide +kernel
theorem d_HB_told_89 : decode M_HB_told.2.1 89 = .ok (.getfield 12, 3) := by decide +kernel
theorem d_HB_told_92 : decode M_HB_told.2.1 92 = .ok (.getfield 49, 3) := by decide +kernel
theorem d_HB_told_95 : decode M_HB_told.2.1 95 = .ok (.invokevirtual 163, 3) := by decide +kernel
theorem ln_HB_163 : Cond.methodLink "HandshakeBinds" 163 M_Led_payments.1 ∈ TB := inTB 625 (by decide +kernel) rfl
theorem lk_Led_payments : LVt M_Led_payments 0 := ⟨⟨inTB 64 (by decide +kernel) rfl, inTB 628 (by decide +kernel) rfl, ⟨by decide, by decide, by decide +kernel⟩, by decide⟩, inTB 626 (by decide +kernel) rfl, inTB 627 (by decide +kernel) rfl⟩
theorem d_HB_told_98 : decode M_HB_told.2.1 98 = .ok (.ireturn, 1) := by decide +kernel
theorem d_HB_told_99 : decode M_HB_told.2.1 99 = .ok (.aload_n 0, 1) := by decide +kernel
theorem d_HB_told_100 : decode M_HB_told.2.1 100 = .ok (.getfield 12, 3) := by decide +kernel
theorem d_HB_told_103 : decode M_HB_told.2.1 103 = .ok (.getfield 49, 3) := by decide +kernel
theorem d_HB_told_106 : decode M_HB_told.2.1 106 = .ok (.invokevirtual 166, 3) := by decide +kernel
theorem ln_HB_166 : Cond.methodLink "HandshakeBinds" 166 M_Led_longestRing.1 ∈ TB := inTB 630 (by decide +kernel) rfl
theorem lk_Led_longestRing : LVt M_Led_longestRing 0 := ⟨⟨inTB 64 (by decide +kernel) rfl, inTB 633 (by decide +kernel) rfl, ⟨by decide, by decide, by decide +kernel⟩, by decide⟩, inTB 631 (by decide +kernel) rfl, inTB 632 (by decide +kernel) rfl⟩
theorem d_HB_told_109 : decode M_HB_told.2.1 109 = .ok (.ireturn, 1) := by decide +kernel
theorem d_HB_told_110 : decode M_HB_told.2.1 110 = .ok (.aload_n 0, 1) := by decide +kernel
theorem d_HB_told_111 : decode M_HB_told.2.1 111 = .ok (.getfield 12, 3) := by decide +kernel
theorem d_HB_told_114 : decode M_HB_told.2.1 114 = .ok (.getfield 49, 3) := by decide +kernel
theorem d_HB_told_117 : decode M_HB_told.2.1 117 = .ok (.invokevirtual 169, 3) := by decide +kernel
theorem ln_HB_169 : Cond.methodLink "HandshakeBinds" 169 M_Led_offset.1 ∈ TB := inTB 638 (by decide +kernel) rfl
theorem lk_Led_offset : LVt M_Led_offset 0 := ⟨⟨inTB 64 (by decide +kernel) rfl, inTB 641 (by decide +kernel) rfl, ⟨by decide, by decide, by decide +kernel⟩, by decide⟩, inTB 639 (by decide +kernel) rfl, inTB 640 (by decide +kernel) rfl⟩
theorem d_HB_told_120 : decode M_HB_told.2.1 120 = .ok (.ireturn, 1) := by decide +kernel
theorem d_HB_told_121 : decode M_HB_told.2.1 121 = .ok (.aload_n 0, 1) := by decide +kernel
theorem d_HB_told_122 : decode M_HB_told.2.1 122 = .ok (.getfield 12, 3) := by decide +kernel
theorem d_HB_told_125 : decode M_HB_told.2.1 125 = .ok (.getfield 49, 3) := by decide +kernel
theorem d_HB_told_128 : decode M_HB_told.2.1 128 = .ok (.invokevirtual 172, 3) := by decide +kernel
theorem d_HB_told_131 : decode M_HB_told.2.1 131 = .ok (.ireturn, 1) := by decide +kernel
theorem d_HB_told_132 : decode M_HB_told.2.1 132 = .ok (.iconst (-1), 1) := by decide +kernel
theorem d_HB_told_133 : decode M_HB_told.2.1 133 = .ok (.ireturn, 1) := by decide +kernel
def M_HB_exchange : XM := (⟨"HandshakeBinds", "exchange", "()I"⟩, prog_1_method_12_code, 2, (some .int))
theorem d_HB_exchange_0 : decode M_HB_exchange.2.1 0 = .ok (.aload_n 0, 1) := by decide +kernel
theorem d_HB_exchange_1 : decode M_HB_exchange.2.1 1 = .ok (.getfield 31, 3) := by decide +kernel
theorem d_HB_exchange_4 : decode M_HB_exchange.2.1 4 = .ok (.getfield 146, 3) := by decide +kernel
theorem d_HB_exchange_7 : decode M_HB_exchange.2.1 7 = .ok (.bipush 6, 2) := by decide +kernel
theorem d_HB_exchange_9 : decode M_HB_exchange.2.1 9 = .ok (.if_icmp .lt 6, 3) := by decide +kernel
theorem d_HB_exchange_15 : decode M_HB_exchange.2.1 15 = .ok (.aload_n 0, 1) := by decide +kernel
theorem d_HB_exchange_16 : decode M_HB_exchange.2.1 16 = .ok (.getfield 31, 3) := by decide +kernel
theorem d_HB_exchange_19 : decode M_HB_exchange.2.1 19 = .ok (.invokevirtual 149, 3) := by decide +kernel
theorem ln_HB_149 : Cond.methodLink "HandshakeBinds" 149 M_Scr_close.1 ∈ TB := inTB 514 (by decide +kernel) rfl
theorem lk_Scr_close : LVt M_Scr_close 0 := ⟨⟨inTB 68 (by decide +kernel) rfl, inTB 517 (by decide +kernel) rfl, ⟨by decide, by decide, by decide +kernel⟩, by decide⟩, inTB 515 (by decide +kernel) rfl, inTB 516 (by decide +kernel) rfl⟩
theorem d_HB_exchange_22 : decode M_HB_exchange.2.1 22 = .ok (.istore_n 1, 1) := by decide +kernel
theorem d_HB_exchange_23 : decode M_HB_exchange.2.1 23 = .ok (.iload_n 1, 1) := by decide +kernel
theorem d_HB_exchange_24 : decode M_HB_exchange.2.1 24 = .ok (.ifCond .lt 8, 3) := by decide +kernel
theorem d_HB_exchange_32 : decode M_HB_exchange.2.1 32 = .ok (.aload_n 0, 1) := by decide +kernel
theorem d_HB_exchange_33 : decode M_HB_exchange.2.1 33 = .ok (.getfield 12, 3) := by decide +kernel
theorem d_HB_exchange_36 : decode M_HB_exchange.2.1 36 = .ok (.aload_n 0, 1) := by decide +kernel
theorem d_HB_exchange_37 : decode M_HB_exchange.2.1 37 = .ok (.getfield 31, 3) := by decide +kernel
theorem d_HB_exchange_40 : decode M_HB_exchange.2.1 40 = .ok (.getfield 146, 3) := by decide +kernel
theorem d_HB_exchange_43 : decode M_HB_exchange.2.1 43 = .ok (.iconst 1, 1) := by decide +kernel
theorem d_HB_exchange_44 : decode M_HB_exchange.2.1 44 = .ok (.isub, 1) := by decide +kernel
theorem d_HB_exchange_45 : decode M_HB_exchange.2.1 45 = .ok (.putfield 152, 3) := by decide +kernel
theorem pf_HB_152 : PFn "HandshakeBinds" 152 1 10 (.int) := ⟨_, _, _, t_Mkt, rfl, by decide, i_Mkt, t_Mkt_ok, n_Mkt, inNW 186 (by decide +kernel) rfl, rfl, t_Mkt_ok 10 (by decide)⟩
theorem d_HB_exchange_48 : decode M_HB_exchange.2.1 48 = .ok (.aload_n 0, 1) := by decide +kernel
theorem d_HB_exchange_49 : decode M_HB_exchange.2.1 49 = .ok (.getfield 12, 3) := by decide +kernel
theorem d_HB_exchange_52 : decode M_HB_exchange.2.1 52 = .ok (.getfield 152, 3) := by decide +kernel
theorem d_HB_exchange_55 : decode M_HB_exchange.2.1 55 = .ok (.ireturn, 1) := by decide +kernel
theorem d_HB_exchange_27 : decode M_HB_exchange.2.1 27 = .ok (.bipush (-10), 2) := by decide +kernel
theorem d_HB_exchange_29 : decode M_HB_exchange.2.1 29 = .ok (.iload_n 1, 1) := by decide +kernel
theorem d_HB_exchange_30 : decode M_HB_exchange.2.1 30 = .ok (.isub, 1) := by decide +kernel
theorem d_HB_exchange_31 : decode M_HB_exchange.2.1 31 = .ok (.ireturn, 1) := by decide +kernel
theorem d_HB_exchange_12 : decode M_HB_exchange.2.1 12 = .ok (.bipush (-4), 2) := by decide +kernel
theorem d_HB_exchange_14 : decode M_HB_exchange.2.1 14 = .ok (.ireturn, 1) := by decide +kernel
theorem c_HB_told (X : Xn) (a : Nat → Nat) (ν : Nat → Nat → Nat) (σ : Nat → Nat → Int32) (τ : Nat → Nat → Int64)  (w : Int32) (hn6 : ν 2 3 ≤ 6) (hh : ν 1 10 ≤ 6) : Does X 11 M_HB_told [.ref (a 0), .int w] (CW X a ν σ τ) 0 0 (fun (vv : Option Value) (ww : va_W) => vv = some (.int (ctoldV (ν 2 3) (σ 3) (σ 4) (σ 5) (ν 1 9) (ν (40 + 4 * ν 1 10) 5) w)) ∧ ∃ g : Nat → Int32, g 0 = σ 5 0 ∧ ww = CW X a ν (u2 σ 5 g) τ) := by
  generalize hQ : (fun (vv : Option Value) (ww : va_W) => vv = some (.int (ctoldV (ν 2 3) (σ 3) (σ 4) (σ 5) (ν 1 9) (ν (40 + 4 * ν 1 10) 5) w)) ∧ ∃ g : Nat → Int32, g 0 = σ 5 0 ∧ ww = CW X a ν (u2 σ 5 g) τ) = Q
  refine Does.go rfl (Nat.le_of_ble_eq_true rfl) [some (.ref (a 0)), some (.int w)] 0 rfl ?_
  refine r_iload_n rfl 1 rfl d_HB_told_0 ?_
  by_cases h1_0 : w = 0
  · refine r_tableIn 48 d_HB_told_1 (by rw [h1_0]; decide) (by rw [h1_0]; decide) (by rw [h1_0]; try rfl) rfl ?_
    refine r_aload_n rfl 49 rfl d_HB_told_48 ?_
    refine r_getf (v := .ref (a 1)) gf_HB_12 0 rfl rfl 52 rfl d_HB_told_49 ?_
    refine r_getfn (v := .int (nI (ν 1 9))) gf_HB_113 1 rfl rfl 55 rfl d_HB_told_52 ?_
    exact r_iret rfl (Nat.zero_le _) (Nat.zero_le _) d_HB_told_55 (by rw [← hQ]; exact ⟨by rw [ctoldV, if_pos h1_0], σ 5, rfl, by rw [u2_self]⟩)
  by_cases h1_1 : w = 1
  · refine r_tableIn 56 d_HB_told_1 (by rw [h1_1]; decide) (by rw [h1_1]; decide) (by rw [h1_1]; try rfl) rfl ?_
    refine r_aload_n rfl 57 rfl d_HB_told_56 ?_
    refine r_callVA1 (st2 := [.ref (a (40 + 4 * ν 1 10))]) (w2 := CW X a ν σ τ) lk_HB_held ln_HB_109 (c_HB_held X a ν σ τ   (hh)) (by first | decide | omega) rfl rfl (Nat.le_of_ble_eq_true rfl) (Nat.le_of_ble_eq_true rfl) (Nat.le_of_ble_eq_true rfl) 0 rfl rfl rfl rfl 60 rfl d_HB_told_57 ?_
    refine r_getfn (v := .int (nI (ν (40 + 4 * ν 1 10) 5))) gf_HB_155 (40 + 4 * ν 1 10) (CWx hh) rfl 63 rfl d_HB_told_60 ?_
    exact r_iret rfl (Nat.zero_le _) (Nat.zero_le _) d_HB_told_63 (by rw [← hQ]; exact ⟨by rw [ctoldV, if_neg h1_0, if_pos h1_1], σ 5, rfl, by rw [u2_self]⟩)
  by_cases h1_2 : w = 2
  · refine r_tableIn 64 d_HB_told_1 (by rw [h1_2]; decide) (by rw [h1_2]; decide) (by rw [h1_2]; try rfl) rfl ?_
    refine r_aload_n rfl 65 rfl d_HB_told_64 ?_
    refine r_getf (v := .ref (a 1)) gf_HB_12 0 rfl rfl 68 rfl d_HB_told_65 ?_
    refine r_getfn (v := .ref (a 2)) gf_HB_49 1 rfl rfl 71 rfl d_HB_told_68 ?_
    refine r_iconst (nI 0) rfl 72 rfl d_HB_told_71 ?_
    refine r_iconst (nI 0) rfl 73 rfl d_HB_told_72 ?_
    refine r_callV1 (st2 := [.int (nI (fails (ν 2 3) (σ 3) (σ 4) 0))]) (w2 := CW X a ν σ τ) lk_Led_failing ln_HB_89 (c_Led_failing0 X (pl [2, 3, 4, 5] a) (pl [2, 3, 4, 5] ν) (pl [2, 3, 4, 5] σ) (pl [2, 3, 4, 5] τ) 0 hn6 (by decide)) (by first | decide | omega) rfl rfl (Nat.le_of_ble_eq_true rfl) (Nat.le_of_ble_eq_true rfl) (Nat.le_of_ble_eq_true rfl) [2, 3, 4, 5] rfl rfl 0 rfl rfl rfl rfl rfl 76 rfl d_HB_told_73 ?_
    exact r_iret rfl (Nat.zero_le _) (Nat.zero_le _) d_HB_told_76 (by rw [← hQ]; exact ⟨by rw [ctoldV, if_neg h1_0, if_neg h1_1, if_pos h1_2], σ 5, rfl, by rw [u2_self]⟩)
  by_cases h1_3 : w = 3
  · refine r_tableIn 77 d_HB_told_1 (by rw [h1_3]; decide) (by rw [h1_3]; decide) (by rw [h1_3]; try rfl) rfl ?_
    refine r_aload_n rfl 78 rfl d_HB_told_77 ?_
    refine r_getf (v := .ref (a 1)) gf_HB_12 0 rfl rfl 81 rfl d_HB_told_78 ?_
    refine r_getfn (v := .ref (a 2)) gf_HB_49 1 rfl rfl 84 rfl d_HB_told_81 ?_
    refine r_callV1 (st2 := [.int (nI (crs (ν 2 3) (σ 3) (σ 4) (ν 2 3)))]) (w2 := CW X a ν σ τ) lk_Led_rescue ln_HB_160 (c_Led_rescue X (pl [2, 3, 4, 5] a) (pl [2, 3, 4, 5] ν) (pl [2, 3, 4, 5] σ) (pl [2, 3, 4, 5] τ)   (hn6)) (by first | decide | omega) rfl rfl (Nat.le_of_ble_eq_true rfl) (Nat.le_of_ble_eq_true rfl) (Nat.le_of_ble_eq_true rfl) [2, 3, 4, 5] rfl rfl 0 rfl rfl rfl rfl rfl 87 rfl d_HB_told_84 ?_
    exact r_iret rfl (Nat.zero_le _) (Nat.zero_le _) d_HB_told_87 (by rw [← hQ]; exact ⟨by rw [ctoldV, if_neg h1_0, if_neg h1_1, if_neg h1_2, if_pos h1_3], σ 5, rfl, by rw [u2_self]⟩)
  by_cases h1_4 : w = 4
  · refine r_tableIn 88 d_HB_told_1 (by rw [h1_4]; decide) (by rw [h1_4]; decide) (by rw [h1_4]; try rfl) rfl ?_
    refine r_aload_n rfl 89 rfl d_HB_told_88 ?_
    refine r_getf (v := .ref (a 1)) gf_HB_12 0 rfl rfl 92 rfl d_HB_told_89 ?_
    refine r_getfn (v := .ref (a 2)) gf_HB_49 1 rfl rfl 95 rfl d_HB_told_92 ?_
    refine r_callV1 (st2 := [.int (nI (ν 2 3) - ctab (ν 2 3) (σ 4) (σ 5) (1 <<< ν 2 3 - 1) (1 <<< ν 2 3 - 1))]) (w2 := CW X a ν (u2 σ 5 (ctab (ν 2 3) (σ 4) (σ 5) (1 <<< ν 2 3 - 1))) τ) lk_Led_payments ln_HB_163 (c_Led_payments X (pl [2, 3, 4, 5] a) (pl [2, 3, 4, 5] ν) (pl [2, 3, 4, 5] σ) (pl [2, 3, 4, 5] τ) hn6) (by first | decide | omega) rfl rfl (Nat.le_of_ble_eq_true rfl) (Nat.le_of_ble_eq_true rfl) (Nat.le_of_ble_eq_true rfl) [2, 3, 4, 5] rfl rfl 0 rfl rfl rfl rfl rfl 98 rfl d_HB_told_95 ?_
    exact r_iret rfl (Nat.zero_le _) (Nat.zero_le _) d_HB_told_98 (by rw [← hQ]; exact ⟨by rw [ctoldV, if_neg h1_0, if_neg h1_1, if_neg h1_2, if_neg h1_3, if_pos h1_4], ctab (ν 2 3) (σ 4) (σ 5) (1 <<< ν 2 3 - 1), ctab_0 _, rfl⟩)
  by_cases h1_5 : w = 5
  · refine r_tableIn 99 d_HB_told_1 (by rw [h1_5]; decide) (by rw [h1_5]; decide) (by rw [h1_5]; try rfl) rfl ?_
    refine r_aload_n rfl 100 rfl d_HB_told_99 ?_
    refine r_getf (v := .ref (a 1)) gf_HB_12 0 rfl rfl 103 rfl d_HB_told_100 ?_
    refine r_getfn (v := .ref (a 2)) gf_HB_49 1 rfl rfl 106 rfl d_HB_told_103 ?_
    refine r_callV1 (st2 := [.int (ringA (ν 2 3) (σ 4) (ν 2 3))]) (w2 := CW X a ν σ τ) lk_Led_longestRing ln_HB_166 (c_Led_longestRing X (pl [2, 3, 4, 5] a) (pl [2, 3, 4, 5] ν) (pl [2, 3, 4, 5] σ) (pl [2, 3, 4, 5] τ)   (hn6)) (by first | decide | omega) rfl rfl (Nat.le_of_ble_eq_true rfl) (Nat.le_of_ble_eq_true rfl) (Nat.le_of_ble_eq_true rfl) [2, 3, 4, 5] rfl rfl 0 rfl rfl rfl rfl rfl 109 rfl d_HB_told_106 ?_
    exact r_iret rfl (Nat.zero_le _) (Nat.zero_le _) d_HB_told_109 (by rw [← hQ]; exact ⟨by rw [ctoldV, if_neg h1_0, if_neg h1_1, if_neg h1_2, if_neg h1_3, if_neg h1_4, if_pos h1_5], σ 5, rfl, by rw [u2_self]⟩)
  by_cases h1_6 : w = 6
  · refine r_tableIn 110 d_HB_told_1 (by rw [h1_6]; decide) (by rw [h1_6]; decide) (by rw [h1_6]; try rfl) rfl ?_
    refine r_aload_n rfl 111 rfl d_HB_told_110 ?_
    refine r_getf (v := .ref (a 1)) gf_HB_12 0 rfl rfl 114 rfl d_HB_told_111 ?_
    refine r_getfn (v := .ref (a 2)) gf_HB_49 1 rfl rfl 117 rfl d_HB_told_114 ?_
    refine r_callV1 (st2 := [.int (offO (ν 2 3) (σ 4) (ν 2 3))]) (w2 := CW X a ν σ τ) lk_Led_offset ln_HB_169 (c_Led_offset X (pl [2, 3, 4, 5] a) (pl [2, 3, 4, 5] ν) (pl [2, 3, 4, 5] σ) (pl [2, 3, 4, 5] τ)   (hn6)) (by first | decide | omega) rfl rfl (Nat.le_of_ble_eq_true rfl) (Nat.le_of_ble_eq_true rfl) (Nat.le_of_ble_eq_true rfl) [2, 3, 4, 5] rfl rfl 0 rfl rfl rfl rfl rfl 120 rfl d_HB_told_117 ?_
    exact r_iret rfl (Nat.zero_le _) (Nat.zero_le _) d_HB_told_120 (by rw [← hQ]; exact ⟨by rw [ctoldV, if_neg h1_0, if_neg h1_1, if_neg h1_2, if_neg h1_3, if_neg h1_4, if_neg h1_5, if_pos h1_6], σ 5, rfl, by rw [u2_self]⟩)
  by_cases h1_7 : w = 7
  · refine r_tableIn 121 d_HB_told_1 (by rw [h1_7]; decide) (by rw [h1_7]; decide) (by rw [h1_7]; try rfl) rfl ?_
    refine r_aload_n rfl 122 rfl d_HB_told_121 ?_
    refine r_getf (v := .ref (a 1)) gf_HB_12 0 rfl rfl 125 rfl d_HB_told_122 ?_
    refine r_getfn (v := .ref (a 2)) gf_HB_49 1 rfl rfl 128 rfl d_HB_told_125 ?_
    refine r_callV1 (st2 := [.int (osumAll (ν 2 3) (σ 4) (ν 2 3))]) (w2 := CW X a ν σ τ) lk_Led_total ln_HB_172 (c_Led_total X (pl [2, 3, 4, 5] a) (pl [2, 3, 4, 5] ν) (pl [2, 3, 4, 5] σ) (pl [2, 3, 4, 5] τ)   (hn6)) (by first | decide | omega) rfl rfl (Nat.le_of_ble_eq_true rfl) (Nat.le_of_ble_eq_true rfl) (Nat.le_of_ble_eq_true rfl) [2, 3, 4, 5] rfl rfl 0 rfl rfl rfl rfl rfl 131 rfl d_HB_told_128 ?_
    exact r_iret rfl (Nat.zero_le _) (Nat.zero_le _) d_HB_told_131 (by rw [← hQ]; exact ⟨by rw [ctoldV, if_neg h1_0, if_neg h1_1, if_neg h1_2, if_neg h1_3, if_neg h1_4, if_neg h1_5, if_neg h1_6, if_pos h1_7], σ 5, rfl, by rw [u2_self]⟩)
  have t1_0 : ¬ (w).toInt = 0 := lv_neT h1_0 (by decide)
  have t1_1 : ¬ (w).toInt = 1 := lv_neT h1_1 (by decide)
  have t1_2 : ¬ (w).toInt = 2 := lv_neT h1_2 (by decide)
  have t1_3 : ¬ (w).toInt = 3 := lv_neT h1_3 (by decide)
  have t1_4 : ¬ (w).toInt = 4 := lv_neT h1_4 (by decide)
  have t1_5 : ¬ (w).toInt = 5 := lv_neT h1_5 (by decide)
  have t1_6 : ¬ (w).toInt = 6 := lv_neT h1_6 (by decide)
  have t1_7 : ¬ (w).toInt = 7 := lv_neT h1_7 (by decide)
  refine r_tableOut 132 d_HB_told_1 (by omega) rfl ?_
  refine r_iconst ((-1)) rfl 133 rfl d_HB_told_132 ?_
  exact r_iret rfl (Nat.zero_le _) (Nat.zero_le _) d_HB_told_133 (by rw [← hQ]; exact ⟨by rw [ctoldV, if_neg h1_0, if_neg h1_1, if_neg h1_2, if_neg h1_3, if_neg h1_4, if_neg h1_5, if_neg h1_6, if_neg h1_7], σ 5, rfl, by rw [u2_self]⟩)
set_option maxHeartbeats 4000000 in
theorem c_C_close (X : Xn) (a : Nat → Nat) (ν : Nat → Nat → Nat) (σ : Nat → Nat → Int32) (τ : Nat → Nat → Int64) (tx : Nat → Nat) (hn : ν 37 3 ≤ 100) (hT : ∀ j, j < ν 37 3 → σ 38 j = nI (tx j)) (hct : ∀ j, tx j < 128) (e : Nat) (he : ν 37 4 = e) (he6 : e < 6) : Does X 15 M_Scr_close [.ref (a 37)] (CW X a ν σ τ) 0 0 (fun (vv : Option Value) (ww : va_W) => vv = some (.int (if (exR (ν 37 3) tx).1 = true then -1 else nI (exR (ν 37 3) tx).2.1)) ∧ ∃ (p' k' C' b' : Nat) (c' s' w' : Nat → Int32), ww = CW X a (exN ν e (if (exR (ν 37 3) tx).1 = true then ν 37 4 + 1 else ν 37 4) p' (a (44 + 4 * e)) k' C' b') (exS σ e c' s' w') τ ∧ (exR (ν 37 3) tx).2.1 ≤ 100 ∧ ((exR (ν 37 3) tx).1 = true → CI (exR (ν 37 3) tx).2.2 k' C' b' c' s' w')) := by
  rcases (show e = 0 ∨ e = 1 ∨ e = 2 ∨ e = 3 ∨ e = 4 ∨ e = 5 by omega) with rfl | rfl | rfl | rfl | rfl | rfl
  · exact (Does.frame (c_Scr_close X (pl [37, 38, 39, 44, 45, 46, 47, 40] a) (fun i => some (a (44 + 4 * i))) (σ 38) (ν 37 3) (ν 37 4) (ν 37 5) (ν 44 3) (ν 44 4) (ν 44 5) (σ 45) (σ 46) (σ 47) tx hn hT hct (ν 37 6) (by omega) (by show some (a (44 + 4 * ν 37 4)) = some (a 44); rw [he])) [37, 38, 39, 44, 45, 46, 47] rfl (by decide) (fun v w0 hq => by obtain ⟨_, p', k', C', b', c', s', w', rfl, _⟩ := hq; rfl)).mono (fun v w2 hq => by obtain ⟨w0, ⟨e1, p', k', C', b', c', s', w', rfl, h2, h3⟩, rfl⟩ := hq; exact ⟨e1, p', k', C', b', c', s', w', (Xput_mrg rfl).trans rfl, h2, h3⟩)
  · exact (Does.frame (c_Scr_close X (pl [37, 38, 39, 48, 49, 50, 51, 40] a) (fun i => some (a (44 + 4 * i))) (σ 38) (ν 37 3) (ν 37 4) (ν 37 5) (ν 48 3) (ν 48 4) (ν 48 5) (σ 49) (σ 50) (σ 51) tx hn hT hct (ν 37 6) (by omega) (by show some (a (44 + 4 * ν 37 4)) = some (a 48); rw [he])) [37, 38, 39, 48, 49, 50, 51] rfl (by decide) (fun v w0 hq => by obtain ⟨_, p', k', C', b', c', s', w', rfl, _⟩ := hq; rfl)).mono (fun v w2 hq => by obtain ⟨w0, ⟨e1, p', k', C', b', c', s', w', rfl, h2, h3⟩, rfl⟩ := hq; exact ⟨e1, p', k', C', b', c', s', w', (Xput_mrg rfl).trans rfl, h2, h3⟩)
  · exact (Does.frame (c_Scr_close X (pl [37, 38, 39, 52, 53, 54, 55, 40] a) (fun i => some (a (44 + 4 * i))) (σ 38) (ν 37 3) (ν 37 4) (ν 37 5) (ν 52 3) (ν 52 4) (ν 52 5) (σ 53) (σ 54) (σ 55) tx hn hT hct (ν 37 6) (by omega) (by show some (a (44 + 4 * ν 37 4)) = some (a 52); rw [he])) [37, 38, 39, 52, 53, 54, 55] rfl (by decide) (fun v w0 hq => by obtain ⟨_, p', k', C', b', c', s', w', rfl, _⟩ := hq; rfl)).mono (fun v w2 hq => by obtain ⟨w0, ⟨e1, p', k', C', b', c', s', w', rfl, h2, h3⟩, rfl⟩ := hq; exact ⟨e1, p', k', C', b', c', s', w', (Xput_mrg rfl).trans rfl, h2, h3⟩)
  · exact (Does.frame (c_Scr_close X (pl [37, 38, 39, 56, 57, 58, 59, 40] a) (fun i => some (a (44 + 4 * i))) (σ 38) (ν 37 3) (ν 37 4) (ν 37 5) (ν 56 3) (ν 56 4) (ν 56 5) (σ 57) (σ 58) (σ 59) tx hn hT hct (ν 37 6) (by omega) (by show some (a (44 + 4 * ν 37 4)) = some (a 56); rw [he])) [37, 38, 39, 56, 57, 58, 59] rfl (by decide) (fun v w0 hq => by obtain ⟨_, p', k', C', b', c', s', w', rfl, _⟩ := hq; rfl)).mono (fun v w2 hq => by obtain ⟨w0, ⟨e1, p', k', C', b', c', s', w', rfl, h2, h3⟩, rfl⟩ := hq; exact ⟨e1, p', k', C', b', c', s', w', (Xput_mrg rfl).trans rfl, h2, h3⟩)
  · exact (Does.frame (c_Scr_close X (pl [37, 38, 39, 60, 61, 62, 63, 40] a) (fun i => some (a (44 + 4 * i))) (σ 38) (ν 37 3) (ν 37 4) (ν 37 5) (ν 60 3) (ν 60 4) (ν 60 5) (σ 61) (σ 62) (σ 63) tx hn hT hct (ν 37 6) (by omega) (by show some (a (44 + 4 * ν 37 4)) = some (a 60); rw [he])) [37, 38, 39, 60, 61, 62, 63] rfl (by decide) (fun v w0 hq => by obtain ⟨_, p', k', C', b', c', s', w', rfl, _⟩ := hq; rfl)).mono (fun v w2 hq => by obtain ⟨w0, ⟨e1, p', k', C', b', c', s', w', rfl, h2, h3⟩, rfl⟩ := hq; exact ⟨e1, p', k', C', b', c', s', w', (Xput_mrg rfl).trans rfl, h2, h3⟩)
  · exact (Does.frame (c_Scr_close X (pl [37, 38, 39, 64, 65, 66, 67, 40] a) (fun i => some (a (44 + 4 * i))) (σ 38) (ν 37 3) (ν 37 4) (ν 37 5) (ν 64 3) (ν 64 4) (ν 64 5) (σ 65) (σ 66) (σ 67) tx hn hT hct (ν 37 6) (by omega) (by show some (a (44 + 4 * ν 37 4)) = some (a 64); rw [he])) [37, 38, 39, 64, 65, 66, 67] rfl (by decide) (fun v w0 hq => by obtain ⟨_, p', k', C', b', c', s', w', rfl, _⟩ := hq; rfl)).mono (fun v w2 hq => by obtain ⟨w0, ⟨e1, p', k', C', b', c', s', w', rfl, h2, h3⟩, rfl⟩ := hq; exact ⟨e1, p', k', C', b', c', s', w', (Xput_mrg rfl).trans rfl, h2, h3⟩)
theorem c_HB_exchange (X : Xn) (a : Nat → Nat) (ν : Nat → Nat → Nat) (σ : Nat → Nat → Int32) (τ : Nat → Nat → Int64) (tx : Nat → Nat)  (hn : ν 37 3 ≤ 100) (hT : ∀ j, j < ν 37 3 → σ 38 j = nI (tx j)) (hct : ∀ j, tx j < 128) (h6 : ν 37 4 ≤ 6) : Does X 16 M_HB_exchange [.ref (a 0)] (CW X a ν σ τ) 0 0 (fun (vv : Option Value) (ww : va_W) => (ν 37 4 = 6 → vv = some (.int (-4)) ∧ ww = CW X a ν σ τ) ∧ (ν 37 4 ≠ 6 → ∃ (p' k' C' b' : Nat) (c' s' w' : Nat → Int32), (exR (ν 37 3) tx).2.1 ≤ 100 ∧ (if (exR (ν 37 3) tx).1 = true then vv = some (.int (nI (ν 37 4))) ∧ ww = CW X a (pu (exN ν (ν 37 4) (ν 37 4 + 1) p' (a (44 + 4 * ν 37 4)) k' C' b') 1 (u1 ((exN ν (ν 37 4) (ν 37 4 + 1) p' (a (44 + 4 * ν 37 4)) k' C' b') 1) 10 (ν 37 4 + 1))) (exS σ (ν 37 4) c' s' w') τ ∧ CI (exR (ν 37 3) tx).2.2 k' C' b' c' s' w' else vv = some (.int (-10 - nI (exR (ν 37 3) tx).2.1)) ∧ ww = CW X a (exN ν (ν 37 4) (ν 37 4) p' (a (44 + 4 * ν 37 4)) k' C' b') (exS σ (ν 37 4) c' s' w') τ))) := by
  generalize hQ : (fun (vv : Option Value) (ww : va_W) => (ν 37 4 = 6 → vv = some (.int (-4)) ∧ ww = CW X a ν σ τ) ∧ (ν 37 4 ≠ 6 → ∃ (p' k' C' b' : Nat) (c' s' w' : Nat → Int32), (exR (ν 37 3) tx).2.1 ≤ 100 ∧ (if (exR (ν 37 3) tx).1 = true then vv = some (.int (nI (ν 37 4))) ∧ ww = CW X a (pu (exN ν (ν 37 4) (ν 37 4 + 1) p' (a (44 + 4 * ν 37 4)) k' C' b') 1 (u1 ((exN ν (ν 37 4) (ν 37 4 + 1) p' (a (44 + 4 * ν 37 4)) k' C' b') 1) 10 (ν 37 4 + 1))) (exS σ (ν 37 4) c' s' w') τ ∧ CI (exR (ν 37 3) tx).2.2 k' C' b' c' s' w' else vv = some (.int (-10 - nI (exR (ν 37 3) tx).2.1)) ∧ ww = CW X a (exN ν (ν 37 4) (ν 37 4) p' (a (44 + 4 * ν 37 4)) k' C' b') (exS σ (ν 37 4) c' s' w') τ))) = Q
  refine Does.go rfl (Nat.le_of_ble_eq_true rfl) [some (.ref (a 0)), none] 1 rfl ?_
  refine r_aload_n rfl 1 rfl d_HB_exchange_0 ?_
  refine r_getf (v := .ref (a 37)) gf_HB_31 0 rfl rfl 4 rfl d_HB_exchange_1 ?_
  refine r_getfn (v := .int (nI (ν 37 4))) gf_HB_146 37 rfl rfl 7 rfl d_HB_exchange_4 ?_
  refine r_bipush (nI 6) rfl 9 rfl d_HB_exchange_7 ?_
  refine r_icmp_ltN (ν 37 4) 6 (by omega) (by omega) 12 15 rfl rfl d_HB_exchange_9 (fun h9 => ?_) (fun h9 => ?_)
  · refine r_aload_n rfl 16 rfl d_HB_exchange_15 ?_
    refine r_getf (v := .ref (a 37)) gf_HB_31 0 rfl rfl 19 rfl d_HB_exchange_16 ?_
    refine r_callVAQ (st2 := []) (w2 := []) lk_Scr_close ln_HB_149 (c_C_close X a ν σ τ tx hn hT hct (ν 37 4) rfl (by omega)) (by first | decide | omega) rfl rfl (Nat.le_of_ble_eq_true rfl) (Nat.le_of_ble_eq_true rfl) (Nat.le_of_ble_eq_true rfl) 37 rfl rfl 22 rfl d_HB_exchange_19 (fun vv ww hq2 => ?_)
    obtain ⟨rfl, p', k', C', b', c', s', w', rfl, h100, hCI⟩ := hq2
    refine ⟨rfl, ?_⟩
    show Runs X 16 M_HB_exchange 0 0 Q 22 [some (.ref (a 0)), none] [.int (if (exR (ν 37 3) tx).1 = true then -1 else nI (exR (ν 37 3) tx).2.1)] 0 0 (CW X a (exN ν (ν 37 4) (if (exR (ν 37 3) tx).1 = true then ν 37 4 + 1 else ν 37 4) p' (a (44 + 4 * ν 37 4)) k' C' b') (exS σ (ν 37 4) c' s' w') τ)
    by_cases hR : (exR (ν 37 3) tx).1 = true
    · rw [if_pos hR, if_pos hR]
      refine r_istore_n (ls2 := [some (.ref (a 0)), some (.int (-1))]) 23 rfl d_HB_exchange_22 (by decide) rfl rfl ?_
      refine r_iload_n rfl 24 rfl d_HB_exchange_23 ?_
      refine r_if_lt_t 32 rfl d_HB_exchange_24 (by decide) ?_
      refine r_aload_n rfl 33 rfl d_HB_exchange_32 ?_
      refine r_getf (v := .ref (a 1)) gf_HB_12 0 rfl rfl 36 rfl d_HB_exchange_33 ?_
      refine r_aload_n rfl 37 rfl d_HB_exchange_36 ?_
      refine r_getf (v := .ref (a 37)) gf_HB_31 0 rfl rfl 40 rfl d_HB_exchange_37 ?_
      refine r_getfn (v := .int (nI ((exN ν (ν 37 4) (ν 37 4 + 1) p' (a (44 + 4 * ν 37 4)) k' C' b') 37 4))) gf_HB_146 37 rfl rfl 43 rfl d_HB_exchange_40 ?_
      refine r_topi (nI (ν 37 4 + 1)) (congrArg nI exN_kn) ?_
      refine r_iconst (nI 1) rfl 44 rfl d_HB_exchange_43 ?_
      refine r_isub 45 rfl d_HB_exchange_44 ?_
      refine r_topi (nI (ν 37 4 + 1) - 1) (rfl) ?_
      refine r_putfn (w2 := CW X a (pu (exN ν (ν 37 4) (ν 37 4 + 1) p' (a (44 + 4 * ν 37 4)) k' C' b') 1 (u1 ((exN ν (ν 37 4) (ν 37 4 + 1) p' (a (44 + 4 * ν 37 4)) k' C' b') 1) 10 (ν 37 4 + 1))) (exS σ (ν 37 4) c' s' w') τ) pf_HB_152 1 rfl (rfl) rfl (Nat.le_of_ble_eq_true rfl) rfl 48 rfl d_HB_exchange_45 ?_
      refine r_aload_n rfl 49 rfl d_HB_exchange_48 ?_
      refine r_getf (v := .ref (a 1)) gf_HB_12 0 rfl rfl 52 rfl d_HB_exchange_49 ?_
      refine r_getfn (v := .int (nI (ν 37 4 + 1) - 1)) gf_HB_152 1 rfl rfl 55 rfl d_HB_exchange_52 ?_
      exact r_iret rfl (Nat.zero_le _) (Nat.zero_le _) d_HB_exchange_55 (by rw [← hQ]; exact ⟨fun z => absurd z (by omega), fun _ => ⟨p', k', C', b', c', s', w', h100, by rw [if_pos hR]; exact ⟨by rw [nI_pred], rfl, hCI hR⟩⟩⟩)
    · rw [if_neg hR, if_neg hR]
      refine r_istore_n (ls2 := [some (.ref (a 0)), some (.int (nI ((exR (ν 37 3) tx).2.1)))]) 23 rfl d_HB_exchange_22 (by decide) rfl rfl ?_
      refine r_iload_n rfl 24 rfl d_HB_exchange_23 ?_
      refine r_if_ltN_f ((exR (ν 37 3) tx).2.1) (by omega) 27 rfl 32 rfl d_HB_exchange_24 (Nat.zero_le _) ?_
      refine r_bipush ((-10)) rfl 29 rfl d_HB_exchange_27 ?_
      refine r_iload_n rfl 30 rfl d_HB_exchange_29 ?_
      refine r_isub 31 rfl d_HB_exchange_30 ?_
      exact r_iret rfl (Nat.zero_le _) (Nat.zero_le _) d_HB_exchange_31 (by rw [← hQ]; exact ⟨fun z => absurd z (by omega), fun _ => ⟨p', k', C', b', c', s', w', h100, by rw [if_neg hR]; exact ⟨rfl, rfl⟩⟩⟩)
  · refine r_bipush ((-4)) rfl 14 rfl d_HB_exchange_12 ?_
    exact r_iret rfl (Nat.zero_le _) (Nat.zero_le _) d_HB_exchange_14 (by rw [← hQ]; exact ⟨fun _ => ⟨rfl, rfl⟩, fun z => absurd (show ν 37 4 = 6 by omega) z⟩)
