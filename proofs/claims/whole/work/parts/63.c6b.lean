def cpS0 (σ : Nat → Nat → Int32) (c d : Nat) : Nat → Nat → Int32 := u2 (u2 (u2 (u2 (u2 (u2 (u2 (u2 σ (c + 2) (va_cpy (σ (d + 2)) (σ (c + 2)) 0 0 6)) (c + 3) (va_cpy (σ (d + 3)) (σ (c + 3)) 0 0 36)) (c + 5) (va_cpy (σ (d + 5)) (σ (c + 5)) 0 0 6)) (c + 6) (va_cpy (σ (d + 6)) (σ (c + 6)) 0 0 6)) (c + 7) (va_cpy (σ (d + 7)) (σ (c + 7)) 0 0 24)) (c + 9) (va_cpy (σ (d + 9)) (σ (c + 9)) 0 0 25)) (c + 11) (va_cpy (σ (d + 11)) (σ (c + 11)) 0 0 50)) (c + 13) (va_cpy (σ (d + 13)) (σ (c + 13)) 0 0 40)
def M_HB_image : XM := (⟨"HandshakeBinds", "image", "()I"⟩, prog_1_method_25_code, 1, (some .int))
theorem d_HB_image_0 : decode M_HB_image.2.1 0 = .ok (.aload_n 0, 1) := by decide +kernel
theorem d_HB_image_1 : decode M_HB_image.2.1 1 = .ok (.getfield 18, 3) := by decide +kernel
theorem gf_HB_18 : GF "HandshakeBinds" 18 0 1 := ⟨_, _, _, rfl, by decide, i_HB, inTB 318 (by decide +kernel) rfl⟩
theorem d_HB_image_4 : decode M_HB_image.2.1 4 = .ok (.aload_n 0, 1) := by decide +kernel
theorem d_HB_image_5 : decode M_HB_image.2.1 5 = .ok (.getfield 12, 3) := by decide +kernel
theorem d_HB_image_8 : decode M_HB_image.2.1 8 = .ok (.invokevirtual 232, 3) := by decide +kernel
theorem ln_HB_232 : Cond.methodLink "HandshakeBinds" 232 M_Mkt_copyFrom.1 ∈ TB := inTB 757 (by decide +kernel) rfl
theorem lk_Mkt_copyFrom : LVt M_Mkt_copyFrom 1 := ⟨⟨inTB 63 (by decide +kernel) rfl, inTB 760 (by decide +kernel) rfl, ⟨by decide, by decide, by decide +kernel⟩, by decide⟩, inTB 758 (by decide +kernel) rfl, inTB 759 (by decide +kernel) rfl⟩
theorem d_HB_image_11 : decode M_HB_image.2.1 11 = .ok (.aload_n 0, 1) := by decide +kernel
theorem d_HB_image_12 : decode M_HB_image.2.1 12 = .ok (.iconst 1, 1) := by decide +kernel
theorem d_HB_image_13 : decode M_HB_image.2.1 13 = .ok (.putfield 235, 3) := by decide +kernel
theorem pf_HB_235 : PF "HandshakeBinds" 235 0 6 (.boolean) false := ⟨_, _, _, t_HB, rfl, by decide, i_HB, t_HB_ok, n_HB, inTB 323 (by decide +kernel) rfl, rfl, t_HB_ok 6 (by decide), fun _ => rfl⟩
theorem d_HB_image_16 : decode M_HB_image.2.1 16 = .ok (.aload_n 0, 1) := by decide +kernel
theorem d_HB_image_17 : decode M_HB_image.2.1 17 = .ok (.getfield 12, 3) := by decide +kernel
theorem d_HB_image_20 : decode M_HB_image.2.1 20 = .ok (.getfield 49, 3) := by decide +kernel
theorem d_HB_image_23 : decode M_HB_image.2.1 23 = .ok (.getfield 52, 3) := by decide +kernel
theorem d_HB_image_26 : decode M_HB_image.2.1 26 = .ok (.ireturn, 1) := by decide +kernel
def M_HB_undo : XM := (⟨"HandshakeBinds", "undo", "()I"⟩, prog_1_method_26_code, 1, (some .int))
theorem d_HB_undo_0 : decode M_HB_undo.2.1 0 = .ok (.aload_n 0, 1) := by decide +kernel
theorem d_HB_undo_1 : decode M_HB_undo.2.1 1 = .ok (.getfield 235, 3) := by decide +kernel
theorem gf_HB_235 : GF "HandshakeBinds" 235 0 6 := ⟨_, _, _, rfl, by decide, i_HB, inTB 323 (by decide +kernel) rfl⟩
theorem d_HB_undo_4 : decode M_HB_undo.2.1 4 = .ok (.ifCond .ne 6, 3) := by decide +kernel
theorem d_HB_undo_10 : decode M_HB_undo.2.1 10 = .ok (.aload_n 0, 1) := by decide +kernel
theorem d_HB_undo_11 : decode M_HB_undo.2.1 11 = .ok (.getfield 12, 3) := by decide +kernel
theorem d_HB_undo_14 : decode M_HB_undo.2.1 14 = .ok (.aload_n 0, 1) := by decide +kernel
theorem d_HB_undo_15 : decode M_HB_undo.2.1 15 = .ok (.getfield 18, 3) := by decide +kernel
theorem d_HB_undo_18 : decode M_HB_undo.2.1 18 = .ok (.invokevirtual 232, 3) := by decide +kernel
theorem d_HB_undo_21 : decode M_HB_undo.2.1 21 = .ok (.aload_n 0, 1) := by decide +kernel
theorem d_HB_undo_22 : decode M_HB_undo.2.1 22 = .ok (.getfield 12, 3) := by decide +kernel
theorem d_HB_undo_25 : decode M_HB_undo.2.1 25 = .ok (.getfield 49, 3) := by decide +kernel
theorem d_HB_undo_28 : decode M_HB_undo.2.1 28 = .ok (.getfield 52, 3) := by decide +kernel
theorem d_HB_undo_31 : decode M_HB_undo.2.1 31 = .ok (.ireturn, 1) := by decide +kernel
theorem d_HB_undo_7 : decode M_HB_undo.2.1 7 = .ok (.bipush (-3), 2) := by decide +kernel
theorem d_HB_undo_9 : decode M_HB_undo.2.1 9 = .ok (.ireturn, 1) := by decide +kernel
set_option maxHeartbeats 8000000 in
theorem c_C_copy17 (X : Xn) (a : Nat → Nat) (ν : Nat → Nat → Nat) (σ : Nat → Nat → Int32) (τ : Nat → Nat → Int64) : Does X 3 M_Mkt_copyFrom [.ref (a 17), .ref (a 1)] (CW X a ν σ τ) 0 0 (fun (vv : Option Value) (ww : va_W) => vv = none ∧ ww = CW X a (cpN ν 17 1) (cpS0 σ 17 1) τ) := by
  exact (Does.frame (c_Mkt_copyFrom X (pl [17, 18, 19, 20, 21, 22, 23, 24, 25, 26, 27, 28, 29, 30, 31, 32, 1, 2, 3, 4, 5, 6, 7, 8, 9, 10, 11, 12, 13, 14, 15, 16] a) (pl [17, 18, 19, 20, 21, 22, 23, 24, 25, 26, 27, 28, 29, 30, 31, 32, 1, 2, 3, 4, 5, 6, 7, 8, 9, 10, 11, 12, 13, 14, 15, 16] ν) (pl [17, 18, 19, 20, 21, 22, 23, 24, 25, 26, 27, 28, 29, 30, 31, 32, 1, 2, 3, 4, 5, 6, 7, 8, 9, 10, 11, 12, 13, 14, 15, 16] σ) (pl [17, 18, 19, 20, 21, 22, 23, 24, 25, 26, 27, 28, 29, 30, 31, 32, 1, 2, 3, 4, 5, 6, 7, 8, 9, 10, 11, 12, 13, 14, 15, 16] τ)) [17, 18, 19, 20, 21, 22, 23, 24, 25, 26, 27, 28, 29, 30, 31, 32, 1, 2, 3, 4, 5, 6, 7, 8, 9, 10, 11, 12, 13, 14, 15, 16] rfl (by decide) (fun v w0 hq => by rw [hq.2]; rfl)).mono (fun v w2 hq => by obtain ⟨w0, hq, rfl⟩ := hq; rw [hq.2]; exact ⟨hq.1, (Xput_mrg2 (is := [17, 18, 19, 20, 21, 22, 23, 24, 25, 26, 27, 28, 29, 30, 31, 32]) (js := [1, 2, 3, 4, 5, 6, 7, 8, 9, 10, 11, 12, 13, 14, 15, 16]) rfl rfl (Nat.le_of_ble_eq_true rfl)).trans rfl⟩)
set_option maxHeartbeats 8000000 in
theorem r_cp17 {X : Xn} {a : Nat → Nat} {ν : Nat → Nat → Nat} {σ : Nat → Nat → Int32} {τ : Nat → Nat → Int64} {d : Nat} {M : XM} {mc ms : Nat} {Q : Option Value → va_W → Prop} {pc : Nat} {ls : List (Option Value)} {st : List Value} {k j : Nat} (kk : Runs X d M mc ms Q pc ls st k j (CW X a ν (cpS σ 17 1) τ)) : Runs X d M mc ms Q pc ls st k j (CW X a ν (cpS0 σ 17 1) τ) := by
  refine r_arrI (w2 := CW X a ν (u2 (cpS0 σ 17 1) 19 (σ 3)) τ) 19 rfl (σ 3) (fun z hz => cpy_ex hz) rfl ?_
  refine r_arrI (w2 := CW X a ν (u2 (u2 (cpS0 σ 17 1) 19 (σ 3)) 20 (σ 4)) τ) 20 rfl (σ 4) (fun z hz => cpy_ex hz) rfl ?_
  refine r_arrI (w2 := CW X a ν (u2 (u2 (u2 (cpS0 σ 17 1) 19 (σ 3)) 20 (σ 4)) 22 (σ 6)) τ) 22 rfl (σ 6) (fun z hz => cpy_ex hz) rfl ?_
  refine r_arrI (w2 := CW X a ν (u2 (u2 (u2 (u2 (cpS0 σ 17 1) 19 (σ 3)) 20 (σ 4)) 22 (σ 6)) 23 (σ 7)) τ) 23 rfl (σ 7) (fun z hz => cpy_ex hz) rfl ?_
  refine r_arrI (w2 := CW X a ν (u2 (u2 (u2 (u2 (u2 (cpS0 σ 17 1) 19 (σ 3)) 20 (σ 4)) 22 (σ 6)) 23 (σ 7)) 24 (σ 8)) τ) 24 rfl (σ 8) (fun z hz => cpy_ex hz) rfl ?_
  refine r_arrI (w2 := CW X a ν (u2 (u2 (u2 (u2 (u2 (u2 (cpS0 σ 17 1) 19 (σ 3)) 20 (σ 4)) 22 (σ 6)) 23 (σ 7)) 24 (σ 8)) 26 (σ 10)) τ) 26 rfl (σ 10) (fun z hz => cpy_ex hz) rfl ?_
  refine r_arrI (w2 := CW X a ν (u2 (u2 (u2 (u2 (u2 (u2 (u2 (cpS0 σ 17 1) 19 (σ 3)) 20 (σ 4)) 22 (σ 6)) 23 (σ 7)) 24 (σ 8)) 26 (σ 10)) 28 (σ 12)) τ) 28 rfl (σ 12) (fun z hz => cpy_ex hz) rfl ?_
  refine r_arrI (w2 := CW X a ν (u2 (u2 (u2 (u2 (u2 (u2 (u2 (u2 (cpS0 σ 17 1) 19 (σ 3)) 20 (σ 4)) 22 (σ 6)) 23 (σ 7)) 24 (σ 8)) 26 (σ 10)) 28 (σ 12)) 30 (σ 14)) τ) 30 rfl (σ 14) (fun z hz => cpy_ex hz) rfl ?_
  exact kk
set_option maxHeartbeats 8000000 in
theorem c_C_copy1 (X : Xn) (a : Nat → Nat) (ν : Nat → Nat → Nat) (σ : Nat → Nat → Int32) (τ : Nat → Nat → Int64) : Does X 3 M_Mkt_copyFrom [.ref (a 1), .ref (a 17)] (CW X a ν σ τ) 0 0 (fun (vv : Option Value) (ww : va_W) => vv = none ∧ ww = CW X a (cpN ν 1 17) (cpS0 σ 1 17) τ) := by
  exact (Does.frame (c_Mkt_copyFrom X (pl [1, 2, 3, 4, 5, 6, 7, 8, 9, 10, 11, 12, 13, 14, 15, 16, 17, 18, 19, 20, 21, 22, 23, 24, 25, 26, 27, 28, 29, 30, 31, 32] a) (pl [1, 2, 3, 4, 5, 6, 7, 8, 9, 10, 11, 12, 13, 14, 15, 16, 17, 18, 19, 20, 21, 22, 23, 24, 25, 26, 27, 28, 29, 30, 31, 32] ν) (pl [1, 2, 3, 4, 5, 6, 7, 8, 9, 10, 11, 12, 13, 14, 15, 16, 17, 18, 19, 20, 21, 22, 23, 24, 25, 26, 27, 28, 29, 30, 31, 32] σ) (pl [1, 2, 3, 4, 5, 6, 7, 8, 9, 10, 11, 12, 13, 14, 15, 16, 17, 18, 19, 20, 21, 22, 23, 24, 25, 26, 27, 28, 29, 30, 31, 32] τ)) [1, 2, 3, 4, 5, 6, 7, 8, 9, 10, 11, 12, 13, 14, 15, 16, 17, 18, 19, 20, 21, 22, 23, 24, 25, 26, 27, 28, 29, 30, 31, 32] rfl (by decide) (fun v w0 hq => by rw [hq.2]; rfl)).mono (fun v w2 hq => by obtain ⟨w0, hq, rfl⟩ := hq; rw [hq.2]; exact ⟨hq.1, (Xput_mrg2 (is := [1, 2, 3, 4, 5, 6, 7, 8, 9, 10, 11, 12, 13, 14, 15, 16]) (js := [17, 18, 19, 20, 21, 22, 23, 24, 25, 26, 27, 28, 29, 30, 31, 32]) rfl rfl (Nat.le_of_ble_eq_true rfl)).trans rfl⟩)
set_option maxHeartbeats 8000000 in
theorem r_cp1 {X : Xn} {a : Nat → Nat} {ν : Nat → Nat → Nat} {σ : Nat → Nat → Int32} {τ : Nat → Nat → Int64} {d : Nat} {M : XM} {mc ms : Nat} {Q : Option Value → va_W → Prop} {pc : Nat} {ls : List (Option Value)} {st : List Value} {k j : Nat} (kk : Runs X d M mc ms Q pc ls st k j (CW X a ν (cpS σ 1 17) τ)) : Runs X d M mc ms Q pc ls st k j (CW X a ν (cpS0 σ 1 17) τ) := by
  refine r_arrI (w2 := CW X a ν (u2 (cpS0 σ 1 17) 3 (σ 19)) τ) 3 rfl (σ 19) (fun z hz => cpy_ex hz) rfl ?_
  refine r_arrI (w2 := CW X a ν (u2 (u2 (cpS0 σ 1 17) 3 (σ 19)) 4 (σ 20)) τ) 4 rfl (σ 20) (fun z hz => cpy_ex hz) rfl ?_
  refine r_arrI (w2 := CW X a ν (u2 (u2 (u2 (cpS0 σ 1 17) 3 (σ 19)) 4 (σ 20)) 6 (σ 22)) τ) 6 rfl (σ 22) (fun z hz => cpy_ex hz) rfl ?_
  refine r_arrI (w2 := CW X a ν (u2 (u2 (u2 (u2 (cpS0 σ 1 17) 3 (σ 19)) 4 (σ 20)) 6 (σ 22)) 7 (σ 23)) τ) 7 rfl (σ 23) (fun z hz => cpy_ex hz) rfl ?_
  refine r_arrI (w2 := CW X a ν (u2 (u2 (u2 (u2 (u2 (cpS0 σ 1 17) 3 (σ 19)) 4 (σ 20)) 6 (σ 22)) 7 (σ 23)) 8 (σ 24)) τ) 8 rfl (σ 24) (fun z hz => cpy_ex hz) rfl ?_
  refine r_arrI (w2 := CW X a ν (u2 (u2 (u2 (u2 (u2 (u2 (cpS0 σ 1 17) 3 (σ 19)) 4 (σ 20)) 6 (σ 22)) 7 (σ 23)) 8 (σ 24)) 10 (σ 26)) τ) 10 rfl (σ 26) (fun z hz => cpy_ex hz) rfl ?_
  refine r_arrI (w2 := CW X a ν (u2 (u2 (u2 (u2 (u2 (u2 (u2 (cpS0 σ 1 17) 3 (σ 19)) 4 (σ 20)) 6 (σ 22)) 7 (σ 23)) 8 (σ 24)) 10 (σ 26)) 12 (σ 28)) τ) 12 rfl (σ 28) (fun z hz => cpy_ex hz) rfl ?_
  refine r_arrI (w2 := CW X a ν (u2 (u2 (u2 (u2 (u2 (u2 (u2 (u2 (cpS0 σ 1 17) 3 (σ 19)) 4 (σ 20)) 6 (σ 22)) 7 (σ 23)) 8 (σ 24)) 10 (σ 26)) 12 (σ 28)) 14 (σ 30)) τ) 14 rfl (σ 30) (fun z hz => cpy_ex hz) rfl ?_
  exact kk
theorem c_HB_image (X : Xn) (a : Nat → Nat) (ν : Nat → Nat → Nat) (σ : Nat → Nat → Int32) (τ : Nat → Nat → Int64)   : Does X 4 M_HB_image [.ref (a 0)] (CW X a ν σ τ) 0 0 (fun (vv : Option Value) (ww : va_W) => vv = some (.int (nI (ν 2 3))) ∧ ww = CW X a (pu (cpN ν 17 1) 0 (u1 (ν 0) 6 1)) (cpS σ 17 1) τ) := by
  generalize hQ : (fun (vv : Option Value) (ww : va_W) => vv = some (.int (nI (ν 2 3))) ∧ ww = CW X a (pu (cpN ν 17 1) 0 (u1 (ν 0) 6 1)) (cpS σ 17 1) τ) = Q
  refine Does.go rfl (Nat.le_of_ble_eq_true rfl) [some (.ref (a 0))] 0 rfl ?_
  refine r_aload_n rfl 1 rfl d_HB_image_0 ?_
  refine r_getf (v := .ref (a 17)) gf_HB_18 0 rfl rfl 4 rfl d_HB_image_1 ?_
  refine r_aload_n rfl 5 rfl d_HB_image_4 ?_
  refine r_getf (v := .ref (a 1)) gf_HB_12 0 rfl rfl 8 rfl d_HB_image_5 ?_
  refine r_callVA1 (st2 := []) (w2 := CW X a (cpN ν 17 1) (cpS0 σ 17 1) τ) lk_Mkt_copyFrom ln_HB_232 (c_C_copy17 X a ν σ τ) (by first | decide | omega) rfl rfl (Nat.le_of_ble_eq_true rfl) (Nat.le_of_ble_eq_true rfl) (Nat.le_of_ble_eq_true rfl) 17 rfl rfl rfl rfl 11 rfl d_HB_image_8 ?_
  refine r_cp17 ?_
  refine r_aload_n rfl 12 rfl d_HB_image_11 ?_
  refine r_iconst (nI 1) rfl 13 rfl d_HB_image_12 ?_
  refine r_putf (w2 := CW X a (pu (cpN ν 17 1) 0 (u1 ((cpN ν 17 1) 0) 6 1)) (cpS σ 17 1) τ) pf_HB_235 0 rfl (rfl) rfl (Nat.le_of_ble_eq_true rfl) rfl 16 rfl d_HB_image_13 ?_
  refine r_aload_n rfl 17 rfl d_HB_image_16 ?_
  refine r_getf (v := .ref (a 1)) gf_HB_12 0 rfl rfl 20 rfl d_HB_image_17 ?_
  refine r_getfn (v := .ref (a 2)) gf_HB_49 1 rfl rfl 23 rfl d_HB_image_20 ?_
  refine r_getfn (v := .int (nI ((cpN ν 17 1) 2 3))) gf_HB_52 2 rfl rfl 26 rfl d_HB_image_23 ?_
  exact r_iret rfl (Nat.zero_le _) (Nat.zero_le _) d_HB_image_26 (by rw [← hQ]; exact ⟨rfl, rfl⟩)
theorem c_HB_undo (X : Xn) (a : Nat → Nat) (ν : Nat → Nat → Nat) (σ : Nat → Nat → Int32) (τ : Nat → Nat → Int64)   (hi : ν 0 6 ≤ 1) : Does X 4 M_HB_undo [.ref (a 0)] (CW X a ν σ τ) 0 0 (fun (vv : Option Value) (ww : va_W) => vv = some (.int (if ν 0 6 = 0 then -3 else nI (ν 18 3))) ∧ ww = (if ν 0 6 = 0 then CW X a ν σ τ else CW X a (cpN ν 1 17) (cpS σ 1 17) τ)) := by
  generalize hQ : (fun (vv : Option Value) (ww : va_W) => vv = some (.int (if ν 0 6 = 0 then -3 else nI (ν 18 3))) ∧ ww = (if ν 0 6 = 0 then CW X a ν σ τ else CW X a (cpN ν 1 17) (cpS σ 1 17) τ)) = Q
  refine Does.go rfl (Nat.le_of_ble_eq_true rfl) [some (.ref (a 0))] 0 rfl ?_
  refine r_aload_n rfl 1 rfl d_HB_undo_0 ?_
  refine r_getf (v := .int (nI (ν 0 6))) gf_HB_235 0 rfl rfl 4 rfl d_HB_undo_1 ?_
  refine r_if_neN (ν 0 6) (by omega) 7 10 rfl rfl d_HB_undo_4 (fun h4 => ?_) (fun h4 => ?_)
  · refine r_aload_n rfl 11 rfl d_HB_undo_10 ?_
    refine r_getf (v := .ref (a 1)) gf_HB_12 0 rfl rfl 14 rfl d_HB_undo_11 ?_
    refine r_aload_n rfl 15 rfl d_HB_undo_14 ?_
    refine r_getf (v := .ref (a 17)) gf_HB_18 0 rfl rfl 18 rfl d_HB_undo_15 ?_
    refine r_callVA1 (st2 := []) (w2 := CW X a (cpN ν 1 17) (cpS0 σ 1 17) τ) lk_Mkt_copyFrom ln_HB_232 (c_C_copy1 X a ν σ τ) (by first | decide | omega) rfl rfl (Nat.le_of_ble_eq_true rfl) (Nat.le_of_ble_eq_true rfl) (Nat.le_of_ble_eq_true rfl) 1 rfl rfl rfl rfl 21 rfl d_HB_undo_18 ?_
    refine r_cp1 ?_
    refine r_aload_n rfl 22 rfl d_HB_undo_21 ?_
    refine r_getf (v := .ref (a 1)) gf_HB_12 0 rfl rfl 25 rfl d_HB_undo_22 ?_
    refine r_getfn (v := .ref (a 2)) gf_HB_49 1 rfl rfl 28 rfl d_HB_undo_25 ?_
    refine r_getfn (v := .int (nI ((cpN ν 1 17) 2 3))) gf_HB_52 2 rfl rfl 31 rfl d_HB_undo_28 ?_
    exact r_iret rfl (Nat.zero_le _) (Nat.zero_le _) d_HB_undo_31 (by rw [← hQ]; exact ⟨by rw [if_neg h4]; rfl, by rw [if_neg h4]⟩)
  · refine r_bipush ((-3)) rfl 9 rfl d_HB_undo_7 ?_
    exact r_iret rfl (Nat.zero_le _) (Nat.zero_le _) d_HB_undo_9 (by rw [← hQ]; exact ⟨by rw [if_pos h4], by rw [if_pos h4]⟩)
