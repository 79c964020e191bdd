/-! THE LAW: its loop -/
theorem nf_Law_7 : NF "HandshakeBindsLaw" 7 0 7 [.null, .null, .null, .null, .null, .null, .int 0] := ⟨_, _, t_HB, rfl, i_HB, t_HB_ok, inTB 80 (by decide +kernel) rfl, inTB 81 (by decide +kernel) rfl, inTB 62 (by decide +kernel) rfl, by decide +kernel⟩
theorem nf_Law_10 : NF "HandshakeBindsLaw" 10 9 46 [.int 0, .null, .null, .null, .null, .null, .int 0, .int 0, .null, .int 0, .int 0, .int 0, .int 0, .int 0, .int 0, .null, .null, .null, .null, .null, .null, .int 0, .null, .int 0, .null, .null, .null, .null, .null, .int 0, .null, .null, .int 0, .null, .null, .null, .int 0, .null, .int 0, .null, .null, .null, .null, .null, .null, .null] := ⟨_, _, t_Mod, rfl, i_Mod, t_Mod_ok, inTB 844 (by decide +kernel) rfl, inTB 845 (by decide +kernel) rfl, inTB 72 (by decide +kernel) rfl, by decide +kernel⟩
theorem and63 (x : Int32) : ∃ k : Nat, k < 64 ∧ x &&& nI 63 = nI k := by
  refine ⟨(x &&& 63).toBitVec.toNat, ?_, ?_⟩
  · show (x.toBitVec &&& 63#32).toNat < 64
    rw [BitVec.toNat_and]
    exact Nat.lt_of_le_of_lt Nat.and_le_right (by decide)
  · apply Int32.toBitVec_inj.mp
    show (x &&& 63).toBitVec = BitVec.ofNat 32 _
    simp
theorem law_gap {i L : Nat} (hi : i ≤ 4000) (hL : L ≤ 3072) (h : ¬ nI L - nI 6 < nI i) : i + 6 ≤ L :=
  Nat.le_of_not_lt (fun z => h (Int32.lt_iff_toInt_lt.mpr (by rw [pk_sub_toInt (show L < 2 ^ 30 by omega) (show 6 < 2 ^ 30 by omega), nI_toInt (show i < 2 ^ 31 by omega)]; omega)))
def LQ : Option Value → va_W → Prop := fun v _ => v = some (.int 1)
theorem law_head {X : Xn} {sb L : Nat} {xs : Nat → Int32} {a b : Nat → Nat} {i : Nat} (hi : i ≤ 4000) (hL : L ≤ 3072) (kk : i + 6 ≤ L → LK X LQ sb L xs a b i 27) : LK X LQ sb L xs a b i 18 := by
  intro ν σ τ νm σm τm h
  show RunsS X sb L xs 62 M_Law_law 115 7510 _ 18 [some (.ref sb), some (.ref (a 0)), some (.ref (b 0)), some (.int (nI i))] [] 115 7510 (CW X a ν σ τ ++ MW X b νm σm τm)
  refine s_iload_n rfl 19 rfl d_Law_law_18 ?_
  refine s_aload_n rfl 20 rfl d_Law_law_19 ?_
  refine s_talen 21 rfl d_Law_law_20 ?_
  refine s_bipush (nI 6) rfl 23 rfl d_Law_law_21 ?_
  refine s_isub 24 rfl d_Law_law_23 ?_
  refine s_icmp_gt 27 1308 rfl (by decide) d_Law_law_24 (fun _ => ?_) (fun hf => kk (law_gap hi hL hf) ν σ τ νm σm τm h)
  refine s_iconst (nI 1) rfl 1309 rfl d_Law_law_1308 ?_
  exact s_zret (ty := .boolean) rfl rfl (Nat.le_refl _) (Nat.le_refl _) d_Law_law_1309 rfl
theorem law_tail {X : Xn} {sb L : Nat} {xs : Nat → Int32} {a b : Nat → Nat} {i : Nat} {Q : Option Value → va_W → Prop} (kk : LK X Q sb L xs a b (i + 6) 18) : LK X Q sb L xs a b i 1302 := by
  intro ν σ τ νm σm τm h
  refine s_iinc (nI (i + 6)) rfl (nI_add i 6) 1305 rfl d_Law_law_1302 (by decide) rfl rfl ?_
  exact s_goto 18 (by decide) d_Law_law_1305 (kk ν σ τ νm σm τm h)
theorem law_sw {X : Xn} {sb L : Nat} {xs : Nat → Int32} {a b : Nat → Nat} {i : Nat} {Q : Option Value → va_W → Prop} (hi : i + 6 ≤ L) (hL : L ≤ 3072) (kk : LK X Q sb L xs a b i 1302) : LK X Q sb L xs a b i 27 := by
  intro ν σ τ νm σm τm h
  show RunsS X sb L xs 62 M_Law_law 115 7510 _ 27 [some (.ref sb), some (.ref (a 0)), some (.ref (b 0)), some (.int (nI i))] [] 115 7510 (CW X a ν σ τ ++ MW X b νm σm τm)
  refine s_aload_n rfl 28 rfl d_Law_law_27 ?_
  refine s_iload_n rfl 29 rfl d_Law_law_28 ?_
  refine s_tald i rfl (by omega) (by omega) 30 rfl d_Law_law_29 ?_
  refine s_bipush (nI 63) rfl 32 rfl d_Law_law_30 ?_
  refine s_iand 33 rfl d_Law_law_32 ?_
  obtain ⟨z, hz, ez⟩ := and63 (xs i)
  refine s_topi (nI z) ez ?_
  by_cases e0 : z = 0
  · subst e0; exact s_tableIn 180 d_Law_law_33 (by decide) (by decide) rfl (by decide) (law_0 hi hL kk ν σ τ νm σm τm h)
  by_cases e1 : z = 1
  · subst e1; exact s_tableIn 213 d_Law_law_33 (by decide) (by decide) rfl (by decide) (law_1 hi hL kk ν σ τ νm σm τm h)
  by_cases e2 : z = 2
  · subst e2; exact s_tableIn 246 d_Law_law_33 (by decide) (by decide) rfl (by decide) (law_2 hi hL kk ν σ τ νm σm τm h)
  by_cases e3 : z = 3
  · subst e3; exact s_tableIn 289 d_Law_law_33 (by decide) (by decide) rfl (by decide) (law_3 hi hL kk ν σ τ νm σm τm h)
  by_cases e4 : z = 4
  · subst e4; exact s_tableIn 322 d_Law_law_33 (by decide) (by decide) rfl (by decide) (law_4 hi hL kk ν σ τ νm σm τm h)
  by_cases e5 : z = 5
  · subst e5; exact s_tableIn 375 d_Law_law_33 (by decide) (by decide) rfl (by decide) (law_5 hi hL kk ν σ τ νm σm τm h)
  by_cases e6 : z = 6
  · subst e6; exact s_tableIn 418 d_Law_law_33 (by decide) (by decide) rfl (by decide) (law_6 hi hL kk ν σ τ νm σm τm h)
  by_cases e7 : z = 7
  · subst e7; exact s_tableIn 461 d_Law_law_33 (by decide) (by decide) rfl (by decide) (law_7 hi hL kk ν σ τ νm σm τm h)
  by_cases e8 : z = 8
  · subst e8; exact s_tableIn 514 d_Law_law_33 (by decide) (by decide) rfl (by decide) (law_8 hi hL kk ν σ τ νm σm τm h)
  by_cases e9 : z = 9
  · subst e9; exact s_tableIn 557 d_Law_law_33 (by decide) (by decide) rfl (by decide) (law_9 hi hL kk ν σ τ νm σm τm h)
  by_cases e10 : z = 10
  · subst e10; exact s_tableIn 580 d_Law_law_33 (by decide) (by decide) rfl (by decide) (law_10 hi hL kk ν σ τ νm σm τm h)
  by_cases e11 : z = 11
  · subst e11; exact s_tableIn 593 d_Law_law_33 (by decide) (by decide) rfl (by decide) (law_11 hi hL kk ν σ τ νm σm τm h)
  by_cases e12 : z = 12
  · subst e12; exact s_tableIn 616 d_Law_law_33 (by decide) (by decide) rfl (by decide) (law_12 hi hL kk ν σ τ νm σm τm h)
  by_cases e13 : z = 13
  · subst e13; exact s_tableIn 639 d_Law_law_33 (by decide) (by decide) rfl (by decide) (law_13 hi hL kk ν σ τ νm σm τm h)
  by_cases e14 : z = 14
  · subst e14; exact s_tableIn 702 d_Law_law_33 (by decide) (by decide) rfl (by decide) (law_14 hi hL kk ν σ τ νm σm τm h)
  by_cases e15 : z = 15
  · subst e15; exact s_tableIn 715 d_Law_law_33 (by decide) (by decide) rfl (by decide) (law_15 hi hL kk ν σ τ νm σm τm h)
  by_cases e16 : z = 16
  · subst e16; exact s_tableIn 748 d_Law_law_33 (by decide) (by decide) rfl (by decide) (law_16 hi hL kk ν σ τ νm σm τm h)
  by_cases e17 : z = 17
  · subst e17; exact s_tableIn 772 d_Law_law_33 (by decide) (by decide) rfl (by decide) (law_17 hi hL kk ν σ τ νm σm τm h)
  by_cases e18 : z = 18
  · subst e18; exact s_tableIn 796 d_Law_law_33 (by decide) (by decide) rfl (by decide) (law_18 hi hL kk ν σ τ νm σm τm h)
  by_cases e19 : z = 19
  · subst e19; exact s_tableIn 829 d_Law_law_33 (by decide) (by decide) rfl (by decide) (law_19 hi hL kk ν σ τ νm σm τm h)
  by_cases e20 : z = 20
  · subst e20; exact s_tableIn 852 d_Law_law_33 (by decide) (by decide) rfl (by decide) (law_20 hi hL kk ν σ τ νm σm τm h)
  by_cases e21 : z = 21
  · subst e21; exact s_tableIn 895 d_Law_law_33 (by decide) (by decide) rfl (by decide) (law_21 hi hL kk ν σ τ νm σm τm h)
  by_cases e22 : z = 22
  · subst e22; exact s_tableIn 908 d_Law_law_33 (by decide) (by decide) rfl (by decide) (law_22 hi hL kk ν σ τ νm σm τm h)
  by_cases e23 : z = 23
  · subst e23; exact s_tableIn 941 d_Law_law_33 (by decide) (by decide) rfl (by decide) (law_23 hi hL kk ν σ τ νm σm τm h)
  by_cases e24 : z = 24
  · subst e24; exact s_tableIn 954 d_Law_law_33 (by decide) (by decide) rfl (by decide) (law_24 hi hL kk ν σ τ νm σm τm h)
  by_cases e25 : z = 25
  · subst e25; exact s_tableIn 967 d_Law_law_33 (by decide) (by decide) rfl (by decide) (law_25 hi hL kk ν σ τ νm σm τm h)
  by_cases e26 : z = 26
  · subst e26; exact s_tableIn 1010 d_Law_law_33 (by decide) (by decide) rfl (by decide) (law_26 hi hL kk ν σ τ νm σm τm h)
  by_cases e27 : z = 27
  · subst e27; exact s_tableIn 1033 d_Law_law_33 (by decide) (by decide) rfl (by decide) (law_27 hi hL kk ν σ τ νm σm τm h)
  by_cases e28 : z = 28
  · subst e28; exact s_tableIn 1066 d_Law_law_33 (by decide) (by decide) rfl (by decide) (law_28 hi hL kk ν σ τ νm σm τm h)
  by_cases e29 : z = 29
  · subst e29; exact s_tableIn 1089 d_Law_law_33 (by decide) (by decide) rfl (by decide) (law_29 hi hL kk ν σ τ νm σm τm h)
  by_cases e30 : z = 30
  · subst e30; exact s_tableIn 1132 d_Law_law_33 (by decide) (by decide) rfl (by decide) (law_30 hi hL kk ν σ τ νm σm τm h)
  by_cases e31 : z = 31
  · subst e31; exact s_tableIn 1205 d_Law_law_33 (by decide) (by decide) rfl (by decide) (law_31 hi hL kk ν σ τ νm σm τm h)
  by_cases e32 : z = 32
  · subst e32; exact s_tableIn 1239 d_Law_law_33 (by decide) (by decide) rfl (by decide) (law_32 hi hL kk ν σ τ νm σm τm h)
  exact s_tableOut 1302 d_Law_law_33 (Or.inr (by rw [nI_toInt (by omega)]; omega)) (by decide) (kk ν σ τ νm σm τm h)
theorem law_loop {X : Xn} {sb L : Nat} {xs : Nat → Int32} {a b : Nat → Nat} (hL : L ≤ 3072) : ∀ (f i : Nat), i ≤ 4000 → L ≤ i + f → LK X LQ sb L xs a b i 18 := by
  intro f
  induction f with
  | zero => intro i hi hf; exact law_head hi hL (fun z => absurd z (by omega))
  | succ f ih => intro i hi hf; exact law_head hi hL (fun z => law_sw z hL (law_tail (ih (i + 6) (by omega) (by omega))))
theorem law_ctor {X : Xn} {sb L : Nat} {xs : Nat → Int32} {Q : Option Value → va_W → Prop} {pc : Nat} {ls : List (Option Value)} {rest : List Value} {k j : Nat} {M2 : XM} {ix d2 mc2 ms2 : Nat} {Q2 : Option Value → va_W → Prop} {b : Nat} {pre : va_W} {ob : va_E} (hlk : LIn M2 0) (hln : Cond.methodLink "HandshakeBindsLaw" ix M2.1 ∈ TB) (hM : Does X d2 M2 [.ref b] [(b, ob)] mc2 ms2 Q2) (hd2 : d2 ≤ 60) (hcat : (rest.map fun v => v.category).sum ≤ 8) (hk : k + mc2 ≤ 115) (hj : j + ms2 ≤ 7510) (pc2 : Nat) (hp : pc + 3 = pc2) (hd : decode code pc = .ok (.invokespecial ix, 3)) (kk : ∀ v w', Q2 v w' → (∃ h0 tl, w' = h0 :: tl ∧ h0.1 = b) ∧ RunsS X sb L xs 62 M_Law_law 115 7510 Q pc2 ls (v.toList ++ rest) (k + mc2) (j + ms2) (pre ++ w')) : RunsS X sb L xs 62 M_Law_law 115 7510 Q pc ls (.ref b :: rest) k j (pre ++ [(b, ob)]) := by
  refine s_callI hlk hln hM (by omega) rfl rfl hcat hk hj (List.range' pre.length 1) (mid_C [(b, ob)] pre []) (mid_nd _ _) pc2 hp hd (fun v w' q => ?_)
  obtain ⟨⟨h0, tl, rfl, rfl⟩, hr⟩ := kk v w' q
  refine ⟨[h0], tl, rfl, rfl, ?_⟩
  have e : Xput (pre ++ [(h0.1, ob)]) (List.range' pre.length 1) [h0] = pre ++ [h0] := mid_put [(h0.1, ob)] [h0] pre [] rfl
  rw [e, List.append_assoc]; exact hr
theorem CW_h {X : Xn} {a : Nat → Nat} {ν : Nat → Nat → Nat} {σ : Nat → Nat → Int32} {τ : Nat → Nat → Int64} : ∃ h0 tl, CW X a ν σ τ = h0 :: tl ∧ h0.1 = a 0 := ⟨_, _, rfl, rfl⟩
theorem MW_h {X : Xn} {b νm : Nat → Nat} {σm : Nat → Nat → Int32} {τm : Nat → Int64} : ∃ h0 tl, MW X b νm σm τm = h0 :: tl ∧ h0.1 = b 0 := ⟨_, _, rfl, rfl⟩
theorem law_runs (X : Xn) {sb L : Nat} {xs : Nat → Int32} (hL : L ≤ 3072) : RunsS X sb L xs 62 M_Law_law 115 7510 LQ 0 [some (.ref sb), none, none, none] [] 0 0 [] := by
  refine s_new nf_Law_7 (by decide) (by decide) 3 rfl d_Law_law_0 (fun q => ?_)
  refine s_dup rfl 4 rfl d_Law_law_3 ?_
  refine law_ctor (pre := []) lk_HB_init ln_Law_9 (c_HB_init X q) (by decide) (by show (1 : Nat) ≤ 8; omega) (by decide) (by decide) 7 rfl d_Law_law_4 (fun v w q1 => ?_)
  obtain ⟨rfl, a, rfl, rfl⟩ := q1
  refine ⟨CW_h, ?_⟩
  refine s_astore_n (ls2 := [some (.ref sb), some (.ref (a 0)), none, none]) 8 rfl d_Law_law_7 (by decide) rfl rfl ?_
  refine s_new nf_Law_10 (by decide) (by decide) 11 rfl d_Law_law_8 (fun q => ?_)
  refine s_dup rfl 12 rfl d_Law_law_11 ?_
  refine law_ctor lk_Mod_init ln_Law_12 (c_Mod_init X q) (by decide) (by show (1 : Nat) ≤ 8; omega) (by decide) (by decide) 15 rfl d_Law_law_12 (fun v w q1 => ?_)
  obtain ⟨rfl, b, rfl, rfl⟩ := q1
  refine ⟨MW_h, ?_⟩
  refine s_astore_n (ls2 := [some (.ref sb), some (.ref (a 0)), some (.ref (b 0)), none]) 16 rfl d_Law_law_15 (by decide) rfl rfl ?_
  refine s_iconst (nI 0) rfl 17 rfl d_Law_law_16 ?_
  refine s_istore_n (ls2 := [some (.ref sb), some (.ref (a 0)), some (.ref (b 0)), some (.int (nI 0))]) 18 rfl d_Law_law_17 (by decide) rfl rfl ?_
  have := law_loop (X := X) (sb := sb) (xs := xs) (a := a) (b := b) hL L 0 (by omega) (by omega) (nI0 (a 40)) sI0 (fun _ _ => 0) (fun _ => 0) mI0 (fun _ => 0) (REL_0 _)
  exact this
