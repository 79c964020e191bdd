def bod (k m : Nat) : Nat := (bodyV.getD (k * 3 + m) 0).toNatClampNeg
/-- whose body one of kind k plays -/
def own (k m : Nat) : Nat := if bod k m = 0 then (if bod (abv k) m = 0 then (if bod (abv (abv k)) m = 0 then 0 else abv (abv k)) else abv k) else k
theorem bod_v : ∀ k : Fin 7, ∀ m : Fin 3, bodyV.getD (k.val * 3 + m.val) 0 = nI (bod k.val m.val) := by decide +kernel
theorem own_0 : ∀ k : Fin 7, ∀ m : Fin 3, bod k.val m.val = 0 → 0 < k.val ∧ own (abv k.val) m.val = own k.val m.val := by decide +kernel
theorem own_1 : ∀ k : Fin 7, ∀ m : Fin 3, ¬ bod k.val m.val = 0 → own k.val m.val = k.val := by decide +kernel
theorem bod_lt : ∀ k : Fin 7, ∀ m : Fin 3, bod k.val m.val < 100 := by decide +kernel
def M_Act_ownerOf : XM := (⟨"HandshakeBinds$Actor", "ownerOf", "(II)I"⟩, prog_2_method_4_code, 4, (some .int))
theorem d_Act_ownerOf_0 : decode M_Act_ownerOf.2.1 0 = .ok (.iload_n 0, 1) := by decide +kernel
theorem d_Act_ownerOf_1 : decode M_Act_ownerOf.2.1 1 = .ok (.istore_n 2, 1) := by decide +kernel
theorem d_Act_ownerOf_2 : decode M_Act_ownerOf.2.1 2 = .ok (.iconst 0, 1) := by decide +kernel
theorem d_Act_ownerOf_3 : decode M_Act_ownerOf.2.1 3 = .ok (.istore_n 3, 1) := by decide +kernel
theorem d_Act_ownerOf_4 : decode M_Act_ownerOf.2.1 4 = .ok (.iload_n 3, 1) := by decide +kernel
theorem d_Act_ownerOf_5 : decode M_Act_ownerOf.2.1 5 = .ok (.bipush 7, 2) := by decide +kernel
theorem d_Act_ownerOf_7 : decode M_Act_ownerOf.2.1 7 = .ok (.if_icmp .ge 37, 3) := by decide +kernel
theorem d_Act_ownerOf_10 : decode M_Act_ownerOf.2.1 10 = .ok (.iload_n 2, 1) := by decide +kernel
theorem d_Act_ownerOf_11 : decode M_Act_ownerOf.2.1 11 = .ok (.ifCond .lt 33, 3) := by decide +kernel
theorem d_Act_ownerOf_14 : decode M_Act_ownerOf.2.1 14 = .ok (.getstatic 29, 3) := by decide +kernel
theorem d_Act_ownerOf_17 : decode M_Act_ownerOf.2.1 17 = .ok (.iload_n 2, 1) := by decide +kernel
theorem d_Act_ownerOf_18 : decode M_Act_ownerOf.2.1 18 = .ok (.iconst 3, 1) := by decide +kernel
theorem d_Act_ownerOf_19 : decode M_Act_ownerOf.2.1 19 = .ok (.imul, 1) := by decide +kernel
theorem d_Act_ownerOf_20 : decode M_Act_ownerOf.2.1 20 = .ok (.iload_n 1, 1) := by decide +kernel
theorem d_Act_ownerOf_21 : decode M_Act_ownerOf.2.1 21 = .ok (.iadd, 1) := by decide +kernel
theorem d_Act_ownerOf_22 : decode M_Act_ownerOf.2.1 22 = .ok (.invokestatic 32, 3) := by decide +kernel
theorem ln_Act_32 : Cond.methodLinkNest "HandshakeBinds$Actor" 32 M_HB_at.1 "HandshakeBinds" ∈ NW := inNW 790 (by decide +kernel) rfl
theorem d_Act_ownerOf_25 : decode M_Act_ownerOf.2.1 25 = .ok (.ifCond .eq 5, 3) := by decide +kernel
theorem d_Act_ownerOf_30 : decode M_Act_ownerOf.2.1 30 = .ok (.getstatic 43, 3) := by decide +kernel
theorem d_Act_ownerOf_33 : decode M_Act_ownerOf.2.1 33 = .ok (.iload_n 2, 1) := by decide +kernel
theorem d_Act_ownerOf_34 : decode M_Act_ownerOf.2.1 34 = .ok (.invokestatic 32, 3) := by decide +kernel
theorem d_Act_ownerOf_37 : decode M_Act_ownerOf.2.1 37 = .ok (.istore_n 2, 1) := by decide +kernel
theorem d_Act_ownerOf_38 : decode M_Act_ownerOf.2.1 38 = .ok (.iinc 3 1, 3) := by decide +kernel
theorem d_Act_ownerOf_41 : decode M_Act_ownerOf.2.1 41 = .ok (.goto (-37), 3) := by decide +kernel
theorem d_Act_ownerOf_28 : decode M_Act_ownerOf.2.1 28 = .ok (.iload_n 2, 1) := by decide +kernel
theorem d_Act_ownerOf_29 : decode M_Act_ownerOf.2.1 29 = .ok (.ireturn, 1) := by decide +kernel
def M_Act_play : XM := (⟨"HandshakeBinds$Actor", "play", "(III)V"⟩, prog_2_method_2_code, 4, none)
theorem d_Act_play_0 : decode M_Act_play.2.1 0 = .ok (.aload_n 0, 1) := by decide +kernel
theorem d_Act_play_1 : decode M_Act_play.2.1 1 = .ok (.iload_n 1, 1) := by decide +kernel
theorem d_Act_play_2 : decode M_Act_play.2.1 2 = .ok (.putfield 15, 3) := by decide +kernel
theorem pf_Act_15 : PF "HandshakeBinds$Actor" 15 7 2 (.int) false := ⟨_, _, _, t_Act, rfl, by decide, i_Act, t_Act_ok, n_Act, inTB 281 (by decide +kernel) rfl, rfl, t_Act_ok 2 (by decide), fun _ => rfl⟩
theorem d_Act_play_5 : decode M_Act_play.2.1 5 = .ok (.aload_n 0, 1) := by decide +kernel
theorem d_Act_play_6 : decode M_Act_play.2.1 6 = .ok (.iload_n 2, 1) := by decide +kernel
theorem d_Act_play_7 : decode M_Act_play.2.1 7 = .ok (.putfield 19, 3) := by decide +kernel
theorem pf_Act_19 : PF "HandshakeBinds$Actor" 19 7 3 (.int) false := ⟨_, _, _, t_Act, rfl, by decide, i_Act, t_Act_ok, n_Act, inTB 282 (by decide +kernel) rfl, rfl, t_Act_ok 3 (by decide), fun _ => rfl⟩
theorem d_Act_play_10 : decode M_Act_play.2.1 10 = .ok (.aload_n 0, 1) := by decide +kernel
theorem d_Act_play_11 : decode M_Act_play.2.1 11 = .ok (.iload_n 3, 1) := by decide +kernel
theorem d_Act_play_12 : decode M_Act_play.2.1 12 = .ok (.putfield 22, 3) := by decide +kernel
theorem pf_Act_22 : PF "HandshakeBinds$Actor" 22 7 4 (.int) false := ⟨_, _, _, t_Act, rfl, by decide, i_Act, t_Act_ok, n_Act, inTB 284 (by decide +kernel) rfl, rfl, t_Act_ok 4 (by decide), fun _ => rfl⟩
theorem d_Act_play_15 : decode M_Act_play.2.1 15 = .ok (.return_, 1) := by decide +kernel
theorem gr_f0 {p : Nat} {v : Int32} {f : Nat} {x : Int32} {s : Trc} : gr p v (f + 1) 0 x s = (x + nI p, rnT s 10) := by
  rw [gr, if_neg (by decide), if_neg (by decide), if_neg (by decide), if_pos rfl]
theorem gr_f1 {p : Nat} {v : Int32} {f : Nat} {x : Int32} {s : Trc} : gr p v (f + 1 + 1) 1 x s = (x + nI p, rnT s 10) := by
  rw [gr, if_neg (by decide), if_neg (by decide), if_neg (by decide), if_neg (by decide), show abv 1 = 0 from rfl, gr_f0]
theorem gr_f3 {p : Nat} {v : Int32} {f : Nat} {x : Int32} {s : Trc} : gr p v (f + 1 + 1) 3 x s = (x + nI p, rnT s 10) := by
  rw [gr, if_neg (by decide), if_neg (by decide), if_neg (by decide), if_neg (by decide), show abv 3 = 0 from rfl, gr_f0]
theorem gr_f2 {p : Nat} {v : Int32} {f : Nat} {x : Int32} {s : Trc} : gr p v (f + 1 + 1) 2 x s = gr p v 7 0 (x * nI 3) (rnT s 30) := by
  rw [gr, if_pos rfl, gr_f0, gr_f0 (f := 6)]
theorem g_0_0 {p : Nat} {v : Int32} {x : Int32} {s : Trc} : gr p v 7 0 x s = (x + nI p, rnT s 10) := gr_f0 (f := 6)
theorem g_0_1 {p : Nat} {v : Int32} {x : Int32} {s : Trc} : gr p v 7 1 x s = (x + nI p, rnT s 10) := gr_f1 (f := 5)
theorem g_0_3 {p : Nat} {v : Int32} {x : Int32} {s : Trc} : gr p v 7 3 x s = (x + nI p, rnT s 10) := gr_f3 (f := 5)
theorem g_0_2 {p : Nat} {v : Int32} {x : Int32} {s : Trc} : gr p v 7 2 x s = gr p v 7 0 (x * nI 3) (rnT s 30) := gr_f2 (f := 5)
theorem gr_f5 {p : Nat} {v : Int32} {f : Nat} {x : Int32} {s : Trc} : gr p v (f + 1 + 1 + 1) 5 x s = gr p v 7 0 (x * nI 3) (rnT s 30) := by
  rw [gr, if_neg (by decide), if_neg (by decide), if_neg (by decide), if_neg (by decide), show abv 5 = 2 from rfl, gr_f2]
theorem g_0_5 {p : Nat} {v : Int32} {x : Int32} {s : Trc} : gr p v 7 5 x s = gr p v 7 0 (x * nI 3) (rnT s 30) := gr_f5 (f := 4)
theorem gr_f4 {p : Nat} {v : Int32} {f : Nat} {x : Int32} {s : Trc} : gr p v (f + 1 + 1 + 1) 4 x s = (-(gr p v 7 1 x (rnT s 50)).1, (gr p v 7 1 x (rnT s 50)).2) := by
  rw [gr, if_neg (by decide), if_pos rfl, gr_f1, g_0_1]
theorem g_0_4 {p : Nat} {v : Int32} {x : Int32} {s : Trc} : gr p v 7 4 x s = (-(gr p v 7 1 x (rnT s 50)).1, (gr p v 7 1 x (rnT s 50)).2) := gr_f4 (f := 4)
theorem gr_f6 {p : Nat} {v : Int32} {f : Nat} {x : Int32} {s : Trc} : gr p v (f + 1 + 1 + 1) 6 x s = ((gr p v 7 3 x (rnT s 71)).1 ^^^ v, (gr p v 7 3 x (rnT s 71)).2) := by
  rw [gr, if_neg (by decide), if_neg (by decide), if_pos rfl, gr_f3, g_0_3]
theorem g_0_6 {p : Nat} {v : Int32} {x : Int32} {s : Trc} : gr p v 7 6 x s = ((gr p v 7 3 x (rnT s 71)).1 ^^^ v, (gr p v 7 3 x (rnT s 71)).2) := gr_f6 (f := 4)
def le0 (p K : Nat) (v x : Int32) (s : Trc) : Int32 × Trc := ((gr p v 7 K x (rnT s 11)).1 - v, (gr p v 7 K x (rnT s 11)).2)
theorem le_f0 {p K : Nat} {v : Int32} {f : Nat} {x : Int32} {s : Trc} : le p K v (f + 1) 0 x s = le0 p K v x s := by
  rw [le, if_neg (by decide), if_neg (by decide), if_neg (by decide), if_pos rfl]; rfl
theorem le_f2 {p K : Nat} {v : Int32} {f : Nat} {x : Int32} {s : Trc} : le p K v (f + 1 + 1) 2 x s = le0 p K v x s := by
  rw [le, if_neg (by decide), if_neg (by decide), if_neg (by decide), if_neg (by decide), show abv 2 = 0 from rfl, le_f0]
theorem le_f3 {p K : Nat} {v : Int32} {f : Nat} {x : Int32} {s : Trc} : le p K v (f + 1 + 1) 3 x s = le0 p K v x s := by
  rw [le, if_neg (by decide), if_neg (by decide), if_neg (by decide), if_neg (by decide), show abv 3 = 0 from rfl, le_f0]
theorem le_f5 {p K : Nat} {v : Int32} {f : Nat} {x : Int32} {s : Trc} : le p K v (f + 1 + 1 + 1) 5 x s = le0 p K v x s := by
  rw [le, if_neg (by decide), if_neg (by decide), if_neg (by decide), if_neg (by decide), show abv 5 = 2 from rfl, le_f2]
theorem le_f1 {p K : Nat} {v : Int32} {f : Nat} {x : Int32} {s : Trc} : le p K v (f + 1 + 1) 1 x s = ((le p K v 7 0 x (rnT s 20)).1 ^^^ nI 6, (le p K v 7 0 x (rnT s 20)).2) := by
  rw [le, if_pos rfl, le_f0, le_f0 (f := 6)]
theorem g_1_0 {p K : Nat} {v : Int32} {x : Int32} {s : Trc} : le p K v 7 0 x s = le0 p K v x s := le_f0 (f := 6)
theorem g_1_2 {p K : Nat} {v : Int32} {x : Int32} {s : Trc} : le p K v 7 2 x s = le0 p K v x s := le_f2 (f := 5)
theorem g_1_3 {p K : Nat} {v : Int32} {x : Int32} {s : Trc} : le p K v 7 3 x s = le0 p K v x s := le_f3 (f := 5)
theorem g_1_5 {p K : Nat} {v : Int32} {x : Int32} {s : Trc} : le p K v 7 5 x s = le0 p K v x s := le_f5 (f := 4)
theorem g_1_1 {p K : Nat} {v : Int32} {x : Int32} {s : Trc} : le p K v 7 1 x s = ((le p K v 7 0 x (rnT s 20)).1 ^^^ nI 6, (le p K v 7 0 x (rnT s 20)).2) := le_f1 (f := 5)
theorem le_f4 {p K : Nat} {v : Int32} {f : Nat} {x : Int32} {s : Trc} : le p K v (f + 1 + 1 + 1) 4 x s = le p K v 7 1 (x + nI 1) (rnT s 51) := by
  rw [le, if_neg (by decide), if_pos rfl, le_f1, g_1_1]
theorem g_1_4 {p K : Nat} {v : Int32} {x : Int32} {s : Trc} : le p K v 7 4 x s = le p K v 7 1 (x + nI 1) (rnT s 51) := le_f4 (f := 4)
theorem le_f6 {p K : Nat} {v : Int32} {f : Nat} {x : Int32} {s : Trc} : le p K v (f + 1 + 1 + 1) 6 x s = ((le p K v 7 3 x (rnT s 70)).1 + (gr p v 7 3 (nI 2) (le p K v 7 3 x (rnT s 70)).2).1, (gr p v 7 3 (nI 2) (le p K v 7 3 x (rnT s 70)).2).2) := by
  rw [le, if_neg (by decide), if_neg (by decide), if_pos rfl, le_f3, g_1_3]
theorem g_1_6 {p K : Nat} {v : Int32} {x : Int32} {s : Trc} : le p K v 7 6 x s = ((le p K v 7 3 x (rnT s 70)).1 + (gr p v 7 3 (nI 2) (le p K v 7 3 x (rnT s 70)).2).1, (gr p v 7 3 (nI 2) (le p K v 7 3 x (rnT s 70)).2).2) := le_f6 (f := 4)
def te0 (p K : Nat) (v x : Int32) (s : Trc) : Int32 × Trc := ((le p K v 7 K x (rnT s 12)).1 * nI 2, (le p K v 7 K x (rnT s 12)).2)
theorem te_f0 {p K : Nat} {v : Int32} {f : Nat} {x : Int32} {s : Trc} : te p K v (f + 1) 0 x s = te0 p K v x s := by
  rw [te, if_neg (by decide), if_neg (by decide), if_pos rfl]; rfl
theorem te_f1 {p K : Nat} {v : Int32} {f : Nat} {x : Int32} {s : Trc} : te p K v (f + 1 + 1) 1 x s = te0 p K v x s := by
  rw [te, if_neg (by decide), if_neg (by decide), if_neg (by decide), show abv 1 = 0 from rfl, te_f0]
theorem te_f2 {p K : Nat} {v : Int32} {f : Nat} {x : Int32} {s : Trc} : te p K v (f + 1 + 1) 2 x s = te0 p K v x s := by
  rw [te, if_neg (by decide), if_neg (by decide), if_neg (by decide), show abv 2 = 0 from rfl, te_f0]
theorem te_f4 {p K : Nat} {v : Int32} {f : Nat} {x : Int32} {s : Trc} : te p K v (f + 1 + 1 + 1) 4 x s = te0 p K v x s := by
  rw [te, if_neg (by decide), if_neg (by decide), if_neg (by decide), show abv 4 = 1 from rfl, te_f1]
theorem te_f3 {p K : Nat} {v : Int32} {f : Nat} {x : Int32} {s : Trc} : te p K v (f + 1 + 1) 3 x s = ((te p K v 7 0 x (rnT s 40)).1 + (le p K v 7 K (nI 1) (te p K v 7 0 x (rnT s 40)).2).1, (le p K v 7 K (nI 1) (te p K v 7 0 x (rnT s 40)).2).2) := by
  rw [te, if_pos rfl, te_f0, te_f0 (f := 6)]
theorem te_f6 {p K : Nat} {v : Int32} {f : Nat} {x : Int32} {s : Trc} : te p K v (f + 1 + 1 + 1) 6 x s = ((te p K v 7 0 x (rnT s 40)).1 + (le p K v 7 K (nI 1) (te p K v 7 0 x (rnT s 40)).2).1, (le p K v 7 K (nI 1) (te p K v 7 0 x (rnT s 40)).2).2) := by
  rw [te, if_neg (by decide), if_neg (by decide), if_neg (by decide), show abv 6 = 3 from rfl, te_f3]
theorem g_2_0 {p K : Nat} {v : Int32} {x : Int32} {s : Trc} : te p K v 7 0 x s = te0 p K v x s := te_f0 (f := 6)
theorem g_2_1 {p K : Nat} {v : Int32} {x : Int32} {s : Trc} : te p K v 7 1 x s = te0 p K v x s := te_f1 (f := 5)
theorem g_2_2 {p K : Nat} {v : Int32} {x : Int32} {s : Trc} : te p K v 7 2 x s = te0 p K v x s := te_f2 (f := 5)
theorem g_2_4 {p K : Nat} {v : Int32} {x : Int32} {s : Trc} : te p K v 7 4 x s = te0 p K v x s := te_f4 (f := 4)
theorem g_2_3 {p K : Nat} {v : Int32} {x : Int32} {s : Trc} : te p K v 7 3 x s = ((te p K v 7 0 x (rnT s 40)).1 + (le p K v 7 K (nI 1) (te p K v 7 0 x (rnT s 40)).2).1, (le p K v 7 K (nI 1) (te p K v 7 0 x (rnT s 40)).2).2) := te_f3 (f := 5)
theorem g_2_6 {p K : Nat} {v : Int32} {x : Int32} {s : Trc} : te p K v 7 6 x s = ((te p K v 7 0 x (rnT s 40)).1 + (le p K v 7 K (nI 1) (te p K v 7 0 x (rnT s 40)).2).1, (le p K v 7 K (nI 1) (te p K v 7 0 x (rnT s 40)).2).2) := te_f6 (f := 4)
theorem te_f5 {p K : Nat} {v : Int32} {f : Nat} {x : Int32} {s : Trc} : te p K v (f + 1 + 1 + 1) 5 x s = te p K v 7 2 (x - nI p) (rnT s 60) := by
  rw [te, if_neg (by decide), if_pos rfl, te_f2, g_2_2]
theorem g_2_5 {p K : Nat} {v : Int32} {x : Int32} {s : Trc} : te p K v 7 5 x s = te p K v 7 2 (x - nI p) (rnT s 60) := te_f5 (f := 4)
theorem cnt_lt {x n m b : Nat} {s : Trc} (h : x ≤ (rnT s b).1 + n) (h2 : s.1 + 1 + n < m) : x < m := by rw [rn1] at h; omega
def AV (X : Xn) (a : Nat → Nat) (t : Nat) (bo : Nat → Int32) (p K : Nat) (v : Int32) : va_W := [(a 0, .inr (7, [.ref (a 1), .int (nI t), .int (nI p), .int (nI K), .int v])), (a 1, .inl (X.2.2.1 0, 20, .inl bo))]
theorem AV_f {X : Xn} {a : Nat → Nat} {t t2 p K : Nat} {bo bo2 : Nat → Int32} {v : Int32} : (AV X a t bo p K v).map Prod.fst = (AV X a t2 bo2 p K v).map Prod.fst := rfl
def M_Act_run : XM := (⟨"HandshakeBinds$Actor", "run", "(IIII)I"⟩, prog_2_method_3_code, 9, (some .int))
theorem d_Act_run_0 : decode M_Act_run.2.1 0 = .ok (.iload_n 1, 1) := by decide +kernel
theorem d_Act_run_1 : decode M_Act_run.2.1 1 = .ok (.iload_n 2, 1) := by decide +kernel
theorem d_Act_run_2 : decode M_Act_run.2.1 2 = .ok (.invokestatic 25, 3) := by decide +kernel
theorem ln_Act_25 : Cond.methodLink "HandshakeBinds$Actor" 25 M_Act_ownerOf.1 ∈ TB := inTB 785 (by decide +kernel) rfl
theorem lk_Act_ownerOf : LSt M_Act_ownerOf 2 := ⟨⟨inTB 70 (by decide +kernel) rfl, inTB 787 (by decide +kernel) rfl, ⟨by decide, by decide, by decide +kernel⟩, by decide⟩, inTB 786 (by decide +kernel) rfl⟩
theorem d_Act_run_5 : decode M_Act_run.2.1 5 = .ok (.istore 5, 2) := by decide +kernel
theorem d_Act_run_7 : decode M_Act_run.2.1 7 = .ok (.iload 5, 2) := by decide +kernel
theorem d_Act_run_9 : decode M_Act_run.2.1 9 = .ok (.ifCond .lt 10, 3) := by decide +kernel
theorem d_Act_run_12 : decode M_Act_run.2.1 12 = .ok (.iload 4, 2) := by decide +kernel
theorem d_Act_run_14 : decode M_Act_run.2.1 14 = .ok (.bipush 40, 2) := by decide +kernel
theorem d_Act_run_16 : decode M_Act_run.2.1 16 = .ok (.if_icmp .lt 5, 3) := by decide +kernel
theorem d_Act_run_21 : decode M_Act_run.2.1 21 = .ok (.getstatic 29, 3) := by decide +kernel
theorem d_Act_run_24 : decode M_Act_run.2.1 24 = .ok (.iload 5, 2) := by decide +kernel
theorem d_Act_run_26 : decode M_Act_run.2.1 26 = .ok (.iconst 3, 1) := by decide +kernel
theorem d_Act_run_27 : decode M_Act_run.2.1 27 = .ok (.imul, 1) := by decide +kernel
theorem d_Act_run_28 : decode M_Act_run.2.1 28 = .ok (.iload_n 2, 1) := by decide +kernel
theorem d_Act_run_29 : decode M_Act_run.2.1 29 = .ok (.iadd, 1) := by decide +kernel
theorem d_Act_run_30 : decode M_Act_run.2.1 30 = .ok (.invokestatic 32, 3) := by decide +kernel
theorem d_Act_run_33 : decode M_Act_run.2.1 33 = .ok (.istore 6, 2) := by decide +kernel
theorem d_Act_run_35 : decode M_Act_run.2.1 35 = .ok (.aload_n 0, 1) := by decide +kernel
theorem d_Act_run_36 : decode M_Act_run.2.1 36 = .ok (.getfield 9, 3) := by decide +kernel
theorem gf_Act_9 : GF "HandshakeBinds$Actor" 9 7 0 := ⟨_, _, _, rfl, by decide, i_Act, inTB 277 (by decide +kernel) rfl⟩
theorem d_Act_run_39 : decode M_Act_run.2.1 39 = .ok (.aload_n 0, 1) := by decide +kernel
theorem d_Act_run_40 : decode M_Act_run.2.1 40 = .ok (.getfield 36, 3) := by decide +kernel
theorem gf_Act_36 : GF "HandshakeBinds$Actor" 36 7 1 := ⟨_, _, _, rfl, by decide, i_Act, inTB 279 (by decide +kernel) rfl⟩
theorem d_Act_run_43 : decode M_Act_run.2.1 43 = .ok (.iload 6, 2) := by decide +kernel
theorem d_Act_run_45 : decode M_Act_run.2.1 45 = .ok (.invokestatic 39, 3) := by decide +kernel
theorem ln_Act_39 : Cond.methodLinkNest "HandshakeBinds$Actor" 39 M_HB_put.1 "HandshakeBinds" ∈ NW := inNW 793 (by decide +kernel) rfl
theorem d_Act_run_48 : decode M_Act_run.2.1 48 = .ok (.aload_n 0, 1) := by decide +kernel
theorem d_Act_run_49 : decode M_Act_run.2.1 49 = .ok (.dup, 1) := by decide +kernel
theorem d_Act_run_50 : decode M_Act_run.2.1 50 = .ok (.getfield 36, 3) := by decide +kernel
theorem d_Act_run_53 : decode M_Act_run.2.1 53 = .ok (.iconst 1, 1) := by decide +kernel
theorem d_Act_run_54 : decode M_Act_run.2.1 54 = .ok (.iadd, 1) := by decide +kernel
theorem d_Act_run_55 : decode M_Act_run.2.1 55 = .ok (.putfield 36, 3) := by decide +kernel
theorem pf_Act_36 : PF "HandshakeBinds$Actor" 36 7 1 (.int) false := ⟨_, _, _, t_Act, rfl, by decide, i_Act, t_Act_ok, n_Act, inTB 279 (by decide +kernel) rfl, rfl, t_Act_ok 1 (by decide), fun _ => rfl⟩
theorem d_Act_run_58 : decode M_Act_run.2.1 58 = .ok (.getstatic 43, 3) := by decide +kernel
theorem d_Act_run_61 : decode M_Act_run.2.1 61 = .ok (.iload 5, 2) := by decide +kernel
theorem d_Act_run_63 : decode M_Act_run.2.1 63 = .ok (.invokestatic 32, 3) := by decide +kernel
theorem d_Act_run_66 : decode M_Act_run.2.1 66 = .ok (.istore 7, 2) := by decide +kernel
theorem d_Act_run_68 : decode M_Act_run.2.1 68 = .ok (.iload 4, 2) := by decide +kernel
theorem d_Act_run_70 : decode M_Act_run.2.1 70 = .ok (.iconst 1, 1) := by decide +kernel
theorem d_Act_run_71 : decode M_Act_run.2.1 71 = .ok (.iadd, 1) := by decide +kernel
theorem d_Act_run_72 : decode M_Act_run.2.1 72 = .ok (.istore 8, 2) := by decide +kernel
theorem d_Act_run_74 : decode M_Act_run.2.1 74 = .ok (.iload 6, 2) := by decide +kernel
theorem d_Act_run_76 : decode M_Act_run.2.1 76 = .ok (.lookupswitch 270 #[(10, 100), (11, 107), (12, 125), (20, 140), (30, 154), (40, 167), (50, 191), (51, 203), (60, 216), (70, 232), (71, 254)], 100) := by decide +kernel
theorem d_Act_run_176 : decode M_Act_run.2.1 176 = .ok (.iload_n 3, 1) := by decide +kernel
theorem d_Act_run_177 : decode M_Act_run.2.1 177 = .ok (.aload_n 0, 1) := by decide +kernel
theorem d_Act_run_178 : decode M_Act_run.2.1 178 = .ok (.getfield 15, 3) := by decide +kernel
theorem gf_Act_15 : GF "HandshakeBinds$Actor" 15 7 2 := ⟨_, _, _, rfl, by decide, i_Act, inTB 281 (by decide +kernel) rfl⟩
theorem d_Act_run_181 : decode M_Act_run.2.1 181 = .ok (.iadd, 1) := by decide +kernel
theorem d_Act_run_182 : decode M_Act_run.2.1 182 = .ok (.ireturn, 1) := by decide +kernel
theorem d_Act_run_230 : decode M_Act_run.2.1 230 = .ok (.aload_n 0, 1) := by decide +kernel
theorem d_Act_run_231 : decode M_Act_run.2.1 231 = .ok (.iload 7, 2) := by decide +kernel
theorem d_Act_run_233 : decode M_Act_run.2.1 233 = .ok (.iconst 0, 1) := by decide +kernel
theorem d_Act_run_234 : decode M_Act_run.2.1 234 = .ok (.iload_n 3, 1) := by decide +kernel
theorem d_Act_run_235 : decode M_Act_run.2.1 235 = .ok (.iconst 3, 1) := by decide +kernel
theorem d_Act_run_236 : decode M_Act_run.2.1 236 = .ok (.imul, 1) := by decide +kernel
theorem d_Act_run_237 : decode M_Act_run.2.1 237 = .ok (.iload 8, 2) := by decide +kernel
theorem d_Act_run_239 : decode M_Act_run.2.1 239 = .ok (.invokevirtual 46, 3) := by decide +kernel
theorem ln_Act_46 : Cond.methodLink "HandshakeBinds$Actor" 46 M_Act_run.1 ∈ TB := inTB 794 (by decide +kernel) rfl
theorem lk_Act_run : LVt M_Act_run 4 := ⟨⟨inTB 70 (by decide +kernel) rfl, inTB 784 (by decide +kernel) rfl, ⟨by decide, by decide, by decide +kernel⟩, by decide⟩, inTB 783 (by decide +kernel) rfl, inTB 18 (by decide +kernel) rfl⟩
theorem d_Act_run_242 : decode M_Act_run.2.1 242 = .ok (.ireturn, 1) := by decide +kernel
theorem d_Act_run_267 : decode M_Act_run.2.1 267 = .ok (.aload_n 0, 1) := by decide +kernel
theorem d_Act_run_268 : decode M_Act_run.2.1 268 = .ok (.iload 7, 2) := by decide +kernel
theorem d_Act_run_270 : decode M_Act_run.2.1 270 = .ok (.iconst 0, 1) := by decide +kernel
theorem d_Act_run_271 : decode M_Act_run.2.1 271 = .ok (.iload_n 3, 1) := by decide +kernel
theorem d_Act_run_272 : decode M_Act_run.2.1 272 = .ok (.iload 8, 2) := by decide +kernel
theorem d_Act_run_274 : decode M_Act_run.2.1 274 = .ok (.invokevirtual 46, 3) := by decide +kernel
theorem d_Act_run_277 : decode M_Act_run.2.1 277 = .ok (.ineg, 1) := by decide +kernel
theorem d_Act_run_278 : decode M_Act_run.2.1 278 = .ok (.ireturn, 1) := by decide +kernel
theorem d_Act_run_330 : decode M_Act_run.2.1 330 = .ok (.aload_n 0, 1) := by decide +kernel
theorem d_Act_run_331 : decode M_Act_run.2.1 331 = .ok (.iload 7, 2) := by decide +kernel
theorem d_Act_run_333 : decode M_Act_run.2.1 333 = .ok (.iconst 0, 1) := by decide +kernel
theorem d_Act_run_334 : decode M_Act_run.2.1 334 = .ok (.iload_n 3, 1) := by decide +kernel
theorem d_Act_run_335 : decode M_Act_run.2.1 335 = .ok (.iload 8, 2) := by decide +kernel
theorem d_Act_run_337 : decode M_Act_run.2.1 337 = .ok (.invokevirtual 46, 3) := by decide +kernel
theorem d_Act_run_340 : decode M_Act_run.2.1 340 = .ok (.aload_n 0, 1) := by decide +kernel
theorem d_Act_run_341 : decode M_Act_run.2.1 341 = .ok (.getfield 22, 3) := by decide +kernel
theorem gf_Act_22 : GF "HandshakeBinds$Actor" 22 7 4 := ⟨_, _, _, rfl, by decide, i_Act, inTB 284 (by decide +kernel) rfl⟩
theorem d_Act_run_344 : decode M_Act_run.2.1 344 = .ok (.ixor, 1) := by decide +kernel
theorem d_Act_run_345 : decode M_Act_run.2.1 345 = .ok (.ireturn, 1) := by decide +kernel
theorem d_Act_run_183 : decode M_Act_run.2.1 183 = .ok (.aload_n 0, 1) := by decide +kernel
theorem d_Act_run_184 : decode M_Act_run.2.1 184 = .ok (.aload_n 0, 1) := by decide +kernel
theorem d_Act_run_185 : decode M_Act_run.2.1 185 = .ok (.getfield 19, 3) := by decide +kernel
theorem gf_Act_19 : GF "HandshakeBinds$Actor" 19 7 3 := ⟨_, _, _, rfl, by decide, i_Act, inTB 282 (by decide +kernel) rfl⟩
theorem d_Act_run_188 : decode M_Act_run.2.1 188 = .ok (.iconst 0, 1) := by decide +kernel
theorem d_Act_run_189 : decode M_Act_run.2.1 189 = .ok (.iload_n 3, 1) := by decide +kernel
theorem d_Act_run_190 : decode M_Act_run.2.1 190 = .ok (.iload 8, 2) := by decide +kernel
theorem d_Act_run_192 : decode M_Act_run.2.1 192 = .ok (.invokevirtual 46, 3) := by decide +kernel
theorem d_Act_run_195 : decode M_Act_run.2.1 195 = .ok (.aload_n 0, 1) := by decide +kernel
theorem d_Act_run_196 : decode M_Act_run.2.1 196 = .ok (.getfield 22, 3) := by decide +kernel
theorem d_Act_run_199 : decode M_Act_run.2.1 199 = .ok (.isub, 1) := by decide +kernel
theorem d_Act_run_200 : decode M_Act_run.2.1 200 = .ok (.ireturn, 1) := by decide +kernel
theorem d_Act_run_216 : decode M_Act_run.2.1 216 = .ok (.aload_n 0, 1) := by decide +kernel
theorem d_Act_run_217 : decode M_Act_run.2.1 217 = .ok (.iload 7, 2) := by decide +kernel
theorem d_Act_run_219 : decode M_Act_run.2.1 219 = .ok (.iconst 1, 1) := by decide +kernel
theorem d_Act_run_220 : decode M_Act_run.2.1 220 = .ok (.iload_n 3, 1) := by decide +kernel
theorem d_Act_run_221 : decode M_Act_run.2.1 221 = .ok (.iload 8, 2) := by decide +kernel
theorem d_Act_run_223 : decode M_Act_run.2.1 223 = .ok (.invokevirtual 46, 3) := by decide +kernel
theorem d_Act_run_226 : decode M_Act_run.2.1 226 = .ok (.bipush 6, 2) := by decide +kernel
theorem d_Act_run_228 : decode M_Act_run.2.1 228 = .ok (.ixor, 1) := by decide +kernel
theorem d_Act_run_229 : decode M_Act_run.2.1 229 = .ok (.ireturn, 1) := by decide +kernel
theorem d_Act_run_279 : decode M_Act_run.2.1 279 = .ok (.aload_n 0, 1) := by decide +kernel
theorem d_Act_run_280 : decode M_Act_run.2.1 280 = .ok (.iload 7, 2) := by decide +kernel
theorem d_Act_run_282 : decode M_Act_run.2.1 282 = .ok (.iconst 1, 1) := by decide +kernel
theorem d_Act_run_283 : decode M_Act_run.2.1 283 = .ok (.iload_n 3, 1) := by decide +kernel
theorem d_Act_run_284 : decode M_Act_run.2.1 284 = .ok (.iconst 1, 1) := by decide +kernel
theorem d_Act_run_285 : decode M_Act_run.2.1 285 = .ok (.iadd, 1) := by decide +kernel
theorem d_Act_run_286 : decode M_Act_run.2.1 286 = .ok (.iload 8, 2) := by decide +kernel
theorem d_Act_run_288 : decode M_Act_run.2.1 288 = .ok (.invokevirtual 46, 3) := by decide +kernel
theorem d_Act_run_291 : decode M_Act_run.2.1 291 = .ok (.ireturn, 1) := by decide +kernel
theorem d_Act_run_308 : decode M_Act_run.2.1 308 = .ok (.aload_n 0, 1) := by decide +kernel
theorem d_Act_run_309 : decode M_Act_run.2.1 309 = .ok (.iload 7, 2) := by decide +kernel
theorem d_Act_run_311 : decode M_Act_run.2.1 311 = .ok (.iconst 1, 1) := by decide +kernel
theorem d_Act_run_312 : decode M_Act_run.2.1 312 = .ok (.iload_n 3, 1) := by decide +kernel
theorem d_Act_run_313 : decode M_Act_run.2.1 313 = .ok (.iload 8, 2) := by decide +kernel
theorem d_Act_run_315 : decode M_Act_run.2.1 315 = .ok (.invokevirtual 46, 3) := by decide +kernel
theorem d_Act_run_318 : decode M_Act_run.2.1 318 = .ok (.aload_n 0, 1) := by decide +kernel
theorem d_Act_run_319 : decode M_Act_run.2.1 319 = .ok (.iload 7, 2) := by decide +kernel
theorem d_Act_run_321 : decode M_Act_run.2.1 321 = .ok (.iconst 0, 1) := by decide +kernel
theorem d_Act_run_322 : decode M_Act_run.2.1 322 = .ok (.iconst 2, 1) := by decide +kernel
theorem d_Act_run_323 : decode M_Act_run.2.1 323 = .ok (.iload 8, 2) := by decide +kernel
theorem d_Act_run_325 : decode M_Act_run.2.1 325 = .ok (.invokevirtual 46, 3) := by decide +kernel
theorem d_Act_run_328 : decode M_Act_run.2.1 328 = .ok (.iadd, 1) := by decide +kernel
theorem d_Act_run_329 : decode M_Act_run.2.1 329 = .ok (.ireturn, 1) := by decide +kernel
theorem d_Act_run_201 : decode M_Act_run.2.1 201 = .ok (.aload_n 0, 1) := by decide +kernel
theorem d_Act_run_202 : decode M_Act_run.2.1 202 = .ok (.aload_n 0, 1) := by decide +kernel
theorem d_Act_run_203 : decode M_Act_run.2.1 203 = .ok (.getfield 19, 3) := by decide +kernel
theorem d_Act_run_206 : decode M_Act_run.2.1 206 = .ok (.iconst 1, 1) := by decide +kernel
theorem d_Act_run_207 : decode M_Act_run.2.1 207 = .ok (.iload_n 3, 1) := by decide +kernel
theorem d_Act_run_208 : decode M_Act_run.2.1 208 = .ok (.iload 8, 2) := by decide +kernel
theorem d_Act_run_210 : decode M_Act_run.2.1 210 = .ok (.invokevirtual 46, 3) := by decide +kernel
theorem d_Act_run_213 : decode M_Act_run.2.1 213 = .ok (.iconst 2, 1) := by decide +kernel
theorem d_Act_run_214 : decode M_Act_run.2.1 214 = .ok (.imul, 1) := by decide +kernel
theorem d_Act_run_215 : decode M_Act_run.2.1 215 = .ok (.ireturn, 1) := by decide +kernel
theorem d_Act_run_243 : decode M_Act_run.2.1 243 = .ok (.aload_n 0, 1) := by decide +kernel
theorem d_Act_run_244 : decode M_Act_run.2.1 244 = .ok (.iload 7, 2) := by decide +kernel
theorem d_Act_run_246 : decode M_Act_run.2.1 246 = .ok (.iconst 2, 1) := by decide +kernel
theorem d_Act_run_247 : decode M_Act_run.2.1 247 = .ok (.iload_n 3, 1) := by decide +kernel
theorem d_Act_run_248 : decode M_Act_run.2.1 248 = .ok (.iload 8, 2) := by decide +kernel
theorem d_Act_run_250 : decode M_Act_run.2.1 250 = .ok (.invokevirtual 46, 3) := by decide +kernel
theorem d_Act_run_253 : decode M_Act_run.2.1 253 = .ok (.aload_n 0, 1) := by decide +kernel
theorem d_Act_run_254 : decode M_Act_run.2.1 254 = .ok (.aload_n 0, 1) := by decide +kernel
theorem d_Act_run_255 : decode M_Act_run.2.1 255 = .ok (.getfield 19, 3) := by decide +kernel
theorem d_Act_run_258 : decode M_Act_run.2.1 258 = .ok (.iconst 1, 1) := by decide +kernel
theorem d_Act_run_259 : decode M_Act_run.2.1 259 = .ok (.iconst 1, 1) := by decide +kernel
theorem d_Act_run_260 : decode M_Act_run.2.1 260 = .ok (.iload 8, 2) := by decide +kernel
theorem d_Act_run_262 : decode M_Act_run.2.1 262 = .ok (.invokevirtual 46, 3) := by decide +kernel
theorem d_Act_run_265 : decode M_Act_run.2.1 265 = .ok (.iadd, 1) := by decide +kernel
theorem d_Act_run_266 : decode M_Act_run.2.1 266 = .ok (.ireturn, 1) := by decide +kernel
theorem d_Act_run_292 : decode M_Act_run.2.1 292 = .ok (.aload_n 0, 1) := by decide +kernel
theorem d_Act_run_293 : decode M_Act_run.2.1 293 = .ok (.iload 7, 2) := by decide +kernel
theorem d_Act_run_295 : decode M_Act_run.2.1 295 = .ok (.iconst 2, 1) := by decide +kernel
theorem d_Act_run_296 : decode M_Act_run.2.1 296 = .ok (.iload_n 3, 1) := by decide +kernel
theorem d_Act_run_297 : decode M_Act_run.2.1 297 = .ok (.aload_n 0, 1) := by decide +kernel
theorem d_Act_run_298 : decode M_Act_run.2.1 298 = .ok (.getfield 15, 3) := by decide +kernel
theorem d_Act_run_301 : decode M_Act_run.2.1 301 = .ok (.isub, 1) := by decide +kernel
theorem d_Act_run_302 : decode M_Act_run.2.1 302 = .ok (.iload 8, 2) := by decide +kernel
theorem d_Act_run_304 : decode M_Act_run.2.1 304 = .ok (.invokevirtual 46, 3) := by decide +kernel
theorem d_Act_run_307 : decode M_Act_run.2.1 307 = .ok (.ireturn, 1) := by decide +kernel
def M_HB_act : XM := (⟨"HandshakeBinds", "act", "(III)I"⟩, prog_1_method_27_code, 4, (some .int))
theorem d_HB_act_0 : decode M_HB_act.2.1 0 = .ok (.aload_n 0, 1) := by decide +kernel
theorem d_HB_act_1 : decode M_HB_act.2.1 1 = .ok (.getfield 38, 3) := by decide +kernel
theorem d_HB_act_4 : decode M_HB_act.2.1 4 = .ok (.iconst 0, 1) := by decide +kernel
theorem d_HB_act_5 : decode M_HB_act.2.1 5 = .ok (.putfield 239, 3) := by decide +kernel
theorem pf_HB_239 : PFn "HandshakeBinds" 239 7 1 (.int) := ⟨_, _, _, t_Act, rfl, by decide, i_Act, t_Act_ok, n_Act, inNW 280 (by decide +kernel) rfl, rfl, t_Act_ok 1 (by decide)⟩
theorem d_HB_act_8 : decode M_HB_act.2.1 8 = .ok (.aload_n 0, 1) := by decide +kernel
theorem d_HB_act_9 : decode M_HB_act.2.1 9 = .ok (.iload_n 1, 1) := by decide +kernel
theorem d_HB_act_10 : decode M_HB_act.2.1 10 = .ok (.invokevirtual 60, 3) := by decide +kernel
theorem d_HB_act_13 : decode M_HB_act.2.1 13 = .ok (.ifCond .eq 12, 3) := by decide +kernel
theorem d_HB_act_25 : decode M_HB_act.2.1 25 = .ok (.iconst 0, 1) := by decide +kernel
theorem d_HB_act_26 : decode M_HB_act.2.1 26 = .ok (.ireturn, 1) := by decide +kernel
theorem d_HB_act_16 : decode M_HB_act.2.1 16 = .ok (.iload_n 2, 1) := by decide +kernel
theorem d_HB_act_17 : decode M_HB_act.2.1 17 = .ok (.ifCond .lt 8, 3) := by decide +kernel
theorem d_HB_act_20 : decode M_HB_act.2.1 20 = .ok (.iload_n 2, 1) := by decide +kernel
theorem d_HB_act_21 : decode M_HB_act.2.1 21 = .ok (.iconst 3, 1) := by decide +kernel
theorem d_HB_act_22 : decode M_HB_act.2.1 22 = .ok (.if_icmp .lt 5, 3) := by decide +kernel
theorem d_HB_act_27 : decode M_HB_act.2.1 27 = .ok (.aload_n 0, 1) := by decide +kernel
theorem d_HB_act_28 : decode M_HB_act.2.1 28 = .ok (.getfield 38, 3) := by decide +kernel
theorem d_HB_act_31 : decode M_HB_act.2.1 31 = .ok (.iload_n 1, 1) := by decide +kernel
theorem d_HB_act_32 : decode M_HB_act.2.1 32 = .ok (.aload_n 0, 1) := by decide +kernel
theorem d_HB_act_33 : decode M_HB_act.2.1 33 = .ok (.getfield 12, 3) := by decide +kernel
theorem d_HB_act_36 : decode M_HB_act.2.1 36 = .ok (.getfield 65, 3) := by decide +kernel
theorem d_HB_act_39 : decode M_HB_act.2.1 39 = .ok (.iload_n 1, 1) := by decide +kernel
theorem d_HB_act_40 : decode M_HB_act.2.1 40 = .ok (.invokestatic 69, 3) := by decide +kernel
theorem d_HB_act_43 : decode M_HB_act.2.1 43 = .ok (.aload_n 0, 1) := by decide +kernel
theorem d_HB_act_44 : decode M_HB_act.2.1 44 = .ok (.getfield 12, 3) := by decide +kernel
theorem d_HB_act_47 : decode M_HB_act.2.1 47 = .ok (.getfield 73, 3) := by decide +kernel
theorem d_HB_act_50 : decode M_HB_act.2.1 50 = .ok (.iload_n 1, 1) := by decide +kernel
theorem d_HB_act_51 : decode M_HB_act.2.1 51 = .ok (.invokestatic 69, 3) := by decide +kernel
theorem d_HB_act_54 : decode M_HB_act.2.1 54 = .ok (.invokevirtual 242, 3) := by decide +kernel
theorem ln_HB_242 : Cond.methodLink "HandshakeBinds" 242 M_Act_play.1 ∈ TB := inTB 777 (by decide +kernel) rfl
theorem lk_Act_play : LVt M_Act_play 3 := ⟨⟨inTB 70 (by decide +kernel) rfl, inTB 780 (by decide +kernel) rfl, ⟨by decide, by decide, by decide +kernel⟩, by decide⟩, inTB 778 (by decide +kernel) rfl, inTB 779 (by decide +kernel) rfl⟩
theorem d_HB_act_57 : decode M_HB_act.2.1 57 = .ok (.aload_n 0, 1) := by decide +kernel
theorem d_HB_act_58 : decode M_HB_act.2.1 58 = .ok (.getfield 38, 3) := by decide +kernel
theorem d_HB_act_61 : decode M_HB_act.2.1 61 = .ok (.aload_n 0, 1) := by decide +kernel
theorem d_HB_act_62 : decode M_HB_act.2.1 62 = .ok (.getfield 38, 3) := by decide +kernel
theorem d_HB_act_65 : decode M_HB_act.2.1 65 = .ok (.getfield 245, 3) := by decide +kernel
theorem gf_HB_245 : GFn "HandshakeBinds" 245 7 3 := ⟨_, _, _, rfl, by decide, i_Act, inNW 283 (by decide +kernel) rfl⟩
theorem d_HB_act_68 : decode M_HB_act.2.1 68 = .ok (.iload_n 2, 1) := by decide +kernel
theorem d_HB_act_69 : decode M_HB_act.2.1 69 = .ok (.iload_n 3, 1) := by decide +kernel
theorem d_HB_act_70 : decode M_HB_act.2.1 70 = .ok (.iconst 0, 1) := by decide +kernel
theorem d_HB_act_71 : decode M_HB_act.2.1 71 = .ok (.invokevirtual 248, 3) := by decide +kernel
theorem ln_HB_248 : Cond.methodLinkNest "HandshakeBinds" 248 M_Act_run.1 "HandshakeBinds" ∈ NW := inNW 781 (by decide +kernel) rfl
theorem d_HB_act_74 : decode M_HB_act.2.1 74 = .ok (.ireturn, 1) := by decide +kernel
theorem c_Act_ownerOf (X : Xn)  (k : Nat) (m : Nat) (hk : k ≤ 6) (hm : m ≤ 2) : Does X 2 M_Act_ownerOf [.int (nI k), .int (nI m)] ([]) 0 0 (fun (vv : Option Value) (ww : va_W) => vv = some (.int (nI (own k m))) ∧ ww = []) := by
  generalize hQ : (fun (vv : Option Value) (ww : va_W) => vv = some (.int (nI (own k m))) ∧ ww = []) = Q
  refine Does.go rfl (Nat.le_of_ble_eq_true rfl) [some (.int (nI k)), some (.int (nI m)), none, none] 2 rfl ?_
  refine r_iload_n rfl 1 rfl d_Act_ownerOf_0 ?_
  refine r_istore_n (ls2 := [some (.int (nI k)), some (.int (nI m)), some (.int (nI k)), none]) 2 rfl d_Act_ownerOf_1 (by decide) rfl rfl ?_
  refine r_iconst (nI 0) rfl 3 rfl d_Act_ownerOf_2 ?_
  refine r_istore_n (ls2 := [some (.int (nI k)), some (.int (nI m)), some (.int (nI k)), some (.int (nI 0))]) 4 rfl d_Act_ownerOf_3 (by decide) rfl rfl ?_
  have L4_1 : ∀ (f : Nat) (u : Nat) (i : Nat), (u + i ≤ 6) → (own u m = own k m) → 7 - i < f → Runs X 2 M_Act_ownerOf 0 0 Q 4 [some (.int (nI k)), some (.int (nI m)), some (.int (nI u)), some (.int (nI i))] [] 0 0 ([]) := by
    intro f
    induction f with
    | zero => intro u i hu ho hmu; exact absurd hmu (Nat.not_lt_zero _)
    | succ f ih2 =>
      intro u i hu ho hmu
      refine r_iload_n rfl 5 rfl d_Act_ownerOf_4 ?_
      refine r_bipush (nI 7) rfl 7 rfl d_Act_ownerOf_5 ?_
      refine r_icmp_geN_f i 7 (by omega) (by omega) 10 rfl 44 rfl d_Act_ownerOf_7 (by omega) ?_
      refine r_iload_n rfl 11 rfl d_Act_ownerOf_10 ?_
      refine r_if_ltN_f u (by omega) 14 rfl 44 rfl d_Act_ownerOf_11 (by omega) ?_
      refine r_getsN (v := .ref (X.2.2.2 1)) (fun A U H h => h.2.2.1) (inNW 788 (by decide +kernel) rfl) 17 rfl d_Act_ownerOf_14 ?_
      refine r_iload_n rfl 18 rfl d_Act_ownerOf_17 ?_
      refine r_iconst (nI 3) rfl 19 rfl d_Act_ownerOf_18 ?_
      refine r_imul 20 rfl d_Act_ownerOf_19 ?_
      refine r_topi (nI (u * 3)) (pk_mul _ _) ?_
      refine r_iload_n rfl 21 rfl d_Act_ownerOf_20 ?_
      refine r_iadd 22 rfl d_Act_ownerOf_21 ?_
      refine r_topi (nI ((u * 3) + m)) (nI_add _ _) ?_
      refine r_callSn1 (st2 := [.int (bodyV.getD ((u * 3) + m) 0)]) (w2 := []) lk_HB_at ln_Act_32 (c_atB X ((u * 3) + m) (by omega)) (by first | decide | omega) rfl rfl (Nat.le_of_ble_eq_true rfl) (Nat.le_of_ble_eq_true rfl) (Nat.le_of_ble_eq_true rfl) [] rfl rfl rfl rfl rfl 25 rfl d_Act_ownerOf_22 ?_
      refine r_topi (nI (bod u m)) (bod_v ⟨u, by omega⟩ ⟨m, by omega⟩) ?_
      refine r_if_eqN (bod u m) (Nat.lt_trans (bod_lt ⟨u, by omega⟩ ⟨m, by omega⟩) (by decide)) 28 30 rfl rfl d_Act_ownerOf_25 (fun h25 => ?_) (fun h25 => ?_)
      · refine r_getsN (v := .ref (X.2.2.2 0)) (fun A U H h => h.1) (inNW 791 (by decide +kernel) rfl) 33 rfl d_Act_ownerOf_30 ?_
        refine r_iload_n rfl 34 rfl d_Act_ownerOf_33 ?_
        refine r_callSn1 (st2 := [.int (aboveV.getD u 0)]) (w2 := []) lk_HB_at ln_Act_32 (c_atA X u (by omega)) (by first | decide | omega) rfl rfl (Nat.le_of_ble_eq_true rfl) (Nat.le_of_ble_eq_true rfl) (Nat.le_of_ble_eq_true rfl) [] rfl rfl rfl rfl rfl 37 rfl d_Act_ownerOf_34 ?_
        refine r_topi (nI (abv u)) ((ab_v ⟨u, by omega⟩).2 (by have := (own_0 ⟨u, by omega⟩ ⟨m, by omega⟩ h25).1; dsimp only at this ⊢; omega)) ?_
        refine r_istore_n (ls2 := [some (.int (nI k)), some (.int (nI m)), some (.int (nI (abv u))), some (.int (nI i))]) 38 rfl d_Act_ownerOf_37 (by decide) rfl rfl ?_
        refine r_iinc (ls2 := [some (.int (nI k)), some (.int (nI m)), some (.int (nI (abv u))), some (.int (nI (i + 1)))]) (nI (i + 1)) rfl (nI_1 _) 41 rfl d_Act_ownerOf_38 (by decide) rfl rfl ?_
        refine r_goto 4 rfl d_Act_ownerOf_41 ?_
        exact ih2 (abv u) (i + 1) (by have := abv_lt ⟨u, by omega⟩ (own_0 ⟨u, by omega⟩ ⟨m, by omega⟩ h25).1; dsimp only at this; omega) (((own_0 ⟨u, by omega⟩ ⟨m, by omega⟩ h25).2).trans ho) (by omega)
      · refine r_iload_n rfl 29 rfl d_Act_ownerOf_28 ?_
        exact r_iret rfl (Nat.zero_le _) (Nat.zero_le _) d_Act_ownerOf_29 (by rw [← hQ]; exact ⟨by rw [← ho, own_1 ⟨u, by omega⟩ ⟨m, by omega⟩ h25], rfl⟩)
  exact L4_1 _ k 0 (by omega) (rfl) (Nat.lt_succ_self _)
theorem c_putX (X : Xn) (b i : Nat) (x : Int32) (f : Nat → Int32) (hi : i < 2 ^ 31) : Does X 1 M_HB_put [.ref b, .int (nI i), .int x] [(b, .inl (X.2.2.1 0, 20, .inl f))] 0 0 (fun (vv : Option Value) (ww : va_W) => vv = none ∧ ww = [(b, .inl (X.2.2.1 0, 20, .inl (if i < 20 then upd f i x else f)))]) := by
  by_cases h : i < 20
  · rw [if_pos h]; exact c_put X b 20 i x f h (by decide)
  · rw [if_neg h]; exact c_put0 X b 20 i x f (by omega) hi (by decide)
theorem c_Act_play (X : Xn) (a : Nat → Nat) (ν : Nat → Nat → Nat) (σ : Nat → Nat → Int32) (τ : Nat → Nat → Int64)  (p : Int32) (k : Int32) (v : Int32) : Does X 1 M_Act_play [.ref (a 0), .int p, .int k, .int v] (AW X a ν σ τ) 0 0 (fun (vv : Option Value) (ww : va_W) => vv = none ∧ ww = AW X a ν (u2 (u2 (u2 σ 0 (upd (σ 0) 2 p)) 0 (upd (upd (σ 0) 2 p) 3 k)) 0 (upd (upd (upd (σ 0) 2 p) 3 k) 4 v)) τ) := by
  generalize hQ : (fun (vv : Option Value) (ww : va_W) => vv = none ∧ ww = AW X a ν (u2 (u2 (u2 σ 0 (upd (σ 0) 2 p)) 0 (upd (upd (σ 0) 2 p) 3 k)) 0 (upd (upd (upd (σ 0) 2 p) 3 k) 4 v)) τ) = Q
  refine Does.go rfl (Nat.le_of_ble_eq_true rfl) [some (.ref (a 0)), some (.int p), some (.int k), some (.int v)] 0 rfl ?_
  refine r_aload_n rfl 1 rfl d_Act_play_0 ?_
  refine r_iload_n rfl 2 rfl d_Act_play_1 ?_
  refine r_putf (w2 := AW X a ν (u2 σ 0 (upd (σ 0) 2 p)) τ) pf_Act_15 0 rfl (rfl) rfl (Nat.le_of_ble_eq_true rfl) rfl 5 rfl d_Act_play_2 ?_
  refine r_aload_n rfl 6 rfl d_Act_play_5 ?_
  refine r_iload_n rfl 7 rfl d_Act_play_6 ?_
  refine r_putf (w2 := AW X a ν (u2 (u2 σ 0 (upd (σ 0) 2 p)) 0 (upd (upd (σ 0) 2 p) 3 k)) τ) pf_Act_19 0 rfl (rfl) rfl (Nat.le_of_ble_eq_true rfl) rfl 10 rfl d_Act_play_7 ?_
  refine r_aload_n rfl 11 rfl d_Act_play_10 ?_
  refine r_iload_n rfl 12 rfl d_Act_play_11 ?_
  refine r_putf (w2 := AW X a ν (u2 (u2 (u2 σ 0 (upd (σ 0) 2 p)) 0 (upd (upd (σ 0) 2 p) 3 k)) 0 (upd (upd (upd (σ 0) 2 p) 3 k) 4 v)) τ) pf_Act_22 0 rfl (rfl) rfl (Nat.le_of_ble_eq_true rfl) rfl 15 rfl d_Act_play_12 ?_
  exact r_vret rfl (Nat.zero_le _) (Nat.zero_le _) d_Act_play_15 (by rw [← hQ]; exact ⟨rfl, rfl⟩)
theorem c_run0_0 (X : Xn) (a : Nat → Nat) (d p K : Nat) (v : Int32) (x : Int32) (dp : Nat) (s : Trc) (hK6 : K ≤ 6) (hr : s.1 < 170000) (hdp : dp ≤ 27) : Does X (d + 3) M_Act_run [.ref (a 0), .int (nI 0), .int (nI 0), .int x, .int (nI dp)] (AV X a s.1 s.2 p K v) 0 0 (fun (vv : Option Value) (ww : va_W) => vv = some (.int (gr p v 7 0 x s).1) ∧ ww = AV X a (((gr p v 7 0 x s).2).1) (((gr p v 7 0 x s).2).2) p K v) := by
  generalize hQ : (fun (vv : Option Value) (ww : va_W) => vv = some (.int (gr p v 7 0 x s).1) ∧ ww = AV X a (((gr p v 7 0 x s).2).1) (((gr p v 7 0 x s).2).2) p K v) = Q
  refine Does.go rfl (Nat.le_of_ble_eq_true rfl) [some (.ref (a 0)), some (.int (nI 0)), some (.int (nI 0)), some (.int x), some (.int (nI dp)), none, none, none, none] 4 rfl ?_
  refine r_iload_n rfl 1 rfl d_Act_run_0 ?_
  refine r_iload_n rfl 2 rfl d_Act_run_1 ?_
  refine r_callS1 (st2 := [.int (nI (own 0 0))]) (w2 := AV X a s.1 s.2 p K v) lk_Act_ownerOf ln_Act_25 (c_Act_ownerOf X 0 0 (by omega) (by omega)) (by first | decide | omega) rfl rfl (Nat.le_of_ble_eq_true rfl) (Nat.le_of_ble_eq_true rfl) (Nat.le_of_ble_eq_true rfl) [] rfl rfl rfl rfl rfl 5 rfl d_Act_run_2 ?_
  refine r_topi (nI (0)) (by decide +kernel) ?_
  refine r_istore (ls2 := [some (.ref (a 0)), some (.int (nI 0)), some (.int (nI 0)), some (.int x), some (.int (nI dp)), some (.int (nI 0)), none, none, none]) 7 rfl d_Act_run_5 (by decide) rfl rfl ?_
  refine r_iload rfl 9 rfl d_Act_run_7 ?_
  refine r_if_ltN_f 0 (by omega) 12 rfl 19 rfl d_Act_run_9 (by omega) ?_
  refine r_iload rfl 14 rfl d_Act_run_12 ?_
  refine r_bipush (nI 40) rfl 16 rfl d_Act_run_14 ?_
  refine r_icmp_ltN_t dp 40 (by omega) (by omega) 21 rfl d_Act_run_16 (by omega) ?_
  refine r_getsN (v := .ref (X.2.2.2 1)) (fun A U H h => h.2.2.1) (inNW 788 (by decide +kernel) rfl) 24 rfl d_Act_run_21 ?_
  refine r_iload rfl 26 rfl d_Act_run_24 ?_
  refine r_iconst (nI 3) rfl 27 rfl d_Act_run_26 ?_
  refine r_imul 28 rfl d_Act_run_27 ?_
  refine r_topi (nI (0 * 3)) (pk_mul _ _) ?_
  refine r_iload_n rfl 29 rfl d_Act_run_28 ?_
  refine r_iadd 30 rfl d_Act_run_29 ?_
  refine r_topi (nI ((0 * 3) + 0)) (nI_add _ _) ?_
  refine r_callSn1 (st2 := [.int (bodyV.getD ((0 * 3) + 0) 0)]) (w2 := AV X a s.1 s.2 p K v) lk_HB_at ln_Act_32 (c_atB X ((0 * 3) + 0) (by omega)) (by first | decide | omega) rfl rfl (Nat.le_of_ble_eq_true rfl) (Nat.le_of_ble_eq_true rfl) (Nat.le_of_ble_eq_true rfl) [] rfl rfl rfl rfl rfl 33 rfl d_Act_run_30 ?_
  refine r_topi (nI (10)) (by decide +kernel) ?_
  refine r_istore (ls2 := [some (.ref (a 0)), some (.int (nI 0)), some (.int (nI 0)), some (.int x), some (.int (nI dp)), some (.int (nI 0)), some (.int (nI 10)), none, none]) 35 rfl d_Act_run_33 (by decide) rfl rfl ?_
  refine r_aload_n rfl 36 rfl d_Act_run_35 ?_
  refine r_getf (v := .ref (a 1)) gf_Act_9 0 rfl rfl 39 rfl d_Act_run_36 ?_
  refine r_aload_n rfl 40 rfl d_Act_run_39 ?_
  refine r_getf (v := .int (nI s.1)) gf_Act_36 0 rfl rfl 43 rfl d_Act_run_40 ?_
  refine r_iload rfl 45 rfl d_Act_run_43 ?_
  refine r_callSn1 (st2 := []) (w2 := AV X a s.1 (if s.1 < 20 then upd s.2 s.1 (nI 10) else s.2) p K v) lk_HB_put ln_Act_39 (c_putX X _ s.1 (nI 10) s.2 (by omega)) (by first | decide | omega) rfl rfl (Nat.le_of_ble_eq_true rfl) (Nat.le_of_ble_eq_true rfl) (Nat.le_of_ble_eq_true rfl) [1] rfl rfl rfl rfl rfl 48 rfl d_Act_run_45 ?_
  refine r_aload_n rfl 49 rfl d_Act_run_48 ?_
  refine r_dup rfl 50 rfl d_Act_run_49 ?_
  refine r_getf (v := .int (nI s.1)) gf_Act_36 0 rfl rfl 53 rfl d_Act_run_50 ?_
  refine r_iconst (nI 1) rfl 54 rfl d_Act_run_53 ?_
  refine r_iadd 55 rfl d_Act_run_54 ?_
  refine r_topi (nI (s.1 + 1)) (nI_add _ _) ?_
  refine r_putf (w2 := AV X a (s.1 + 1) (if s.1 < 20 then upd s.2 s.1 (nI 10) else s.2) p K v) pf_Act_36 0 rfl (rfl) rfl (Nat.le_of_ble_eq_true rfl) rfl 58 rfl d_Act_run_55 ?_
  refine Runs.cast (w' := AV X a ((rnT s 10).1) ((rnT s 10).2) p K v) ?_ rfl rfl rfl
  refine r_getsN (v := .ref (X.2.2.2 0)) (fun A U H h => h.1) (inNW 791 (by decide +kernel) rfl) 61 rfl d_Act_run_58 ?_
  refine r_iload rfl 63 rfl d_Act_run_61 ?_
  refine r_callSn1 (st2 := [.int (aboveV.getD 0 0)]) (w2 := AV X a ((rnT s 10).1) ((rnT s 10).2) p K v) lk_HB_at ln_Act_32 (c_atA X 0 (by omega)) (by first | decide | omega) rfl rfl (Nat.le_of_ble_eq_true rfl) (Nat.le_of_ble_eq_true rfl) (Nat.le_of_ble_eq_true rfl) [] rfl rfl rfl rfl rfl 66 rfl d_Act_run_63 ?_
  refine r_topi ((-1)) (by decide +kernel) ?_
  refine r_istore (ls2 := [some (.ref (a 0)), some (.int (nI 0)), some (.int (nI 0)), some (.int x), some (.int (nI dp)), some (.int (nI 0)), some (.int (nI 10)), some (.int (-1)), none]) 68 rfl d_Act_run_66 (by decide) rfl rfl ?_
  refine r_iload rfl 70 rfl d_Act_run_68 ?_
  refine r_iconst (nI 1) rfl 71 rfl d_Act_run_70 ?_
  refine r_iadd 72 rfl d_Act_run_71 ?_
  refine r_topi (nI (dp + 1)) (nI_add _ _) ?_
  refine r_istore (ls2 := [some (.ref (a 0)), some (.int (nI 0)), some (.int (nI 0)), some (.int x), some (.int (nI dp)), some (.int (nI 0)), some (.int (nI 10)), some (.int (-1)), some (.int (nI (dp + 1)))]) 74 rfl d_Act_run_72 (by decide) rfl rfl ?_
  refine r_iload rfl 76 rfl d_Act_run_74 ?_
  refine r_lookup (off := 100) 176 d_Act_run_76 (by decide) (by rfl) rfl ?_
  refine r_iload_n rfl 177 rfl d_Act_run_176 ?_
  refine r_aload_n rfl 178 rfl d_Act_run_177 ?_
  refine r_getf (v := .int (nI p)) gf_Act_15 0 rfl rfl 181 rfl d_Act_run_178 ?_
  refine r_iadd 182 rfl d_Act_run_181 ?_
  exact r_iret rfl (Nat.zero_le _) (Nat.zero_le _) d_Act_run_182 (by rw [← hQ]; rw [g_0_0]; exact ⟨rfl, rfl⟩)
theorem c_run0_1 (X : Xn) (a : Nat → Nat) (d p K : Nat) (v : Int32) (x : Int32) (dp : Nat) (s : Trc) (hK6 : K ≤ 6) (hr : s.1 < 170000) (hdp : dp ≤ 27) : Does X (d + 3) M_Act_run [.ref (a 0), .int (nI 1), .int (nI 0), .int x, .int (nI dp)] (AV X a s.1 s.2 p K v) 0 0 (fun (vv : Option Value) (ww : va_W) => vv = some (.int (gr p v 7 1 x s).1) ∧ ww = AV X a (((gr p v 7 1 x s).2).1) (((gr p v 7 1 x s).2).2) p K v) := by
  generalize hQ : (fun (vv : Option Value) (ww : va_W) => vv = some (.int (gr p v 7 1 x s).1) ∧ ww = AV X a (((gr p v 7 1 x s).2).1) (((gr p v 7 1 x s).2).2) p K v) = Q
  refine Does.go rfl (Nat.le_of_ble_eq_true rfl) [some (.ref (a 0)), some (.int (nI 1)), some (.int (nI 0)), some (.int x), some (.int (nI dp)), none, none, none, none] 4 rfl ?_
  refine r_iload_n rfl 1 rfl d_Act_run_0 ?_
  refine r_iload_n rfl 2 rfl d_Act_run_1 ?_
  refine r_callS1 (st2 := [.int (nI (own 1 0))]) (w2 := AV X a s.1 s.2 p K v) lk_Act_ownerOf ln_Act_25 (c_Act_ownerOf X 1 0 (by omega) (by omega)) (by first | decide | omega) rfl rfl (Nat.le_of_ble_eq_true rfl) (Nat.le_of_ble_eq_true rfl) (Nat.le_of_ble_eq_true rfl) [] rfl rfl rfl rfl rfl 5 rfl d_Act_run_2 ?_
  refine r_topi (nI (0)) (by decide +kernel) ?_
  refine r_istore (ls2 := [some (.ref (a 0)), some (.int (nI 1)), some (.int (nI 0)), some (.int x), some (.int (nI dp)), some (.int (nI 0)), none, none, none]) 7 rfl d_Act_run_5 (by decide) rfl rfl ?_
  refine r_iload rfl 9 rfl d_Act_run_7 ?_
  refine r_if_ltN_f 0 (by omega) 12 rfl 19 rfl d_Act_run_9 (by omega) ?_
  refine r_iload rfl 14 rfl d_Act_run_12 ?_
  refine r_bipush (nI 40) rfl 16 rfl d_Act_run_14 ?_
  refine r_icmp_ltN_t dp 40 (by omega) (by omega) 21 rfl d_Act_run_16 (by omega) ?_
  refine r_getsN (v := .ref (X.2.2.2 1)) (fun A U H h => h.2.2.1) (inNW 788 (by decide +kernel) rfl) 24 rfl d_Act_run_21 ?_
  refine r_iload rfl 26 rfl d_Act_run_24 ?_
  refine r_iconst (nI 3) rfl 27 rfl d_Act_run_26 ?_
  refine r_imul 28 rfl d_Act_run_27 ?_
  refine r_topi (nI (0 * 3)) (pk_mul _ _) ?_
  refine r_iload_n rfl 29 rfl d_Act_run_28 ?_
  refine r_iadd 30 rfl d_Act_run_29 ?_
  refine r_topi (nI ((0 * 3) + 0)) (nI_add _ _) ?_
  refine r_callSn1 (st2 := [.int (bodyV.getD ((0 * 3) + 0) 0)]) (w2 := AV X a s.1 s.2 p K v) lk_HB_at ln_Act_32 (c_atB X ((0 * 3) + 0) (by omega)) (by first | decide | omega) rfl rfl (Nat.le_of_ble_eq_true rfl) (Nat.le_of_ble_eq_true rfl) (Nat.le_of_ble_eq_true rfl) [] rfl rfl rfl rfl rfl 33 rfl d_Act_run_30 ?_
  refine r_topi (nI (10)) (by decide +kernel) ?_
  refine r_istore (ls2 := [some (.ref (a 0)), some (.int (nI 1)), some (.int (nI 0)), some (.int x), some (.int (nI dp)), some (.int (nI 0)), some (.int (nI 10)), none, none]) 35 rfl d_Act_run_33 (by decide) rfl rfl ?_
  refine r_aload_n rfl 36 rfl d_Act_run_35 ?_
  refine r_getf (v := .ref (a 1)) gf_Act_9 0 rfl rfl 39 rfl d_Act_run_36 ?_
  refine r_aload_n rfl 40 rfl d_Act_run_39 ?_
  refine r_getf (v := .int (nI s.1)) gf_Act_36 0 rfl rfl 43 rfl d_Act_run_40 ?_
  refine r_iload rfl 45 rfl d_Act_run_43 ?_
  refine r_callSn1 (st2 := []) (w2 := AV X a s.1 (if s.1 < 20 then upd s.2 s.1 (nI 10) else s.2) p K v) lk_HB_put ln_Act_39 (c_putX X _ s.1 (nI 10) s.2 (by omega)) (by first | decide | omega) rfl rfl (Nat.le_of_ble_eq_true rfl) (Nat.le_of_ble_eq_true rfl) (Nat.le_of_ble_eq_true rfl) [1] rfl rfl rfl rfl rfl 48 rfl d_Act_run_45 ?_
  refine r_aload_n rfl 49 rfl d_Act_run_48 ?_
  refine r_dup rfl 50 rfl d_Act_run_49 ?_
  refine r_getf (v := .int (nI s.1)) gf_Act_36 0 rfl rfl 53 rfl d_Act_run_50 ?_
  refine r_iconst (nI 1) rfl 54 rfl d_Act_run_53 ?_
  refine r_iadd 55 rfl d_Act_run_54 ?_
  refine r_topi (nI (s.1 + 1)) (nI_add _ _) ?_
  refine r_putf (w2 := AV X a (s.1 + 1) (if s.1 < 20 then upd s.2 s.1 (nI 10) else s.2) p K v) pf_Act_36 0 rfl (rfl) rfl (Nat.le_of_ble_eq_true rfl) rfl 58 rfl d_Act_run_55 ?_
  refine Runs.cast (w' := AV X a ((rnT s 10).1) ((rnT s 10).2) p K v) ?_ rfl rfl rfl
  refine r_getsN (v := .ref (X.2.2.2 0)) (fun A U H h => h.1) (inNW 791 (by decide +kernel) rfl) 61 rfl d_Act_run_58 ?_
  refine r_iload rfl 63 rfl d_Act_run_61 ?_
  refine r_callSn1 (st2 := [.int (aboveV.getD 0 0)]) (w2 := AV X a ((rnT s 10).1) ((rnT s 10).2) p K v) lk_HB_at ln_Act_32 (c_atA X 0 (by omega)) (by first | decide | omega) rfl rfl (Nat.le_of_ble_eq_true rfl) (Nat.le_of_ble_eq_true rfl) (Nat.le_of_ble_eq_true rfl) [] rfl rfl rfl rfl rfl 66 rfl d_Act_run_63 ?_
  refine r_topi ((-1)) (by decide +kernel) ?_
  refine r_istore (ls2 := [some (.ref (a 0)), some (.int (nI 1)), some (.int (nI 0)), some (.int x), some (.int (nI dp)), some (.int (nI 0)), some (.int (nI 10)), some (.int (-1)), none]) 68 rfl d_Act_run_66 (by decide) rfl rfl ?_
  refine r_iload rfl 70 rfl d_Act_run_68 ?_
  refine r_iconst (nI 1) rfl 71 rfl d_Act_run_70 ?_
  refine r_iadd 72 rfl d_Act_run_71 ?_
  refine r_topi (nI (dp + 1)) (nI_add _ _) ?_
  refine r_istore (ls2 := [some (.ref (a 0)), some (.int (nI 1)), some (.int (nI 0)), some (.int x), some (.int (nI dp)), some (.int (nI 0)), some (.int (nI 10)), some (.int (-1)), some (.int (nI (dp + 1)))]) 74 rfl d_Act_run_72 (by decide) rfl rfl ?_
  refine r_iload rfl 76 rfl d_Act_run_74 ?_
  refine r_lookup (off := 100) 176 d_Act_run_76 (by decide) (by rfl) rfl ?_
  refine r_iload_n rfl 177 rfl d_Act_run_176 ?_
  refine r_aload_n rfl 178 rfl d_Act_run_177 ?_
  refine r_getf (v := .int (nI p)) gf_Act_15 0 rfl rfl 181 rfl d_Act_run_178 ?_
  refine r_iadd 182 rfl d_Act_run_181 ?_
  exact r_iret rfl (Nat.zero_le _) (Nat.zero_le _) d_Act_run_182 (by rw [← hQ]; rw [g_0_1]; exact ⟨rfl, rfl⟩)
theorem c_run0_3 (X : Xn) (a : Nat → Nat) (d p K : Nat) (v : Int32) (x : Int32) (dp : Nat) (s : Trc) (hK6 : K ≤ 6) (hr : s.1 < 170000) (hdp : dp ≤ 27) : Does X (d + 3) M_Act_run [.ref (a 0), .int (nI 3), .int (nI 0), .int x, .int (nI dp)] (AV X a s.1 s.2 p K v) 0 0 (fun (vv : Option Value) (ww : va_W) => vv = some (.int (gr p v 7 3 x s).1) ∧ ww = AV X a (((gr p v 7 3 x s).2).1) (((gr p v 7 3 x s).2).2) p K v) := by
  generalize hQ : (fun (vv : Option Value) (ww : va_W) => vv = some (.int (gr p v 7 3 x s).1) ∧ ww = AV X a (((gr p v 7 3 x s).2).1) (((gr p v 7 3 x s).2).2) p K v) = Q
  refine Does.go rfl (Nat.le_of_ble_eq_true rfl) [some (.ref (a 0)), some (.int (nI 3)), some (.int (nI 0)), some (.int x), some (.int (nI dp)), none, none, none, none] 4 rfl ?_
  refine r_iload_n rfl 1 rfl d_Act_run_0 ?_
  refine r_iload_n rfl 2 rfl d_Act_run_1 ?_
  refine r_callS1 (st2 := [.int (nI (own 3 0))]) (w2 := AV X a s.1 s.2 p K v) lk_Act_ownerOf ln_Act_25 (c_Act_ownerOf X 3 0 (by omega) (by omega)) (by first | decide | omega) rfl rfl (Nat.le_of_ble_eq_true rfl) (Nat.le_of_ble_eq_true rfl) (Nat.le_of_ble_eq_true rfl) [] rfl rfl rfl rfl rfl 5 rfl d_Act_run_2 ?_
  refine r_topi (nI (0)) (by decide +kernel) ?_
  refine r_istore (ls2 := [some (.ref (a 0)), some (.int (nI 3)), some (.int (nI 0)), some (.int x), some (.int (nI dp)), some (.int (nI 0)), none, none, none]) 7 rfl d_Act_run_5 (by decide) rfl rfl ?_
  refine r_iload rfl 9 rfl d_Act_run_7 ?_
  refine r_if_ltN_f 0 (by omega) 12 rfl 19 rfl d_Act_run_9 (by omega) ?_
  refine r_iload rfl 14 rfl d_Act_run_12 ?_
  refine r_bipush (nI 40) rfl 16 rfl d_Act_run_14 ?_
  refine r_icmp_ltN_t dp 40 (by omega) (by omega) 21 rfl d_Act_run_16 (by omega) ?_
  refine r_getsN (v := .ref (X.2.2.2 1)) (fun A U H h => h.2.2.1) (inNW 788 (by decide +kernel) rfl) 24 rfl d_Act_run_21 ?_
  refine r_iload rfl 26 rfl d_Act_run_24 ?_
  refine r_iconst (nI 3) rfl 27 rfl d_Act_run_26 ?_
  refine r_imul 28 rfl d_Act_run_27 ?_
  refine r_topi (nI (0 * 3)) (pk_mul _ _) ?_
  refine r_iload_n rfl 29 rfl d_Act_run_28 ?_
  refine r_iadd 30 rfl d_Act_run_29 ?_
  refine r_topi (nI ((0 * 3) + 0)) (nI_add _ _) ?_
  refine r_callSn1 (st2 := [.int (bodyV.getD ((0 * 3) + 0) 0)]) (w2 := AV X a s.1 s.2 p K v) lk_HB_at ln_Act_32 (c_atB X ((0 * 3) + 0) (by omega)) (by first | decide | omega) rfl rfl (Nat.le_of_ble_eq_true rfl) (Nat.le_of_ble_eq_true rfl) (Nat.le_of_ble_eq_true rfl) [] rfl rfl rfl rfl rfl 33 rfl d_Act_run_30 ?_
  refine r_topi (nI (10)) (by decide +kernel) ?_
  refine r_istore (ls2 := [some (.ref (a 0)), some (.int (nI 3)), some (.int (nI 0)), some (.int x), some (.int (nI dp)), some (.int (nI 0)), some (.int (nI 10)), none, none]) 35 rfl d_Act_run_33 (by decide) rfl rfl ?_
  refine r_aload_n rfl 36 rfl d_Act_run_35 ?_
  refine r_getf (v := .ref (a 1)) gf_Act_9 0 rfl rfl 39 rfl d_Act_run_36 ?_
  refine r_aload_n rfl 40 rfl d_Act_run_39 ?_
  refine r_getf (v := .int (nI s.1)) gf_Act_36 0 rfl rfl 43 rfl d_Act_run_40 ?_
  refine r_iload rfl 45 rfl d_Act_run_43 ?_
  refine r_callSn1 (st2 := []) (w2 := AV X a s.1 (if s.1 < 20 then upd s.2 s.1 (nI 10) else s.2) p K v) lk_HB_put ln_Act_39 (c_putX X _ s.1 (nI 10) s.2 (by omega)) (by first | decide | omega) rfl rfl (Nat.le_of_ble_eq_true rfl) (Nat.le_of_ble_eq_true rfl) (Nat.le_of_ble_eq_true rfl) [1] rfl rfl rfl rfl rfl 48 rfl d_Act_run_45 ?_
  refine r_aload_n rfl 49 rfl d_Act_run_48 ?_
  refine r_dup rfl 50 rfl d_Act_run_49 ?_
  refine r_getf (v := .int (nI s.1)) gf_Act_36 0 rfl rfl 53 rfl d_Act_run_50 ?_
  refine r_iconst (nI 1) rfl 54 rfl d_Act_run_53 ?_
  refine r_iadd 55 rfl d_Act_run_54 ?_
  refine r_topi (nI (s.1 + 1)) (nI_add _ _) ?_
  refine r_putf (w2 := AV X a (s.1 + 1) (if s.1 < 20 then upd s.2 s.1 (nI 10) else s.2) p K v) pf_Act_36 0 rfl (rfl) rfl (Nat.le_of_ble_eq_true rfl) rfl 58 rfl d_Act_run_55 ?_
  refine Runs.cast (w' := AV X a ((rnT s 10).1) ((rnT s 10).2) p K v) ?_ rfl rfl rfl
  refine r_getsN (v := .ref (X.2.2.2 0)) (fun A U H h => h.1) (inNW 791 (by decide +kernel) rfl) 61 rfl d_Act_run_58 ?_
  refine r_iload rfl 63 rfl d_Act_run_61 ?_
  refine r_callSn1 (st2 := [.int (aboveV.getD 0 0)]) (w2 := AV X a ((rnT s 10).1) ((rnT s 10).2) p K v) lk_HB_at ln_Act_32 (c_atA X 0 (by omega)) (by first | decide | omega) rfl rfl (Nat.le_of_ble_eq_true rfl) (Nat.le_of_ble_eq_true rfl) (Nat.le_of_ble_eq_true rfl) [] rfl rfl rfl rfl rfl 66 rfl d_Act_run_63 ?_
  refine r_topi ((-1)) (by decide +kernel) ?_
  refine r_istore (ls2 := [some (.ref (a 0)), some (.int (nI 3)), some (.int (nI 0)), some (.int x), some (.int (nI dp)), some (.int (nI 0)), some (.int (nI 10)), some (.int (-1)), none]) 68 rfl d_Act_run_66 (by decide) rfl rfl ?_
  refine r_iload rfl 70 rfl d_Act_run_68 ?_
  refine r_iconst (nI 1) rfl 71 rfl d_Act_run_70 ?_
  refine r_iadd 72 rfl d_Act_run_71 ?_
  refine r_topi (nI (dp + 1)) (nI_add _ _) ?_
  refine r_istore (ls2 := [some (.ref (a 0)), some (.int (nI 3)), some (.int (nI 0)), some (.int x), some (.int (nI dp)), some (.int (nI 0)), some (.int (nI 10)), some (.int (-1)), some (.int (nI (dp + 1)))]) 74 rfl d_Act_run_72 (by decide) rfl rfl ?_
  refine r_iload rfl 76 rfl d_Act_run_74 ?_
  refine r_lookup (off := 100) 176 d_Act_run_76 (by decide) (by rfl) rfl ?_
  refine r_iload_n rfl 177 rfl d_Act_run_176 ?_
  refine r_aload_n rfl 178 rfl d_Act_run_177 ?_
  refine r_getf (v := .int (nI p)) gf_Act_15 0 rfl rfl 181 rfl d_Act_run_178 ?_
  refine r_iadd 182 rfl d_Act_run_181 ?_
  exact r_iret rfl (Nat.zero_le _) (Nat.zero_le _) d_Act_run_182 (by rw [← hQ]; rw [g_0_3]; exact ⟨rfl, rfl⟩)
theorem c_run0_5 (X : Xn) (a : Nat → Nat) (d p K : Nat) (v : Int32) (x : Int32) (dp : Nat) (s : Trc) (hK6 : K ≤ 6) (hr : s.1 < 160000) (hdp : dp ≤ 26) : Does X (d + 4) M_Act_run [.ref (a 0), .int (nI 5), .int (nI 0), .int x, .int (nI dp)] (AV X a s.1 s.2 p K v) 0 0 (fun (vv : Option Value) (ww : va_W) => vv = some (.int (gr p v 7 5 x s).1) ∧ ww = AV X a (((gr p v 7 5 x s).2).1) (((gr p v 7 5 x s).2).2) p K v) := by
  generalize hQ : (fun (vv : Option Value) (ww : va_W) => vv = some (.int (gr p v 7 5 x s).1) ∧ ww = AV X a (((gr p v 7 5 x s).2).1) (((gr p v 7 5 x s).2).2) p K v) = Q
  refine Does.go rfl (Nat.le_of_ble_eq_true rfl) [some (.ref (a 0)), some (.int (nI 5)), some (.int (nI 0)), some (.int x), some (.int (nI dp)), none, none, none, none] 4 rfl ?_
  refine r_iload_n rfl 1 rfl d_Act_run_0 ?_
  refine r_iload_n rfl 2 rfl d_Act_run_1 ?_
  refine r_callS1 (st2 := [.int (nI (own 5 0))]) (w2 := AV X a s.1 s.2 p K v) lk_Act_ownerOf ln_Act_25 (c_Act_ownerOf X 5 0 (by omega) (by omega)) (by first | decide | omega) rfl rfl (Nat.le_of_ble_eq_true rfl) (Nat.le_of_ble_eq_true rfl) (Nat.le_of_ble_eq_true rfl) [] rfl rfl rfl rfl rfl 5 rfl d_Act_run_2 ?_
  refine r_topi (nI (2)) (by decide +kernel) ?_
  refine r_istore (ls2 := [some (.ref (a 0)), some (.int (nI 5)), some (.int (nI 0)), some (.int x), some (.int (nI dp)), some (.int (nI 2)), none, none, none]) 7 rfl d_Act_run_5 (by decide) rfl rfl ?_
  refine r_iload rfl 9 rfl d_Act_run_7 ?_
  refine r_if_ltN_f 2 (by omega) 12 rfl 19 rfl d_Act_run_9 (by omega) ?_
  refine r_iload rfl 14 rfl d_Act_run_12 ?_
  refine r_bipush (nI 40) rfl 16 rfl d_Act_run_14 ?_
  refine r_icmp_ltN_t dp 40 (by omega) (by omega) 21 rfl d_Act_run_16 (by omega) ?_
  refine r_getsN (v := .ref (X.2.2.2 1)) (fun A U H h => h.2.2.1) (inNW 788 (by decide +kernel) rfl) 24 rfl d_Act_run_21 ?_
  refine r_iload rfl 26 rfl d_Act_run_24 ?_
  refine r_iconst (nI 3) rfl 27 rfl d_Act_run_26 ?_
  refine r_imul 28 rfl d_Act_run_27 ?_
  refine r_topi (nI (2 * 3)) (pk_mul _ _) ?_
  refine r_iload_n rfl 29 rfl d_Act_run_28 ?_
  refine r_iadd 30 rfl d_Act_run_29 ?_
  refine r_topi (nI ((2 * 3) + 0)) (nI_add _ _) ?_
  refine r_callSn1 (st2 := [.int (bodyV.getD ((2 * 3) + 0) 0)]) (w2 := AV X a s.1 s.2 p K v) lk_HB_at ln_Act_32 (c_atB X ((2 * 3) + 0) (by omega)) (by first | decide | omega) rfl rfl (Nat.le_of_ble_eq_true rfl) (Nat.le_of_ble_eq_true rfl) (Nat.le_of_ble_eq_true rfl) [] rfl rfl rfl rfl rfl 33 rfl d_Act_run_30 ?_
  refine r_topi (nI (30)) (by decide +kernel) ?_
  refine r_istore (ls2 := [some (.ref (a 0)), some (.int (nI 5)), some (.int (nI 0)), some (.int x), some (.int (nI dp)), some (.int (nI 2)), some (.int (nI 30)), none, none]) 35 rfl d_Act_run_33 (by decide) rfl rfl ?_
  refine r_aload_n rfl 36 rfl d_Act_run_35 ?_
  refine r_getf (v := .ref (a 1)) gf_Act_9 0 rfl rfl 39 rfl d_Act_run_36 ?_
  refine r_aload_n rfl 40 rfl d_Act_run_39 ?_
  refine r_getf (v := .int (nI s.1)) gf_Act_36 0 rfl rfl 43 rfl d_Act_run_40 ?_
  refine r_iload rfl 45 rfl d_Act_run_43 ?_
  refine r_callSn1 (st2 := []) (w2 := AV X a s.1 (if s.1 < 20 then upd s.2 s.1 (nI 30) else s.2) p K v) lk_HB_put ln_Act_39 (c_putX X _ s.1 (nI 30) s.2 (by omega)) (by first | decide | omega) rfl rfl (Nat.le_of_ble_eq_true rfl) (Nat.le_of_ble_eq_true rfl) (Nat.le_of_ble_eq_true rfl) [1] rfl rfl rfl rfl rfl 48 rfl d_Act_run_45 ?_
  refine r_aload_n rfl 49 rfl d_Act_run_48 ?_
  refine r_dup rfl 50 rfl d_Act_run_49 ?_
  refine r_getf (v := .int (nI s.1)) gf_Act_36 0 rfl rfl 53 rfl d_Act_run_50 ?_
  refine r_iconst (nI 1) rfl 54 rfl d_Act_run_53 ?_
  refine r_iadd 55 rfl d_Act_run_54 ?_
  refine r_topi (nI (s.1 + 1)) (nI_add _ _) ?_
  refine r_putf (w2 := AV X a (s.1 + 1) (if s.1 < 20 then upd s.2 s.1 (nI 30) else s.2) p K v) pf_Act_36 0 rfl (rfl) rfl (Nat.le_of_ble_eq_true rfl) rfl 58 rfl d_Act_run_55 ?_
  refine Runs.cast (w' := AV X a ((rnT s 30).1) ((rnT s 30).2) p K v) ?_ rfl rfl rfl
  refine r_getsN (v := .ref (X.2.2.2 0)) (fun A U H h => h.1) (inNW 791 (by decide +kernel) rfl) 61 rfl d_Act_run_58 ?_
  refine r_iload rfl 63 rfl d_Act_run_61 ?_
  refine r_callSn1 (st2 := [.int (aboveV.getD 2 0)]) (w2 := AV X a ((rnT s 30).1) ((rnT s 30).2) p K v) lk_HB_at ln_Act_32 (c_atA X 2 (by omega)) (by first | decide | omega) rfl rfl (Nat.le_of_ble_eq_true rfl) (Nat.le_of_ble_eq_true rfl) (Nat.le_of_ble_eq_true rfl) [] rfl rfl rfl rfl rfl 66 rfl d_Act_run_63 ?_
  refine r_topi (nI (0)) (by decide +kernel) ?_
  refine r_istore (ls2 := [some (.ref (a 0)), some (.int (nI 5)), some (.int (nI 0)), some (.int x), some (.int (nI dp)), some (.int (nI 2)), some (.int (nI 30)), some (.int (nI 0)), none]) 68 rfl d_Act_run_66 (by decide) rfl rfl ?_
  refine r_iload rfl 70 rfl d_Act_run_68 ?_
  refine r_iconst (nI 1) rfl 71 rfl d_Act_run_70 ?_
  refine r_iadd 72 rfl d_Act_run_71 ?_
  refine r_topi (nI (dp + 1)) (nI_add _ _) ?_
  refine r_istore (ls2 := [some (.ref (a 0)), some (.int (nI 5)), some (.int (nI 0)), some (.int x), some (.int (nI dp)), some (.int (nI 2)), some (.int (nI 30)), some (.int (nI 0)), some (.int (nI (dp + 1)))]) 74 rfl d_Act_run_72 (by decide) rfl rfl ?_
  refine r_iload rfl 76 rfl d_Act_run_74 ?_
  refine r_lookup (off := 154) 230 d_Act_run_76 (by decide) (by rfl) rfl ?_
  refine r_aload_n rfl 231 rfl d_Act_run_230 ?_
  refine r_iload rfl 233 rfl d_Act_run_231 ?_
  refine r_iconst (nI 0) rfl 234 rfl d_Act_run_233 ?_
  refine r_iload_n rfl 235 rfl d_Act_run_234 ?_
  refine r_iconst (nI 3) rfl 236 rfl d_Act_run_235 ?_
  refine r_imul 237 rfl d_Act_run_236 ?_
  refine r_iload rfl 239 rfl d_Act_run_237 ?_
  refine r_callVA1 (st2 := [.int ((gr p v 7 0 (x * (nI 3)) (rnT s 30)).1)]) (w2 := AV X a (((gr p v 7 0 (x * (nI 3)) (rnT s 30)).2).1) (((gr p v 7 0 (x * (nI 3)) (rnT s 30)).2).2) p K v) lk_Act_run ln_Act_46 (c_run0_0 X a d p K v (x * (nI 3)) (dp + 1) (rnT s 30) hK6 (show s.1 + 1 < 170000 by omega) (by omega)) (by first | decide | omega) rfl rfl (Nat.le_of_ble_eq_true rfl) (Nat.le_of_ble_eq_true rfl) (Nat.le_of_ble_eq_true rfl) 0 rfl rfl AV_f rfl 242 rfl d_Act_run_239 ?_
  exact r_iret rfl (Nat.zero_le _) (Nat.zero_le _) d_Act_run_242 (by rw [← hQ]; rw [g_0_5]; exact ⟨rfl, rfl⟩)
theorem c_run0_2 (X : Xn) (a : Nat → Nat) (d p K : Nat) (v : Int32) (x : Int32) (dp : Nat) (s : Trc) (hK6 : K ≤ 6) (hr : s.1 < 160000) (hdp : dp ≤ 26) : Does X (d + 4) M_Act_run [.ref (a 0), .int (nI 2), .int (nI 0), .int x, .int (nI dp)] (AV X a s.1 s.2 p K v) 0 0 (fun (vv : Option Value) (ww : va_W) => vv = some (.int (gr p v 7 2 x s).1) ∧ ww = AV X a (((gr p v 7 2 x s).2).1) (((gr p v 7 2 x s).2).2) p K v) := by
  generalize hQ : (fun (vv : Option Value) (ww : va_W) => vv = some (.int (gr p v 7 2 x s).1) ∧ ww = AV X a (((gr p v 7 2 x s).2).1) (((gr p v 7 2 x s).2).2) p K v) = Q
  refine Does.go rfl (Nat.le_of_ble_eq_true rfl) [some (.ref (a 0)), some (.int (nI 2)), some (.int (nI 0)), some (.int x), some (.int (nI dp)), none, none, none, none] 4 rfl ?_
  refine r_iload_n rfl 1 rfl d_Act_run_0 ?_
  refine r_iload_n rfl 2 rfl d_Act_run_1 ?_
  refine r_callS1 (st2 := [.int (nI (own 2 0))]) (w2 := AV X a s.1 s.2 p K v) lk_Act_ownerOf ln_Act_25 (c_Act_ownerOf X 2 0 (by omega) (by omega)) (by first | decide | omega) rfl rfl (Nat.le_of_ble_eq_true rfl) (Nat.le_of_ble_eq_true rfl) (Nat.le_of_ble_eq_true rfl) [] rfl rfl rfl rfl rfl 5 rfl d_Act_run_2 ?_
  refine r_topi (nI (2)) (by decide +kernel) ?_
  refine r_istore (ls2 := [some (.ref (a 0)), some (.int (nI 2)), some (.int (nI 0)), some (.int x), some (.int (nI dp)), some (.int (nI 2)), none, none, none]) 7 rfl d_Act_run_5 (by decide) rfl rfl ?_
  refine r_iload rfl 9 rfl d_Act_run_7 ?_
  refine r_if_ltN_f 2 (by omega) 12 rfl 19 rfl d_Act_run_9 (by omega) ?_
  refine r_iload rfl 14 rfl d_Act_run_12 ?_
  refine r_bipush (nI 40) rfl 16 rfl d_Act_run_14 ?_
  refine r_icmp_ltN_t dp 40 (by omega) (by omega) 21 rfl d_Act_run_16 (by omega) ?_
  refine r_getsN (v := .ref (X.2.2.2 1)) (fun A U H h => h.2.2.1) (inNW 788 (by decide +kernel) rfl) 24 rfl d_Act_run_21 ?_
  refine r_iload rfl 26 rfl d_Act_run_24 ?_
  refine r_iconst (nI 3) rfl 27 rfl d_Act_run_26 ?_
  refine r_imul 28 rfl d_Act_run_27 ?_
  refine r_topi (nI (2 * 3)) (pk_mul _ _) ?_
  refine r_iload_n rfl 29 rfl d_Act_run_28 ?_
  refine r_iadd 30 rfl d_Act_run_29 ?_
  refine r_topi (nI ((2 * 3) + 0)) (nI_add _ _) ?_
  refine r_callSn1 (st2 := [.int (bodyV.getD ((2 * 3) + 0) 0)]) (w2 := AV X a s.1 s.2 p K v) lk_HB_at ln_Act_32 (c_atB X ((2 * 3) + 0) (by omega)) (by first | decide | omega) rfl rfl (Nat.le_of_ble_eq_true rfl) (Nat.le_of_ble_eq_true rfl) (Nat.le_of_ble_eq_true rfl) [] rfl rfl rfl rfl rfl 33 rfl d_Act_run_30 ?_
  refine r_topi (nI (30)) (by decide +kernel) ?_
  refine r_istore (ls2 := [some (.ref (a 0)), some (.int (nI 2)), some (.int (nI 0)), some (.int x), some (.int (nI dp)), some (.int (nI 2)), some (.int (nI 30)), none, none]) 35 rfl d_Act_run_33 (by decide) rfl rfl ?_
  refine r_aload_n rfl 36 rfl d_Act_run_35 ?_
  refine r_getf (v := .ref (a 1)) gf_Act_9 0 rfl rfl 39 rfl d_Act_run_36 ?_
  refine r_aload_n rfl 40 rfl d_Act_run_39 ?_
  refine r_getf (v := .int (nI s.1)) gf_Act_36 0 rfl rfl 43 rfl d_Act_run_40 ?_
  refine r_iload rfl 45 rfl d_Act_run_43 ?_
  refine r_callSn1 (st2 := []) (w2 := AV X a s.1 (if s.1 < 20 then upd s.2 s.1 (nI 30) else s.2) p K v) lk_HB_put ln_Act_39 (c_putX X _ s.1 (nI 30) s.2 (by omega)) (by first | decide | omega) rfl rfl (Nat.le_of_ble_eq_true rfl) (Nat.le_of_ble_eq_true rfl) (Nat.le_of_ble_eq_true rfl) [1] rfl rfl rfl rfl rfl 48 rfl d_Act_run_45 ?_
  refine r_aload_n rfl 49 rfl d_Act_run_48 ?_
  refine r_dup rfl 50 rfl d_Act_run_49 ?_
  refine r_getf (v := .int (nI s.1)) gf_Act_36 0 rfl rfl 53 rfl d_Act_run_50 ?_
  refine r_iconst (nI 1) rfl 54 rfl d_Act_run_53 ?_
  refine r_iadd 55 rfl d_Act_run_54 ?_
  refine r_topi (nI (s.1 + 1)) (nI_add _ _) ?_
  refine r_putf (w2 := AV X a (s.1 + 1) (if s.1 < 20 then upd s.2 s.1 (nI 30) else s.2) p K v) pf_Act_36 0 rfl (rfl) rfl (Nat.le_of_ble_eq_true rfl) rfl 58 rfl d_Act_run_55 ?_
  refine Runs.cast (w' := AV X a ((rnT s 30).1) ((rnT s 30).2) p K v) ?_ rfl rfl rfl
  refine r_getsN (v := .ref (X.2.2.2 0)) (fun A U H h => h.1) (inNW 791 (by decide +kernel) rfl) 61 rfl d_Act_run_58 ?_
  refine r_iload rfl 63 rfl d_Act_run_61 ?_
  refine r_callSn1 (st2 := [.int (aboveV.getD 2 0)]) (w2 := AV X a ((rnT s 30).1) ((rnT s 30).2) p K v) lk_HB_at ln_Act_32 (c_atA X 2 (by omega)) (by first | decide | omega) rfl rfl (Nat.le_of_ble_eq_true rfl) (Nat.le_of_ble_eq_true rfl) (Nat.le_of_ble_eq_true rfl) [] rfl rfl rfl rfl rfl 66 rfl d_Act_run_63 ?_
  refine r_topi (nI (0)) (by decide +kernel) ?_
  refine r_istore (ls2 := [some (.ref (a 0)), some (.int (nI 2)), some (.int (nI 0)), some (.int x), some (.int (nI dp)), some (.int (nI 2)), some (.int (nI 30)), some (.int (nI 0)), none]) 68 rfl d_Act_run_66 (by decide) rfl rfl ?_
  refine r_iload rfl 70 rfl d_Act_run_68 ?_
  refine r_iconst (nI 1) rfl 71 rfl d_Act_run_70 ?_
  refine r_iadd 72 rfl d_Act_run_71 ?_
  refine r_topi (nI (dp + 1)) (nI_add _ _) ?_
  refine r_istore (ls2 := [some (.ref (a 0)), some (.int (nI 2)), some (.int (nI 0)), some (.int x), some (.int (nI dp)), some (.int (nI 2)), some (.int (nI 30)), some (.int (nI 0)), some (.int (nI (dp + 1)))]) 74 rfl d_Act_run_72 (by decide) rfl rfl ?_
  refine r_iload rfl 76 rfl d_Act_run_74 ?_
  refine r_lookup (off := 154) 230 d_Act_run_76 (by decide) (by rfl) rfl ?_
  refine r_aload_n rfl 231 rfl d_Act_run_230 ?_
  refine r_iload rfl 233 rfl d_Act_run_231 ?_
  refine r_iconst (nI 0) rfl 234 rfl d_Act_run_233 ?_
  refine r_iload_n rfl 235 rfl d_Act_run_234 ?_
  refine r_iconst (nI 3) rfl 236 rfl d_Act_run_235 ?_
  refine r_imul 237 rfl d_Act_run_236 ?_
  refine r_iload rfl 239 rfl d_Act_run_237 ?_
  refine r_callVA1 (st2 := [.int ((gr p v 7 0 (x * (nI 3)) (rnT s 30)).1)]) (w2 := AV X a (((gr p v 7 0 (x * (nI 3)) (rnT s 30)).2).1) (((gr p v 7 0 (x * (nI 3)) (rnT s 30)).2).2) p K v) lk_Act_run ln_Act_46 (c_run0_0 X a d p K v (x * (nI 3)) (dp + 1) (rnT s 30) hK6 (show s.1 + 1 < 170000 by omega) (by omega)) (by first | decide | omega) rfl rfl (Nat.le_of_ble_eq_true rfl) (Nat.le_of_ble_eq_true rfl) (Nat.le_of_ble_eq_true rfl) 0 rfl rfl AV_f rfl 242 rfl d_Act_run_239 ?_
  exact r_iret rfl (Nat.zero_le _) (Nat.zero_le _) d_Act_run_242 (by rw [← hQ]; rw [g_0_2]; exact ⟨rfl, rfl⟩)
theorem c_run0_4 (X : Xn) (a : Nat → Nat) (d p K : Nat) (v : Int32) (x : Int32) (dp : Nat) (s : Trc) (hK6 : K ≤ 6) (hr : s.1 < 160000) (hdp : dp ≤ 26) : Does X (d + 4) M_Act_run [.ref (a 0), .int (nI 4), .int (nI 0), .int x, .int (nI dp)] (AV X a s.1 s.2 p K v) 0 0 (fun (vv : Option Value) (ww : va_W) => vv = some (.int (gr p v 7 4 x s).1) ∧ ww = AV X a (((gr p v 7 4 x s).2).1) (((gr p v 7 4 x s).2).2) p K v) := by
  generalize hQ : (fun (vv : Option Value) (ww : va_W) => vv = some (.int (gr p v 7 4 x s).1) ∧ ww = AV X a (((gr p v 7 4 x s).2).1) (((gr p v 7 4 x s).2).2) p K v) = Q
  refine Does.go rfl (Nat.le_of_ble_eq_true rfl) [some (.ref (a 0)), some (.int (nI 4)), some (.int (nI 0)), some (.int x), some (.int (nI dp)), none, none, none, none] 4 rfl ?_
  refine r_iload_n rfl 1 rfl d_Act_run_0 ?_
  refine r_iload_n rfl 2 rfl d_Act_run_1 ?_
  refine r_callS1 (st2 := [.int (nI (own 4 0))]) (w2 := AV X a s.1 s.2 p K v) lk_Act_ownerOf ln_Act_25 (c_Act_ownerOf X 4 0 (by omega) (by omega)) (by first | decide | omega) rfl rfl (Nat.le_of_ble_eq_true rfl) (Nat.le_of_ble_eq_true rfl) (Nat.le_of_ble_eq_true rfl) [] rfl rfl rfl rfl rfl 5 rfl d_Act_run_2 ?_
  refine r_topi (nI (4)) (by decide +kernel) ?_
  refine r_istore (ls2 := [some (.ref (a 0)), some (.int (nI 4)), some (.int (nI 0)), some (.int x), some (.int (nI dp)), some (.int (nI 4)), none, none, none]) 7 rfl d_Act_run_5 (by decide) rfl rfl ?_
  refine r_iload rfl 9 rfl d_Act_run_7 ?_
  refine r_if_ltN_f 4 (by omega) 12 rfl 19 rfl d_Act_run_9 (by omega) ?_
  refine r_iload rfl 14 rfl d_Act_run_12 ?_
  refine r_bipush (nI 40) rfl 16 rfl d_Act_run_14 ?_
  refine r_icmp_ltN_t dp 40 (by omega) (by omega) 21 rfl d_Act_run_16 (by omega) ?_
  refine r_getsN (v := .ref (X.2.2.2 1)) (fun A U H h => h.2.2.1) (inNW 788 (by decide +kernel) rfl) 24 rfl d_Act_run_21 ?_
  refine r_iload rfl 26 rfl d_Act_run_24 ?_
  refine r_iconst (nI 3) rfl 27 rfl d_Act_run_26 ?_
  refine r_imul 28 rfl d_Act_run_27 ?_
  refine r_topi (nI (4 * 3)) (pk_mul _ _) ?_
  refine r_iload_n rfl 29 rfl d_Act_run_28 ?_
  refine r_iadd 30 rfl d_Act_run_29 ?_
  refine r_topi (nI ((4 * 3) + 0)) (nI_add _ _) ?_
  refine r_callSn1 (st2 := [.int (bodyV.getD ((4 * 3) + 0) 0)]) (w2 := AV X a s.1 s.2 p K v) lk_HB_at ln_Act_32 (c_atB X ((4 * 3) + 0) (by omega)) (by first | decide | omega) rfl rfl (Nat.le_of_ble_eq_true rfl) (Nat.le_of_ble_eq_true rfl) (Nat.le_of_ble_eq_true rfl) [] rfl rfl rfl rfl rfl 33 rfl d_Act_run_30 ?_
  refine r_topi (nI (50)) (by decide +kernel) ?_
  refine r_istore (ls2 := [some (.ref (a 0)), some (.int (nI 4)), some (.int (nI 0)), some (.int x), some (.int (nI dp)), some (.int (nI 4)), some (.int (nI 50)), none, none]) 35 rfl d_Act_run_33 (by decide) rfl rfl ?_
  refine r_aload_n rfl 36 rfl d_Act_run_35 ?_
  refine r_getf (v := .ref (a 1)) gf_Act_9 0 rfl rfl 39 rfl d_Act_run_36 ?_
  refine r_aload_n rfl 40 rfl d_Act_run_39 ?_
  refine r_getf (v := .int (nI s.1)) gf_Act_36 0 rfl rfl 43 rfl d_Act_run_40 ?_
  refine r_iload rfl 45 rfl d_Act_run_43 ?_
  refine r_callSn1 (st2 := []) (w2 := AV X a s.1 (if s.1 < 20 then upd s.2 s.1 (nI 50) else s.2) p K v) lk_HB_put ln_Act_39 (c_putX X _ s.1 (nI 50) s.2 (by omega)) (by first | decide | omega) rfl rfl (Nat.le_of_ble_eq_true rfl) (Nat.le_of_ble_eq_true rfl) (Nat.le_of_ble_eq_true rfl) [1] rfl rfl rfl rfl rfl 48 rfl d_Act_run_45 ?_
  refine r_aload_n rfl 49 rfl d_Act_run_48 ?_
  refine r_dup rfl 50 rfl d_Act_run_49 ?_
  refine r_getf (v := .int (nI s.1)) gf_Act_36 0 rfl rfl 53 rfl d_Act_run_50 ?_
  refine r_iconst (nI 1) rfl 54 rfl d_Act_run_53 ?_
  refine r_iadd 55 rfl d_Act_run_54 ?_
  refine r_topi (nI (s.1 + 1)) (nI_add _ _) ?_
  refine r_putf (w2 := AV X a (s.1 + 1) (if s.1 < 20 then upd s.2 s.1 (nI 50) else s.2) p K v) pf_Act_36 0 rfl (rfl) rfl (Nat.le_of_ble_eq_true rfl) rfl 58 rfl d_Act_run_55 ?_
  refine Runs.cast (w' := AV X a ((rnT s 50).1) ((rnT s 50).2) p K v) ?_ rfl rfl rfl
  refine r_getsN (v := .ref (X.2.2.2 0)) (fun A U H h => h.1) (inNW 791 (by decide +kernel) rfl) 61 rfl d_Act_run_58 ?_
  refine r_iload rfl 63 rfl d_Act_run_61 ?_
  refine r_callSn1 (st2 := [.int (aboveV.getD 4 0)]) (w2 := AV X a ((rnT s 50).1) ((rnT s 50).2) p K v) lk_HB_at ln_Act_32 (c_atA X 4 (by omega)) (by first | decide | omega) rfl rfl (Nat.le_of_ble_eq_true rfl) (Nat.le_of_ble_eq_true rfl) (Nat.le_of_ble_eq_true rfl) [] rfl rfl rfl rfl rfl 66 rfl d_Act_run_63 ?_
  refine r_topi (nI (1)) (by decide +kernel) ?_
  refine r_istore (ls2 := [some (.ref (a 0)), some (.int (nI 4)), some (.int (nI 0)), some (.int x), some (.int (nI dp)), some (.int (nI 4)), some (.int (nI 50)), some (.int (nI 1)), none]) 68 rfl d_Act_run_66 (by decide) rfl rfl ?_
  refine r_iload rfl 70 rfl d_Act_run_68 ?_
  refine r_iconst (nI 1) rfl 71 rfl d_Act_run_70 ?_
  refine r_iadd 72 rfl d_Act_run_71 ?_
  refine r_topi (nI (dp + 1)) (nI_add _ _) ?_
  refine r_istore (ls2 := [some (.ref (a 0)), some (.int (nI 4)), some (.int (nI 0)), some (.int x), some (.int (nI dp)), some (.int (nI 4)), some (.int (nI 50)), some (.int (nI 1)), some (.int (nI (dp + 1)))]) 74 rfl d_Act_run_72 (by decide) rfl rfl ?_
  refine r_iload rfl 76 rfl d_Act_run_74 ?_
  refine r_lookup (off := 191) 267 d_Act_run_76 (by decide) (by rfl) rfl ?_
  refine r_aload_n rfl 268 rfl d_Act_run_267 ?_
  refine r_iload rfl 270 rfl d_Act_run_268 ?_
  refine r_iconst (nI 0) rfl 271 rfl d_Act_run_270 ?_
  refine r_iload_n rfl 272 rfl d_Act_run_271 ?_
  refine r_iload rfl 274 rfl d_Act_run_272 ?_
  refine r_callVA1 (st2 := [.int ((gr p v 7 1 x (rnT s 50)).1)]) (w2 := AV X a (((gr p v 7 1 x (rnT s 50)).2).1) (((gr p v 7 1 x (rnT s 50)).2).2) p K v) lk_Act_run ln_Act_46 (c_run0_1 X a d p K v x (dp + 1) (rnT s 50) hK6 (show s.1 + 1 < 170000 by omega) (by omega)) (by first | decide | omega) rfl rfl (Nat.le_of_ble_eq_true rfl) (Nat.le_of_ble_eq_true rfl) (Nat.le_of_ble_eq_true rfl) 0 rfl rfl AV_f rfl 277 rfl d_Act_run_274 ?_
  refine r_ineg 278 rfl d_Act_run_277 ?_
  exact r_iret rfl (Nat.zero_le _) (Nat.zero_le _) d_Act_run_278 (by rw [← hQ]; rw [g_0_4]; exact ⟨rfl, rfl⟩)
theorem c_run0_6 (X : Xn) (a : Nat → Nat) (d p K : Nat) (v : Int32) (x : Int32) (dp : Nat) (s : Trc) (hK6 : K ≤ 6) (hr : s.1 < 160000) (hdp : dp ≤ 26) : Does X (d + 4) M_Act_run [.ref (a 0), .int (nI 6), .int (nI 0), .int x, .int (nI dp)] (AV X a s.1 s.2 p K v) 0 0 (fun (vv : Option Value) (ww : va_W) => vv = some (.int (gr p v 7 6 x s).1) ∧ ww = AV X a (((gr p v 7 6 x s).2).1) (((gr p v 7 6 x s).2).2) p K v) := by
  generalize hQ : (fun (vv : Option Value) (ww : va_W) => vv = some (.int (gr p v 7 6 x s).1) ∧ ww = AV X a (((gr p v 7 6 x s).2).1) (((gr p v 7 6 x s).2).2) p K v) = Q
  refine Does.go rfl (Nat.le_of_ble_eq_true rfl) [some (.ref (a 0)), some (.int (nI 6)), some (.int (nI 0)), some (.int x), some (.int (nI dp)), none, none, none, none] 4 rfl ?_
  refine r_iload_n rfl 1 rfl d_Act_run_0 ?_
  refine r_iload_n rfl 2 rfl d_Act_run_1 ?_
  refine r_callS1 (st2 := [.int (nI (own 6 0))]) (w2 := AV X a s.1 s.2 p K v) lk_Act_ownerOf ln_Act_25 (c_Act_ownerOf X 6 0 (by omega) (by omega)) (by first | decide | omega) rfl rfl (Nat.le_of_ble_eq_true rfl) (Nat.le_of_ble_eq_true rfl) (Nat.le_of_ble_eq_true rfl) [] rfl rfl rfl rfl rfl 5 rfl d_Act_run_2 ?_
  refine r_topi (nI (6)) (by decide +kernel) ?_
  refine r_istore (ls2 := [some (.ref (a 0)), some (.int (nI 6)), some (.int (nI 0)), some (.int x), some (.int (nI dp)), some (.int (nI 6)), none, none, none]) 7 rfl d_Act_run_5 (by decide) rfl rfl ?_
  refine r_iload rfl 9 rfl d_Act_run_7 ?_
  refine r_if_ltN_f 6 (by omega) 12 rfl 19 rfl d_Act_run_9 (by omega) ?_
  refine r_iload rfl 14 rfl d_Act_run_12 ?_
  refine r_bipush (nI 40) rfl 16 rfl d_Act_run_14 ?_
  refine r_icmp_ltN_t dp 40 (by omega) (by omega) 21 rfl d_Act_run_16 (by omega) ?_
  refine r_getsN (v := .ref (X.2.2.2 1)) (fun A U H h => h.2.2.1) (inNW 788 (by decide +kernel) rfl) 24 rfl d_Act_run_21 ?_
  refine r_iload rfl 26 rfl d_Act_run_24 ?_
  refine r_iconst (nI 3) rfl 27 rfl d_Act_run_26 ?_
  refine r_imul 28 rfl d_Act_run_27 ?_
  refine r_topi (nI (6 * 3)) (pk_mul _ _) ?_
  refine r_iload_n rfl 29 rfl d_Act_run_28 ?_
  refine r_iadd 30 rfl d_Act_run_29 ?_
  refine r_topi (nI ((6 * 3) + 0)) (nI_add _ _) ?_
  refine r_callSn1 (st2 := [.int (bodyV.getD ((6 * 3) + 0) 0)]) (w2 := AV X a s.1 s.2 p K v) lk_HB_at ln_Act_32 (c_atB X ((6 * 3) + 0) (by omega)) (by first | decide | omega) rfl rfl (Nat.le_of_ble_eq_true rfl) (Nat.le_of_ble_eq_true rfl) (Nat.le_of_ble_eq_true rfl) [] rfl rfl rfl rfl rfl 33 rfl d_Act_run_30 ?_
  refine r_topi (nI (71)) (by decide +kernel) ?_
  refine r_istore (ls2 := [some (.ref (a 0)), some (.int (nI 6)), some (.int (nI 0)), some (.int x), some (.int (nI dp)), some (.int (nI 6)), some (.int (nI 71)), none, none]) 35 rfl d_Act_run_33 (by decide) rfl rfl ?_
  refine r_aload_n rfl 36 rfl d_Act_run_35 ?_
  refine r_getf (v := .ref (a 1)) gf_Act_9 0 rfl rfl 39 rfl d_Act_run_36 ?_
  refine r_aload_n rfl 40 rfl d_Act_run_39 ?_
  refine r_getf (v := .int (nI s.1)) gf_Act_36 0 rfl rfl 43 rfl d_Act_run_40 ?_
  refine r_iload rfl 45 rfl d_Act_run_43 ?_
  refine r_callSn1 (st2 := []) (w2 := AV X a s.1 (if s.1 < 20 then upd s.2 s.1 (nI 71) else s.2) p K v) lk_HB_put ln_Act_39 (c_putX X _ s.1 (nI 71) s.2 (by omega)) (by first | decide | omega) rfl rfl (Nat.le_of_ble_eq_true rfl) (Nat.le_of_ble_eq_true rfl) (Nat.le_of_ble_eq_true rfl) [1] rfl rfl rfl rfl rfl 48 rfl d_Act_run_45 ?_
  refine r_aload_n rfl 49 rfl d_Act_run_48 ?_
  refine r_dup rfl 50 rfl d_Act_run_49 ?_
  refine r_getf (v := .int (nI s.1)) gf_Act_36 0 rfl rfl 53 rfl d_Act_run_50 ?_
  refine r_iconst (nI 1) rfl 54 rfl d_Act_run_53 ?_
  refine r_iadd 55 rfl d_Act_run_54 ?_
  refine r_topi (nI (s.1 + 1)) (nI_add _ _) ?_
  refine r_putf (w2 := AV X a (s.1 + 1) (if s.1 < 20 then upd s.2 s.1 (nI 71) else s.2) p K v) pf_Act_36 0 rfl (rfl) rfl (Nat.le_of_ble_eq_true rfl) rfl 58 rfl d_Act_run_55 ?_
  refine Runs.cast (w' := AV X a ((rnT s 71).1) ((rnT s 71).2) p K v) ?_ rfl rfl rfl
  refine r_getsN (v := .ref (X.2.2.2 0)) (fun A U H h => h.1) (inNW 791 (by decide +kernel) rfl) 61 rfl d_Act_run_58 ?_
  refine r_iload rfl 63 rfl d_Act_run_61 ?_
  refine r_callSn1 (st2 := [.int (aboveV.getD 6 0)]) (w2 := AV X a ((rnT s 71).1) ((rnT s 71).2) p K v) lk_HB_at ln_Act_32 (c_atA X 6 (by omega)) (by first | decide | omega) rfl rfl (Nat.le_of_ble_eq_true rfl) (Nat.le_of_ble_eq_true rfl) (Nat.le_of_ble_eq_true rfl) [] rfl rfl rfl rfl rfl 66 rfl d_Act_run_63 ?_
  refine r_topi (nI (3)) (by decide +kernel) ?_
  refine r_istore (ls2 := [some (.ref (a 0)), some (.int (nI 6)), some (.int (nI 0)), some (.int x), some (.int (nI dp)), some (.int (nI 6)), some (.int (nI 71)), some (.int (nI 3)), none]) 68 rfl d_Act_run_66 (by decide) rfl rfl ?_
  refine r_iload rfl 70 rfl d_Act_run_68 ?_
  refine r_iconst (nI 1) rfl 71 rfl d_Act_run_70 ?_
  refine r_iadd 72 rfl d_Act_run_71 ?_
  refine r_topi (nI (dp + 1)) (nI_add _ _) ?_
  refine r_istore (ls2 := [some (.ref (a 0)), some (.int (nI 6)), some (.int (nI 0)), some (.int x), some (.int (nI dp)), some (.int (nI 6)), some (.int (nI 71)), some (.int (nI 3)), some (.int (nI (dp + 1)))]) 74 rfl d_Act_run_72 (by decide) rfl rfl ?_
  refine r_iload rfl 76 rfl d_Act_run_74 ?_
  refine r_lookup (off := 254) 330 d_Act_run_76 (by decide) (by rfl) rfl ?_
  refine r_aload_n rfl 331 rfl d_Act_run_330 ?_
  refine r_iload rfl 333 rfl d_Act_run_331 ?_
  refine r_iconst (nI 0) rfl 334 rfl d_Act_run_333 ?_
  refine r_iload_n rfl 335 rfl d_Act_run_334 ?_
  refine r_iload rfl 337 rfl d_Act_run_335 ?_
  refine r_callVA1 (st2 := [.int ((gr p v 7 3 x (rnT s 71)).1)]) (w2 := AV X a (((gr p v 7 3 x (rnT s 71)).2).1) (((gr p v 7 3 x (rnT s 71)).2).2) p K v) lk_Act_run ln_Act_46 (c_run0_3 X a d p K v x (dp + 1) (rnT s 71) hK6 (show s.1 + 1 < 170000 by omega) (by omega)) (by first | decide | omega) rfl rfl (Nat.le_of_ble_eq_true rfl) (Nat.le_of_ble_eq_true rfl) (Nat.le_of_ble_eq_true rfl) 0 rfl rfl AV_f rfl 340 rfl d_Act_run_337 ?_
  refine r_aload_n rfl 341 rfl d_Act_run_340 ?_
  refine r_getf (v := .int v) gf_Act_22 0 rfl rfl 344 rfl d_Act_run_341 ?_
  refine r_ixor 345 rfl d_Act_run_344 ?_
  exact r_iret rfl (Nat.zero_le _) (Nat.zero_le _) d_Act_run_345 (by rw [← hQ]; rw [g_0_6]; exact ⟨rfl, rfl⟩)
theorem c_run0 (X : Xn) (a : Nat → Nat) (d p K : Nat) (v : Int32) (x : Int32) (dp : Nat) (s : Trc) (hK6 : K ≤ 6) (hr : s.1 < 160000) (hdp : dp ≤ 26) : Does X (d + 4) M_Act_run [.ref (a 0), .int (nI K), .int (nI 0), .int x, .int (nI dp)] (AV X a s.1 s.2 p K v) 0 0 (fun (vv : Option Value) (ww : va_W) => vv = some (.int (gr p v 7 K x s).1) ∧ ww = AV X a (((gr p v 7 K x s).2).1) (((gr p v 7 K x s).2).2) p K v) := by
  rcases (show K = 0 ∨ K = 1 ∨ K = 2 ∨ K = 3 ∨ K = 4 ∨ K = 5 ∨ K = 6 by omega) with rfl | rfl | rfl | rfl | rfl | rfl | rfl
  · exact c_run0_0 X a (d + 1) p 0 v x dp s hK6 (by omega) (by omega)
  · exact c_run0_1 X a (d + 1) p 1 v x dp s hK6 (by omega) (by omega)
  · exact c_run0_2 X a d p 2 v x dp s hK6 (by omega) (by omega)
  · exact c_run0_3 X a (d + 1) p 3 v x dp s hK6 (by omega) (by omega)
  · exact c_run0_4 X a d p 4 v x dp s hK6 (by omega) (by omega)
  · exact c_run0_5 X a d p 5 v x dp s hK6 (by omega) (by omega)
  · exact c_run0_6 X a d p 6 v x dp s hK6 (by omega) (by omega)
theorem c_run1_0 (X : Xn) (a : Nat → Nat) (d p K : Nat) (v : Int32) (x : Int32) (dp : Nat) (s : Trc) (hK6 : K ≤ 6) (hr : s.1 < 150000) (hdp : dp ≤ 25) : Does X (d + 5) M_Act_run [.ref (a 0), .int (nI 0), .int (nI 1), .int x, .int (nI dp)] (AV X a s.1 s.2 p K v) 0 0 (fun (vv : Option Value) (ww : va_W) => vv = some (.int (le p K v 7 0 x s).1) ∧ ww = AV X a (((le p K v 7 0 x s).2).1) (((le p K v 7 0 x s).2).2) p K v) := by
  generalize hQ : (fun (vv : Option Value) (ww : va_W) => vv = some (.int (le p K v 7 0 x s).1) ∧ ww = AV X a (((le p K v 7 0 x s).2).1) (((le p K v 7 0 x s).2).2) p K v) = Q
  refine Does.go rfl (Nat.le_of_ble_eq_true rfl) [some (.ref (a 0)), some (.int (nI 0)), some (.int (nI 1)), some (.int x), some (.int (nI dp)), none, none, none, none] 4 rfl ?_
  refine r_iload_n rfl 1 rfl d_Act_run_0 ?_
  refine r_iload_n rfl 2 rfl d_Act_run_1 ?_
  refine r_callS1 (st2 := [.int (nI (own 0 1))]) (w2 := AV X a s.1 s.2 p K v) lk_Act_ownerOf ln_Act_25 (c_Act_ownerOf X 0 1 (by omega) (by omega)) (by first | decide | omega) rfl rfl (Nat.le_of_ble_eq_true rfl) (Nat.le_of_ble_eq_true rfl) (Nat.le_of_ble_eq_true rfl) [] rfl rfl rfl rfl rfl 5 rfl d_Act_run_2 ?_
  refine r_topi (nI (0)) (by decide +kernel) ?_
  refine r_istore (ls2 := [some (.ref (a 0)), some (.int (nI 0)), some (.int (nI 1)), some (.int x), some (.int (nI dp)), some (.int (nI 0)), none, none, none]) 7 rfl d_Act_run_5 (by decide) rfl rfl ?_
  refine r_iload rfl 9 rfl d_Act_run_7 ?_
  refine r_if_ltN_f 0 (by omega) 12 rfl 19 rfl d_Act_run_9 (by omega) ?_
  refine r_iload rfl 14 rfl d_Act_run_12 ?_
  refine r_bipush (nI 40) rfl 16 rfl d_Act_run_14 ?_
  refine r_icmp_ltN_t dp 40 (by omega) (by omega) 21 rfl d_Act_run_16 (by omega) ?_
  refine r_getsN (v := .ref (X.2.2.2 1)) (fun A U H h => h.2.2.1) (inNW 788 (by decide +kernel) rfl) 24 rfl d_Act_run_21 ?_
  refine r_iload rfl 26 rfl d_Act_run_24 ?_
  refine r_iconst (nI 3) rfl 27 rfl d_Act_run_26 ?_
  refine r_imul 28 rfl d_Act_run_27 ?_
  refine r_topi (nI (0 * 3)) (pk_mul _ _) ?_
  refine r_iload_n rfl 29 rfl d_Act_run_28 ?_
  refine r_iadd 30 rfl d_Act_run_29 ?_
  refine r_topi (nI ((0 * 3) + 1)) (nI_add _ _) ?_
  refine r_callSn1 (st2 := [.int (bodyV.getD ((0 * 3) + 1) 0)]) (w2 := AV X a s.1 s.2 p K v) lk_HB_at ln_Act_32 (c_atB X ((0 * 3) + 1) (by omega)) (by first | decide | omega) rfl rfl (Nat.le_of_ble_eq_true rfl) (Nat.le_of_ble_eq_true rfl) (Nat.le_of_ble_eq_true rfl) [] rfl rfl rfl rfl rfl 33 rfl d_Act_run_30 ?_
  refine r_topi (nI (11)) (by decide +kernel) ?_
  refine r_istore (ls2 := [some (.ref (a 0)), some (.int (nI 0)), some (.int (nI 1)), some (.int x), some (.int (nI dp)), some (.int (nI 0)), some (.int (nI 11)), none, none]) 35 rfl d_Act_run_33 (by decide) rfl rfl ?_
  refine r_aload_n rfl 36 rfl d_Act_run_35 ?_
  refine r_getf (v := .ref (a 1)) gf_Act_9 0 rfl rfl 39 rfl d_Act_run_36 ?_
  refine r_aload_n rfl 40 rfl d_Act_run_39 ?_
  refine r_getf (v := .int (nI s.1)) gf_Act_36 0 rfl rfl 43 rfl d_Act_run_40 ?_
  refine r_iload rfl 45 rfl d_Act_run_43 ?_
  refine r_callSn1 (st2 := []) (w2 := AV X a s.1 (if s.1 < 20 then upd s.2 s.1 (nI 11) else s.2) p K v) lk_HB_put ln_Act_39 (c_putX X _ s.1 (nI 11) s.2 (by omega)) (by first | decide | omega) rfl rfl (Nat.le_of_ble_eq_true rfl) (Nat.le_of_ble_eq_true rfl) (Nat.le_of_ble_eq_true rfl) [1] rfl rfl rfl rfl rfl 48 rfl d_Act_run_45 ?_
  refine r_aload_n rfl 49 rfl d_Act_run_48 ?_
  refine r_dup rfl 50 rfl d_Act_run_49 ?_
  refine r_getf (v := .int (nI s.1)) gf_Act_36 0 rfl rfl 53 rfl d_Act_run_50 ?_
  refine r_iconst (nI 1) rfl 54 rfl d_Act_run_53 ?_
  refine r_iadd 55 rfl d_Act_run_54 ?_
  refine r_topi (nI (s.1 + 1)) (nI_add _ _) ?_
  refine r_putf (w2 := AV X a (s.1 + 1) (if s.1 < 20 then upd s.2 s.1 (nI 11) else s.2) p K v) pf_Act_36 0 rfl (rfl) rfl (Nat.le_of_ble_eq_true rfl) rfl 58 rfl d_Act_run_55 ?_
  refine Runs.cast (w' := AV X a ((rnT s 11).1) ((rnT s 11).2) p K v) ?_ rfl rfl rfl
  refine r_getsN (v := .ref (X.2.2.2 0)) (fun A U H h => h.1) (inNW 791 (by decide +kernel) rfl) 61 rfl d_Act_run_58 ?_
  refine r_iload rfl 63 rfl d_Act_run_61 ?_
  refine r_callSn1 (st2 := [.int (aboveV.getD 0 0)]) (w2 := AV X a ((rnT s 11).1) ((rnT s 11).2) p K v) lk_HB_at ln_Act_32 (c_atA X 0 (by omega)) (by first | decide | omega) rfl rfl (Nat.le_of_ble_eq_true rfl) (Nat.le_of_ble_eq_true rfl) (Nat.le_of_ble_eq_true rfl) [] rfl rfl rfl rfl rfl 66 rfl d_Act_run_63 ?_
  refine r_topi ((-1)) (by decide +kernel) ?_
  refine r_istore (ls2 := [some (.ref (a 0)), some (.int (nI 0)), some (.int (nI 1)), some (.int x), some (.int (nI dp)), some (.int (nI 0)), some (.int (nI 11)), some (.int (-1)), none]) 68 rfl d_Act_run_66 (by decide) rfl rfl ?_
  refine r_iload rfl 70 rfl d_Act_run_68 ?_
  refine r_iconst (nI 1) rfl 71 rfl d_Act_run_70 ?_
  refine r_iadd 72 rfl d_Act_run_71 ?_
  refine r_topi (nI (dp + 1)) (nI_add _ _) ?_
  refine r_istore (ls2 := [some (.ref (a 0)), some (.int (nI 0)), some (.int (nI 1)), some (.int x), some (.int (nI dp)), some (.int (nI 0)), some (.int (nI 11)), some (.int (-1)), some (.int (nI (dp + 1)))]) 74 rfl d_Act_run_72 (by decide) rfl rfl ?_
  refine r_iload rfl 76 rfl d_Act_run_74 ?_
  refine r_lookup (off := 107) 183 d_Act_run_76 (by decide) (by rfl) rfl ?_
  refine r_aload_n rfl 184 rfl d_Act_run_183 ?_
  refine r_aload_n rfl 185 rfl d_Act_run_184 ?_
  refine r_getf (v := .int (nI K)) gf_Act_19 0 rfl rfl 188 rfl d_Act_run_185 ?_
  refine r_iconst (nI 0) rfl 189 rfl d_Act_run_188 ?_
  refine r_iload_n rfl 190 rfl d_Act_run_189 ?_
  refine r_iload rfl 192 rfl d_Act_run_190 ?_
  refine r_callVA1 (st2 := [.int ((gr p v 7 K x (rnT s 11)).1)]) (w2 := AV X a (((gr p v 7 K x (rnT s 11)).2).1) (((gr p v 7 K x (rnT s 11)).2).2) p K v) lk_Act_run ln_Act_46 (c_run0 X a d p K v x (dp + 1) (rnT s 11) hK6 (show s.1 + 1 < 160000 by omega) (by omega)) (by first | decide | omega) rfl rfl (Nat.le_of_ble_eq_true rfl) (Nat.le_of_ble_eq_true rfl) (Nat.le_of_ble_eq_true rfl) 0 rfl rfl AV_f rfl 195 rfl d_Act_run_192 ?_
  refine r_aload_n rfl 196 rfl d_Act_run_195 ?_
  refine r_getf (v := .int v) gf_Act_22 0 rfl rfl 199 rfl d_Act_run_196 ?_
  refine r_isub 200 rfl d_Act_run_199 ?_
  exact r_iret rfl (Nat.zero_le _) (Nat.zero_le _) d_Act_run_200 (by rw [← hQ]; rw [g_1_0]; exact ⟨rfl, rfl⟩)
theorem c_run1_2 (X : Xn) (a : Nat → Nat) (d p K : Nat) (v : Int32) (x : Int32) (dp : Nat) (s : Trc) (hK6 : K ≤ 6) (hr : s.1 < 150000) (hdp : dp ≤ 25) : Does X (d + 5) M_Act_run [.ref (a 0), .int (nI 2), .int (nI 1), .int x, .int (nI dp)] (AV X a s.1 s.2 p K v) 0 0 (fun (vv : Option Value) (ww : va_W) => vv = some (.int (le p K v 7 2 x s).1) ∧ ww = AV X a (((le p K v 7 2 x s).2).1) (((le p K v 7 2 x s).2).2) p K v) := by
  generalize hQ : (fun (vv : Option Value) (ww : va_W) => vv = some (.int (le p K v 7 2 x s).1) ∧ ww = AV X a (((le p K v 7 2 x s).2).1) (((le p K v 7 2 x s).2).2) p K v) = Q
  refine Does.go rfl (Nat.le_of_ble_eq_true rfl) [some (.ref (a 0)), some (.int (nI 2)), some (.int (nI 1)), some (.int x), some (.int (nI dp)), none, none, none, none] 4 rfl ?_
  refine r_iload_n rfl 1 rfl d_Act_run_0 ?_
  refine r_iload_n rfl 2 rfl d_Act_run_1 ?_
  refine r_callS1 (st2 := [.int (nI (own 2 1))]) (w2 := AV X a s.1 s.2 p K v) lk_Act_ownerOf ln_Act_25 (c_Act_ownerOf X 2 1 (by omega) (by omega)) (by first | decide | omega) rfl rfl (Nat.le_of_ble_eq_true rfl) (Nat.le_of_ble_eq_true rfl) (Nat.le_of_ble_eq_true rfl) [] rfl rfl rfl rfl rfl 5 rfl d_Act_run_2 ?_
  refine r_topi (nI (0)) (by decide +kernel) ?_
  refine r_istore (ls2 := [some (.ref (a 0)), some (.int (nI 2)), some (.int (nI 1)), some (.int x), some (.int (nI dp)), some (.int (nI 0)), none, none, none]) 7 rfl d_Act_run_5 (by decide) rfl rfl ?_
  refine r_iload rfl 9 rfl d_Act_run_7 ?_
  refine r_if_ltN_f 0 (by omega) 12 rfl 19 rfl d_Act_run_9 (by omega) ?_
  refine r_iload rfl 14 rfl d_Act_run_12 ?_
  refine r_bipush (nI 40) rfl 16 rfl d_Act_run_14 ?_
  refine r_icmp_ltN_t dp 40 (by omega) (by omega) 21 rfl d_Act_run_16 (by omega) ?_
  refine r_getsN (v := .ref (X.2.2.2 1)) (fun A U H h => h.2.2.1) (inNW 788 (by decide +kernel) rfl) 24 rfl d_Act_run_21 ?_
  refine r_iload rfl 26 rfl d_Act_run_24 ?_
  refine r_iconst (nI 3) rfl 27 rfl d_Act_run_26 ?_
  refine r_imul 28 rfl d_Act_run_27 ?_
  refine r_topi (nI (0 * 3)) (pk_mul _ _) ?_
  refine r_iload_n rfl 29 rfl d_Act_run_28 ?_
  refine r_iadd 30 rfl d_Act_run_29 ?_
  refine r_topi (nI ((0 * 3) + 1)) (nI_add _ _) ?_
  refine r_callSn1 (st2 := [.int (bodyV.getD ((0 * 3) + 1) 0)]) (w2 := AV X a s.1 s.2 p K v) lk_HB_at ln_Act_32 (c_atB X ((0 * 3) + 1) (by omega)) (by first | decide | omega) rfl rfl (Nat.le_of_ble_eq_true rfl) (Nat.le_of_ble_eq_true rfl) (Nat.le_of_ble_eq_true rfl) [] rfl rfl rfl rfl rfl 33 rfl d_Act_run_30 ?_
  refine r_topi (nI (11)) (by decide +kernel) ?_
  refine r_istore (ls2 := [some (.ref (a 0)), some (.int (nI 2)), some (.int (nI 1)), some (.int x), some (.int (nI dp)), some (.int (nI 0)), some (.int (nI 11)), none, none]) 35 rfl d_Act_run_33 (by decide) rfl rfl ?_
  refine r_aload_n rfl 36 rfl d_Act_run_35 ?_
  refine r_getf (v := .ref (a 1)) gf_Act_9 0 rfl rfl 39 rfl d_Act_run_36 ?_
  refine r_aload_n rfl 40 rfl d_Act_run_39 ?_
  refine r_getf (v := .int (nI s.1)) gf_Act_36 0 rfl rfl 43 rfl d_Act_run_40 ?_
  refine r_iload rfl 45 rfl d_Act_run_43 ?_
  refine r_callSn1 (st2 := []) (w2 := AV X a s.1 (if s.1 < 20 then upd s.2 s.1 (nI 11) else s.2) p K v) lk_HB_put ln_Act_39 (c_putX X _ s.1 (nI 11) s.2 (by omega)) (by first | decide | omega) rfl rfl (Nat.le_of_ble_eq_true rfl) (Nat.le_of_ble_eq_true rfl) (Nat.le_of_ble_eq_true rfl) [1] rfl rfl rfl rfl rfl 48 rfl d_Act_run_45 ?_
  refine r_aload_n rfl 49 rfl d_Act_run_48 ?_
  refine r_dup rfl 50 rfl d_Act_run_49 ?_
  refine r_getf (v := .int (nI s.1)) gf_Act_36 0 rfl rfl 53 rfl d_Act_run_50 ?_
  refine r_iconst (nI 1) rfl 54 rfl d_Act_run_53 ?_
  refine r_iadd 55 rfl d_Act_run_54 ?_
  refine r_topi (nI (s.1 + 1)) (nI_add _ _) ?_
  refine r_putf (w2 := AV X a (s.1 + 1) (if s.1 < 20 then upd s.2 s.1 (nI 11) else s.2) p K v) pf_Act_36 0 rfl (rfl) rfl (Nat.le_of_ble_eq_true rfl) rfl 58 rfl d_Act_run_55 ?_
  refine Runs.cast (w' := AV X a ((rnT s 11).1) ((rnT s 11).2) p K v) ?_ rfl rfl rfl
  refine r_getsN (v := .ref (X.2.2.2 0)) (fun A U H h => h.1) (inNW 791 (by decide +kernel) rfl) 61 rfl d_Act_run_58 ?_
  refine r_iload rfl 63 rfl d_Act_run_61 ?_
  refine r_callSn1 (st2 := [.int (aboveV.getD 0 0)]) (w2 := AV X a ((rnT s 11).1) ((rnT s 11).2) p K v) lk_HB_at ln_Act_32 (c_atA X 0 (by omega)) (by first | decide | omega) rfl rfl (Nat.le_of_ble_eq_true rfl) (Nat.le_of_ble_eq_true rfl) (Nat.le_of_ble_eq_true rfl) [] rfl rfl rfl rfl rfl 66 rfl d_Act_run_63 ?_
  refine r_topi ((-1)) (by decide +kernel) ?_
  refine r_istore (ls2 := [some (.ref (a 0)), some (.int (nI 2)), some (.int (nI 1)), some (.int x), some (.int (nI dp)), some (.int (nI 0)), some (.int (nI 11)), some (.int (-1)), none]) 68 rfl d_Act_run_66 (by decide) rfl rfl ?_
  refine r_iload rfl 70 rfl d_Act_run_68 ?_
  refine r_iconst (nI 1) rfl 71 rfl d_Act_run_70 ?_
  refine r_iadd 72 rfl d_Act_run_71 ?_
  refine r_topi (nI (dp + 1)) (nI_add _ _) ?_
  refine r_istore (ls2 := [some (.ref (a 0)), some (.int (nI 2)), some (.int (nI 1)), some (.int x), some (.int (nI dp)), some (.int (nI 0)), some (.int (nI 11)), some (.int (-1)), some (.int (nI (dp + 1)))]) 74 rfl d_Act_run_72 (by decide) rfl rfl ?_
  refine r_iload rfl 76 rfl d_Act_run_74 ?_
  refine r_lookup (off := 107) 183 d_Act_run_76 (by decide) (by rfl) rfl ?_
  refine r_aload_n rfl 184 rfl d_Act_run_183 ?_
  refine r_aload_n rfl 185 rfl d_Act_run_184 ?_
  refine r_getf (v := .int (nI K)) gf_Act_19 0 rfl rfl 188 rfl d_Act_run_185 ?_
  refine r_iconst (nI 0) rfl 189 rfl d_Act_run_188 ?_
  refine r_iload_n rfl 190 rfl d_Act_run_189 ?_
  refine r_iload rfl 192 rfl d_Act_run_190 ?_
  refine r_callVA1 (st2 := [.int ((gr p v 7 K x (rnT s 11)).1)]) (w2 := AV X a (((gr p v 7 K x (rnT s 11)).2).1) (((gr p v 7 K x (rnT s 11)).2).2) p K v) lk_Act_run ln_Act_46 (c_run0 X a d p K v x (dp + 1) (rnT s 11) hK6 (show s.1 + 1 < 160000 by omega) (by omega)) (by first | decide | omega) rfl rfl (Nat.le_of_ble_eq_true rfl) (Nat.le_of_ble_eq_true rfl) (Nat.le_of_ble_eq_true rfl) 0 rfl rfl AV_f rfl 195 rfl d_Act_run_192 ?_
  refine r_aload_n rfl 196 rfl d_Act_run_195 ?_
  refine r_getf (v := .int v) gf_Act_22 0 rfl rfl 199 rfl d_Act_run_196 ?_
  refine r_isub 200 rfl d_Act_run_199 ?_
  exact r_iret rfl (Nat.zero_le _) (Nat.zero_le _) d_Act_run_200 (by rw [← hQ]; rw [g_1_2]; exact ⟨rfl, rfl⟩)
theorem c_run1_3 (X : Xn) (a : Nat → Nat) (d p K : Nat) (v : Int32) (x : Int32) (dp : Nat) (s : Trc) (hK6 : K ≤ 6) (hr : s.1 < 150000) (hdp : dp ≤ 25) : Does X (d + 5) M_Act_run [.ref (a 0), .int (nI 3), .int (nI 1), .int x, .int (nI dp)] (AV X a s.1 s.2 p K v) 0 0 (fun (vv : Option Value) (ww : va_W) => vv = some (.int (le p K v 7 3 x s).1) ∧ ww = AV X a (((le p K v 7 3 x s).2).1) (((le p K v 7 3 x s).2).2) p K v) := by
  generalize hQ : (fun (vv : Option Value) (ww : va_W) => vv = some (.int (le p K v 7 3 x s).1) ∧ ww = AV X a (((le p K v 7 3 x s).2).1) (((le p K v 7 3 x s).2).2) p K v) = Q
  refine Does.go rfl (Nat.le_of_ble_eq_true rfl) [some (.ref (a 0)), some (.int (nI 3)), some (.int (nI 1)), some (.int x), some (.int (nI dp)), none, none, none, none] 4 rfl ?_
  refine r_iload_n rfl 1 rfl d_Act_run_0 ?_
  refine r_iload_n rfl 2 rfl d_Act_run_1 ?_
  refine r_callS1 (st2 := [.int (nI (own 3 1))]) (w2 := AV X a s.1 s.2 p K v) lk_Act_ownerOf ln_Act_25 (c_Act_ownerOf X 3 1 (by omega) (by omega)) (by first | decide | omega) rfl rfl (Nat.le_of_ble_eq_true rfl) (Nat.le_of_ble_eq_true rfl) (Nat.le_of_ble_eq_true rfl) [] rfl rfl rfl rfl rfl 5 rfl d_Act_run_2 ?_
  refine r_topi (nI (0)) (by decide +kernel) ?_
  refine r_istore (ls2 := [some (.ref (a 0)), some (.int (nI 3)), some (.int (nI 1)), some (.int x), some (.int (nI dp)), some (.int (nI 0)), none, none, none]) 7 rfl d_Act_run_5 (by decide) rfl rfl ?_
  refine r_iload rfl 9 rfl d_Act_run_7 ?_
  refine r_if_ltN_f 0 (by omega) 12 rfl 19 rfl d_Act_run_9 (by omega) ?_
  refine r_iload rfl 14 rfl d_Act_run_12 ?_
  refine r_bipush (nI 40) rfl 16 rfl d_Act_run_14 ?_
  refine r_icmp_ltN_t dp 40 (by omega) (by omega) 21 rfl d_Act_run_16 (by omega) ?_
  refine r_getsN (v := .ref (X.2.2.2 1)) (fun A U H h => h.2.2.1) (inNW 788 (by decide +kernel) rfl) 24 rfl d_Act_run_21 ?_
  refine r_iload rfl 26 rfl d_Act_run_24 ?_
  refine r_iconst (nI 3) rfl 27 rfl d_Act_run_26 ?_
  refine r_imul 28 rfl d_Act_run_27 ?_
  refine r_topi (nI (0 * 3)) (pk_mul _ _) ?_
  refine r_iload_n rfl 29 rfl d_Act_run_28 ?_
  refine r_iadd 30 rfl d_Act_run_29 ?_
  refine r_topi (nI ((0 * 3) + 1)) (nI_add _ _) ?_
  refine r_callSn1 (st2 := [.int (bodyV.getD ((0 * 3) + 1) 0)]) (w2 := AV X a s.1 s.2 p K v) lk_HB_at ln_Act_32 (c_atB X ((0 * 3) + 1) (by omega)) (by first | decide | omega) rfl rfl (Nat.le_of_ble_eq_true rfl) (Nat.le_of_ble_eq_true rfl) (Nat.le_of_ble_eq_true rfl) [] rfl rfl rfl rfl rfl 33 rfl d_Act_run_30 ?_
  refine r_topi (nI (11)) (by decide +kernel) ?_
  refine r_istore (ls2 := [some (.ref (a 0)), some (.int (nI 3)), some (.int (nI 1)), some (.int x), some (.int (nI dp)), some (.int (nI 0)), some (.int (nI 11)), none, none]) 35 rfl d_Act_run_33 (by decide) rfl rfl ?_
  refine r_aload_n rfl 36 rfl d_Act_run_35 ?_
  refine r_getf (v := .ref (a 1)) gf_Act_9 0 rfl rfl 39 rfl d_Act_run_36 ?_
  refine r_aload_n rfl 40 rfl d_Act_run_39 ?_
  refine r_getf (v := .int (nI s.1)) gf_Act_36 0 rfl rfl 43 rfl d_Act_run_40 ?_
  refine r_iload rfl 45 rfl d_Act_run_43 ?_
  refine r_callSn1 (st2 := []) (w2 := AV X a s.1 (if s.1 < 20 then upd s.2 s.1 (nI 11) else s.2) p K v) lk_HB_put ln_Act_39 (c_putX X _ s.1 (nI 11) s.2 (by omega)) (by first | decide | omega) rfl rfl (Nat.le_of_ble_eq_true rfl) (Nat.le_of_ble_eq_true rfl) (Nat.le_of_ble_eq_true rfl) [1] rfl rfl rfl rfl rfl 48 rfl d_Act_run_45 ?_
  refine r_aload_n rfl 49 rfl d_Act_run_48 ?_
  refine r_dup rfl 50 rfl d_Act_run_49 ?_
  refine r_getf (v := .int (nI s.1)) gf_Act_36 0 rfl rfl 53 rfl d_Act_run_50 ?_
  refine r_iconst (nI 1) rfl 54 rfl d_Act_run_53 ?_
  refine r_iadd 55 rfl d_Act_run_54 ?_
  refine r_topi (nI (s.1 + 1)) (nI_add _ _) ?_
  refine r_putf (w2 := AV X a (s.1 + 1) (if s.1 < 20 then upd s.2 s.1 (nI 11) else s.2) p K v) pf_Act_36 0 rfl (rfl) rfl (Nat.le_of_ble_eq_true rfl) rfl 58 rfl d_Act_run_55 ?_
  refine Runs.cast (w' := AV X a ((rnT s 11).1) ((rnT s 11).2) p K v) ?_ rfl rfl rfl
  refine r_getsN (v := .ref (X.2.2.2 0)) (fun A U H h => h.1) (inNW 791 (by decide +kernel) rfl) 61 rfl d_Act_run_58 ?_
  refine r_iload rfl 63 rfl d_Act_run_61 ?_
  refine r_callSn1 (st2 := [.int (aboveV.getD 0 0)]) (w2 := AV X a ((rnT s 11).1) ((rnT s 11).2) p K v) lk_HB_at ln_Act_32 (c_atA X 0 (by omega)) (by first | decide | omega) rfl rfl (Nat.le_of_ble_eq_true rfl) (Nat.le_of_ble_eq_true rfl) (Nat.le_of_ble_eq_true rfl) [] rfl rfl rfl rfl rfl 66 rfl d_Act_run_63 ?_
  refine r_topi ((-1)) (by decide +kernel) ?_
  refine r_istore (ls2 := [some (.ref (a 0)), some (.int (nI 3)), some (.int (nI 1)), some (.int x), some (.int (nI dp)), some (.int (nI 0)), some (.int (nI 11)), some (.int (-1)), none]) 68 rfl d_Act_run_66 (by decide) rfl rfl ?_
  refine r_iload rfl 70 rfl d_Act_run_68 ?_
  refine r_iconst (nI 1) rfl 71 rfl d_Act_run_70 ?_
  refine r_iadd 72 rfl d_Act_run_71 ?_
  refine r_topi (nI (dp + 1)) (nI_add _ _) ?_
  refine r_istore (ls2 := [some (.ref (a 0)), some (.int (nI 3)), some (.int (nI 1)), some (.int x), some (.int (nI dp)), some (.int (nI 0)), some (.int (nI 11)), some (.int (-1)), some (.int (nI (dp + 1)))]) 74 rfl d_Act_run_72 (by decide) rfl rfl ?_
  refine r_iload rfl 76 rfl d_Act_run_74 ?_
  refine r_lookup (off := 107) 183 d_Act_run_76 (by decide) (by rfl) rfl ?_
  refine r_aload_n rfl 184 rfl d_Act_run_183 ?_
  refine r_aload_n rfl 185 rfl d_Act_run_184 ?_
  refine r_getf (v := .int (nI K)) gf_Act_19 0 rfl rfl 188 rfl d_Act_run_185 ?_
  refine r_iconst (nI 0) rfl 189 rfl d_Act_run_188 ?_
  refine r_iload_n rfl 190 rfl d_Act_run_189 ?_
  refine r_iload rfl 192 rfl d_Act_run_190 ?_
  refine r_callVA1 (st2 := [.int ((gr p v 7 K x (rnT s 11)).1)]) (w2 := AV X a (((gr p v 7 K x (rnT s 11)).2).1) (((gr p v 7 K x (rnT s 11)).2).2) p K v) lk_Act_run ln_Act_46 (c_run0 X a d p K v x (dp + 1) (rnT s 11) hK6 (show s.1 + 1 < 160000 by omega) (by omega)) (by first | decide | omega) rfl rfl (Nat.le_of_ble_eq_true rfl) (Nat.le_of_ble_eq_true rfl) (Nat.le_of_ble_eq_true rfl) 0 rfl rfl AV_f rfl 195 rfl d_Act_run_192 ?_
  refine r_aload_n rfl 196 rfl d_Act_run_195 ?_
  refine r_getf (v := .int v) gf_Act_22 0 rfl rfl 199 rfl d_Act_run_196 ?_
  refine r_isub 200 rfl d_Act_run_199 ?_
  exact r_iret rfl (Nat.zero_le _) (Nat.zero_le _) d_Act_run_200 (by rw [← hQ]; rw [g_1_3]; exact ⟨rfl, rfl⟩)
theorem c_run1_5 (X : Xn) (a : Nat → Nat) (d p K : Nat) (v : Int32) (x : Int32) (dp : Nat) (s : Trc) (hK6 : K ≤ 6) (hr : s.1 < 150000) (hdp : dp ≤ 25) : Does X (d + 5) M_Act_run [.ref (a 0), .int (nI 5), .int (nI 1), .int x, .int (nI dp)] (AV X a s.1 s.2 p K v) 0 0 (fun (vv : Option Value) (ww : va_W) => vv = some (.int (le p K v 7 5 x s).1) ∧ ww = AV X a (((le p K v 7 5 x s).2).1) (((le p K v 7 5 x s).2).2) p K v) := by
  generalize hQ : (fun (vv : Option Value) (ww : va_W) => vv = some (.int (le p K v 7 5 x s).1) ∧ ww = AV X a (((le p K v 7 5 x s).2).1) (((le p K v 7 5 x s).2).2) p K v) = Q
  refine Does.go rfl (Nat.le_of_ble_eq_true rfl) [some (.ref (a 0)), some (.int (nI 5)), some (.int (nI 1)), some (.int x), some (.int (nI dp)), none, none, none, none] 4 rfl ?_
  refine r_iload_n rfl 1 rfl d_Act_run_0 ?_
  refine r_iload_n rfl 2 rfl d_Act_run_1 ?_
  refine r_callS1 (st2 := [.int (nI (own 5 1))]) (w2 := AV X a s.1 s.2 p K v) lk_Act_ownerOf ln_Act_25 (c_Act_ownerOf X 5 1 (by omega) (by omega)) (by first | decide | omega) rfl rfl (Nat.le_of_ble_eq_true rfl) (Nat.le_of_ble_eq_true rfl) (Nat.le_of_ble_eq_true rfl) [] rfl rfl rfl rfl rfl 5 rfl d_Act_run_2 ?_
  refine r_topi (nI (0)) (by decide +kernel) ?_
  refine r_istore (ls2 := [some (.ref (a 0)), some (.int (nI 5)), some (.int (nI 1)), some (.int x), some (.int (nI dp)), some (.int (nI 0)), none, none, none]) 7 rfl d_Act_run_5 (by decide) rfl rfl ?_
  refine r_iload rfl 9 rfl d_Act_run_7 ?_
  refine r_if_ltN_f 0 (by omega) 12 rfl 19 rfl d_Act_run_9 (by omega) ?_
  refine r_iload rfl 14 rfl d_Act_run_12 ?_
  refine r_bipush (nI 40) rfl 16 rfl d_Act_run_14 ?_
  refine r_icmp_ltN_t dp 40 (by omega) (by omega) 21 rfl d_Act_run_16 (by omega) ?_
  refine r_getsN (v := .ref (X.2.2.2 1)) (fun A U H h => h.2.2.1) (inNW 788 (by decide +kernel) rfl) 24 rfl d_Act_run_21 ?_
  refine r_iload rfl 26 rfl d_Act_run_24 ?_
  refine r_iconst (nI 3) rfl 27 rfl d_Act_run_26 ?_
  refine r_imul 28 rfl d_Act_run_27 ?_
  refine r_topi (nI (0 * 3)) (pk_mul _ _) ?_
  refine r_iload_n rfl 29 rfl d_Act_run_28 ?_
  refine r_iadd 30 rfl d_Act_run_29 ?_
  refine r_topi (nI ((0 * 3) + 1)) (nI_add _ _) ?_
  refine r_callSn1 (st2 := [.int (bodyV.getD ((0 * 3) + 1) 0)]) (w2 := AV X a s.1 s.2 p K v) lk_HB_at ln_Act_32 (c_atB X ((0 * 3) + 1) (by omega)) (by first | decide | omega) rfl rfl (Nat.le_of_ble_eq_true rfl) (Nat.le_of_ble_eq_true rfl) (Nat.le_of_ble_eq_true rfl) [] rfl rfl rfl rfl rfl 33 rfl d_Act_run_30 ?_
  refine r_topi (nI (11)) (by decide +kernel) ?_
  refine r_istore (ls2 := [some (.ref (a 0)), some (.int (nI 5)), some (.int (nI 1)), some (.int x), some (.int (nI dp)), some (.int (nI 0)), some (.int (nI 11)), none, none]) 35 rfl d_Act_run_33 (by decide) rfl rfl ?_
  refine r_aload_n rfl 36 rfl d_Act_run_35 ?_
  refine r_getf (v := .ref (a 1)) gf_Act_9 0 rfl rfl 39 rfl d_Act_run_36 ?_
  refine r_aload_n rfl 40 rfl d_Act_run_39 ?_
  refine r_getf (v := .int (nI s.1)) gf_Act_36 0 rfl rfl 43 rfl d_Act_run_40 ?_
  refine r_iload rfl 45 rfl d_Act_run_43 ?_
  refine r_callSn1 (st2 := []) (w2 := AV X a s.1 (if s.1 < 20 then upd s.2 s.1 (nI 11) else s.2) p K v) lk_HB_put ln_Act_39 (c_putX X _ s.1 (nI 11) s.2 (by omega)) (by first | decide | omega) rfl rfl (Nat.le_of_ble_eq_true rfl) (Nat.le_of_ble_eq_true rfl) (Nat.le_of_ble_eq_true rfl) [1] rfl rfl rfl rfl rfl 48 rfl d_Act_run_45 ?_
  refine r_aload_n rfl 49 rfl d_Act_run_48 ?_
  refine r_dup rfl 50 rfl d_Act_run_49 ?_
  refine r_getf (v := .int (nI s.1)) gf_Act_36 0 rfl rfl 53 rfl d_Act_run_50 ?_
  refine r_iconst (nI 1) rfl 54 rfl d_Act_run_53 ?_
  refine r_iadd 55 rfl d_Act_run_54 ?_
  refine r_topi (nI (s.1 + 1)) (nI_add _ _) ?_
  refine r_putf (w2 := AV X a (s.1 + 1) (if s.1 < 20 then upd s.2 s.1 (nI 11) else s.2) p K v) pf_Act_36 0 rfl (rfl) rfl (Nat.le_of_ble_eq_true rfl) rfl 58 rfl d_Act_run_55 ?_
  refine Runs.cast (w' := AV X a ((rnT s 11).1) ((rnT s 11).2) p K v) ?_ rfl rfl rfl
  refine r_getsN (v := .ref (X.2.2.2 0)) (fun A U H h => h.1) (inNW 791 (by decide +kernel) rfl) 61 rfl d_Act_run_58 ?_
  refine r_iload rfl 63 rfl d_Act_run_61 ?_
  refine r_callSn1 (st2 := [.int (aboveV.getD 0 0)]) (w2 := AV X a ((rnT s 11).1) ((rnT s 11).2) p K v) lk_HB_at ln_Act_32 (c_atA X 0 (by omega)) (by first | decide | omega) rfl rfl (Nat.le_of_ble_eq_true rfl) (Nat.le_of_ble_eq_true rfl) (Nat.le_of_ble_eq_true rfl) [] rfl rfl rfl rfl rfl 66 rfl d_Act_run_63 ?_
  refine r_topi ((-1)) (by decide +kernel) ?_
  refine r_istore (ls2 := [some (.ref (a 0)), some (.int (nI 5)), some (.int (nI 1)), some (.int x), some (.int (nI dp)), some (.int (nI 0)), some (.int (nI 11)), some (.int (-1)), none]) 68 rfl d_Act_run_66 (by decide) rfl rfl ?_
  refine r_iload rfl 70 rfl d_Act_run_68 ?_
  refine r_iconst (nI 1) rfl 71 rfl d_Act_run_70 ?_
  refine r_iadd 72 rfl d_Act_run_71 ?_
  refine r_topi (nI (dp + 1)) (nI_add _ _) ?_
  refine r_istore (ls2 := [some (.ref (a 0)), some (.int (nI 5)), some (.int (nI 1)), some (.int x), some (.int (nI dp)), some (.int (nI 0)), some (.int (nI 11)), some (.int (-1)), some (.int (nI (dp + 1)))]) 74 rfl d_Act_run_72 (by decide) rfl rfl ?_
  refine r_iload rfl 76 rfl d_Act_run_74 ?_
  refine r_lookup (off := 107) 183 d_Act_run_76 (by decide) (by rfl) rfl ?_
  refine r_aload_n rfl 184 rfl d_Act_run_183 ?_
  refine r_aload_n rfl 185 rfl d_Act_run_184 ?_
  refine r_getf (v := .int (nI K)) gf_Act_19 0 rfl rfl 188 rfl d_Act_run_185 ?_
  refine r_iconst (nI 0) rfl 189 rfl d_Act_run_188 ?_
  refine r_iload_n rfl 190 rfl d_Act_run_189 ?_
  refine r_iload rfl 192 rfl d_Act_run_190 ?_
  refine r_callVA1 (st2 := [.int ((gr p v 7 K x (rnT s 11)).1)]) (w2 := AV X a (((gr p v 7 K x (rnT s 11)).2).1) (((gr p v 7 K x (rnT s 11)).2).2) p K v) lk_Act_run ln_Act_46 (c_run0 X a d p K v x (dp + 1) (rnT s 11) hK6 (show s.1 + 1 < 160000 by omega) (by omega)) (by first | decide | omega) rfl rfl (Nat.le_of_ble_eq_true rfl) (Nat.le_of_ble_eq_true rfl) (Nat.le_of_ble_eq_true rfl) 0 rfl rfl AV_f rfl 195 rfl d_Act_run_192 ?_
  refine r_aload_n rfl 196 rfl d_Act_run_195 ?_
  refine r_getf (v := .int v) gf_Act_22 0 rfl rfl 199 rfl d_Act_run_196 ?_
  refine r_isub 200 rfl d_Act_run_199 ?_
  exact r_iret rfl (Nat.zero_le _) (Nat.zero_le _) d_Act_run_200 (by rw [← hQ]; rw [g_1_5]; exact ⟨rfl, rfl⟩)
theorem c_run1_1 (X : Xn) (a : Nat → Nat) (d p K : Nat) (v : Int32) (x : Int32) (dp : Nat) (s : Trc) (hK6 : K ≤ 6) (hr : s.1 < 140000) (hdp : dp ≤ 24) : Does X (d + 6) M_Act_run [.ref (a 0), .int (nI 1), .int (nI 1), .int x, .int (nI dp)] (AV X a s.1 s.2 p K v) 0 0 (fun (vv : Option Value) (ww : va_W) => vv = some (.int (le p K v 7 1 x s).1) ∧ ww = AV X a (((le p K v 7 1 x s).2).1) (((le p K v 7 1 x s).2).2) p K v) := by
  generalize hQ : (fun (vv : Option Value) (ww : va_W) => vv = some (.int (le p K v 7 1 x s).1) ∧ ww = AV X a (((le p K v 7 1 x s).2).1) (((le p K v 7 1 x s).2).2) p K v) = Q
  refine Does.go rfl (Nat.le_of_ble_eq_true rfl) [some (.ref (a 0)), some (.int (nI 1)), some (.int (nI 1)), some (.int x), some (.int (nI dp)), none, none, none, none] 4 rfl ?_
  refine r_iload_n rfl 1 rfl d_Act_run_0 ?_
  refine r_iload_n rfl 2 rfl d_Act_run_1 ?_
  refine r_callS1 (st2 := [.int (nI (own 1 1))]) (w2 := AV X a s.1 s.2 p K v) lk_Act_ownerOf ln_Act_25 (c_Act_ownerOf X 1 1 (by omega) (by omega)) (by first | decide | omega) rfl rfl (Nat.le_of_ble_eq_true rfl) (Nat.le_of_ble_eq_true rfl) (Nat.le_of_ble_eq_true rfl) [] rfl rfl rfl rfl rfl 5 rfl d_Act_run_2 ?_
  refine r_topi (nI (1)) (by decide +kernel) ?_
  refine r_istore (ls2 := [some (.ref (a 0)), some (.int (nI 1)), some (.int (nI 1)), some (.int x), some (.int (nI dp)), some (.int (nI 1)), none, none, none]) 7 rfl d_Act_run_5 (by decide) rfl rfl ?_
  refine r_iload rfl 9 rfl d_Act_run_7 ?_
  refine r_if_ltN_f 1 (by omega) 12 rfl 19 rfl d_Act_run_9 (by omega) ?_
  refine r_iload rfl 14 rfl d_Act_run_12 ?_
  refine r_bipush (nI 40) rfl 16 rfl d_Act_run_14 ?_
  refine r_icmp_ltN_t dp 40 (by omega) (by omega) 21 rfl d_Act_run_16 (by omega) ?_
  refine r_getsN (v := .ref (X.2.2.2 1)) (fun A U H h => h.2.2.1) (inNW 788 (by decide +kernel) rfl) 24 rfl d_Act_run_21 ?_
  refine r_iload rfl 26 rfl d_Act_run_24 ?_
  refine r_iconst (nI 3) rfl 27 rfl d_Act_run_26 ?_
  refine r_imul 28 rfl d_Act_run_27 ?_
  refine r_topi (nI (1 * 3)) (pk_mul _ _) ?_
  refine r_iload_n rfl 29 rfl d_Act_run_28 ?_
  refine r_iadd 30 rfl d_Act_run_29 ?_
  refine r_topi (nI ((1 * 3) + 1)) (nI_add _ _) ?_
  refine r_callSn1 (st2 := [.int (bodyV.getD ((1 * 3) + 1) 0)]) (w2 := AV X a s.1 s.2 p K v) lk_HB_at ln_Act_32 (c_atB X ((1 * 3) + 1) (by omega)) (by first | decide | omega) rfl rfl (Nat.le_of_ble_eq_true rfl) (Nat.le_of_ble_eq_true rfl) (Nat.le_of_ble_eq_true rfl) [] rfl rfl rfl rfl rfl 33 rfl d_Act_run_30 ?_
  refine r_topi (nI (20)) (by decide +kernel) ?_
  refine r_istore (ls2 := [some (.ref (a 0)), some (.int (nI 1)), some (.int (nI 1)), some (.int x), some (.int (nI dp)), some (.int (nI 1)), some (.int (nI 20)), none, none]) 35 rfl d_Act_run_33 (by decide) rfl rfl ?_
  refine r_aload_n rfl 36 rfl d_Act_run_35 ?_
  refine r_getf (v := .ref (a 1)) gf_Act_9 0 rfl rfl 39 rfl d_Act_run_36 ?_
  refine r_aload_n rfl 40 rfl d_Act_run_39 ?_
  refine r_getf (v := .int (nI s.1)) gf_Act_36 0 rfl rfl 43 rfl d_Act_run_40 ?_
  refine r_iload rfl 45 rfl d_Act_run_43 ?_
  refine r_callSn1 (st2 := []) (w2 := AV X a s.1 (if s.1 < 20 then upd s.2 s.1 (nI 20) else s.2) p K v) lk_HB_put ln_Act_39 (c_putX X _ s.1 (nI 20) s.2 (by omega)) (by first | decide | omega) rfl rfl (Nat.le_of_ble_eq_true rfl) (Nat.le_of_ble_eq_true rfl) (Nat.le_of_ble_eq_true rfl) [1] rfl rfl rfl rfl rfl 48 rfl d_Act_run_45 ?_
  refine r_aload_n rfl 49 rfl d_Act_run_48 ?_
  refine r_dup rfl 50 rfl d_Act_run_49 ?_
  refine r_getf (v := .int (nI s.1)) gf_Act_36 0 rfl rfl 53 rfl d_Act_run_50 ?_
  refine r_iconst (nI 1) rfl 54 rfl d_Act_run_53 ?_
  refine r_iadd 55 rfl d_Act_run_54 ?_
  refine r_topi (nI (s.1 + 1)) (nI_add _ _) ?_
  refine r_putf (w2 := AV X a (s.1 + 1) (if s.1 < 20 then upd s.2 s.1 (nI 20) else s.2) p K v) pf_Act_36 0 rfl (rfl) rfl (Nat.le_of_ble_eq_true rfl) rfl 58 rfl d_Act_run_55 ?_
  refine Runs.cast (w' := AV X a ((rnT s 20).1) ((rnT s 20).2) p K v) ?_ rfl rfl rfl
  refine r_getsN (v := .ref (X.2.2.2 0)) (fun A U H h => h.1) (inNW 791 (by decide +kernel) rfl) 61 rfl d_Act_run_58 ?_
  refine r_iload rfl 63 rfl d_Act_run_61 ?_
  refine r_callSn1 (st2 := [.int (aboveV.getD 1 0)]) (w2 := AV X a ((rnT s 20).1) ((rnT s 20).2) p K v) lk_HB_at ln_Act_32 (c_atA X 1 (by omega)) (by first | decide | omega) rfl rfl (Nat.le_of_ble_eq_true rfl) (Nat.le_of_ble_eq_true rfl) (Nat.le_of_ble_eq_true rfl) [] rfl rfl rfl rfl rfl 66 rfl d_Act_run_63 ?_
  refine r_topi (nI (0)) (by decide +kernel) ?_
  refine r_istore (ls2 := [some (.ref (a 0)), some (.int (nI 1)), some (.int (nI 1)), some (.int x), some (.int (nI dp)), some (.int (nI 1)), some (.int (nI 20)), some (.int (nI 0)), none]) 68 rfl d_Act_run_66 (by decide) rfl rfl ?_
  refine r_iload rfl 70 rfl d_Act_run_68 ?_
  refine r_iconst (nI 1) rfl 71 rfl d_Act_run_70 ?_
  refine r_iadd 72 rfl d_Act_run_71 ?_
  refine r_topi (nI (dp + 1)) (nI_add _ _) ?_
  refine r_istore (ls2 := [some (.ref (a 0)), some (.int (nI 1)), some (.int (nI 1)), some (.int x), some (.int (nI dp)), some (.int (nI 1)), some (.int (nI 20)), some (.int (nI 0)), some (.int (nI (dp + 1)))]) 74 rfl d_Act_run_72 (by decide) rfl rfl ?_
  refine r_iload rfl 76 rfl d_Act_run_74 ?_
  refine r_lookup (off := 140) 216 d_Act_run_76 (by decide) (by rfl) rfl ?_
  refine r_aload_n rfl 217 rfl d_Act_run_216 ?_
  refine r_iload rfl 219 rfl d_Act_run_217 ?_
  refine r_iconst (nI 1) rfl 220 rfl d_Act_run_219 ?_
  refine r_iload_n rfl 221 rfl d_Act_run_220 ?_
  refine r_iload rfl 223 rfl d_Act_run_221 ?_
  refine r_callVA1 (st2 := [.int ((le p K v 7 0 x (rnT s 20)).1)]) (w2 := AV X a (((le p K v 7 0 x (rnT s 20)).2).1) (((le p K v 7 0 x (rnT s 20)).2).2) p K v) lk_Act_run ln_Act_46 (c_run1_0 X a d p K v x (dp + 1) (rnT s 20) hK6 (show s.1 + 1 < 150000 by omega) (by omega)) (by first | decide | omega) rfl rfl (Nat.le_of_ble_eq_true rfl) (Nat.le_of_ble_eq_true rfl) (Nat.le_of_ble_eq_true rfl) 0 rfl rfl AV_f rfl 226 rfl d_Act_run_223 ?_
  refine r_bipush (nI 6) rfl 228 rfl d_Act_run_226 ?_
  refine r_ixor 229 rfl d_Act_run_228 ?_
  exact r_iret rfl (Nat.zero_le _) (Nat.zero_le _) d_Act_run_229 (by rw [← hQ]; rw [g_1_1]; exact ⟨rfl, rfl⟩)
theorem c_run1_4 (X : Xn) (a : Nat → Nat) (d p K : Nat) (v : Int32) (x : Int32) (dp : Nat) (s : Trc) (hK6 : K ≤ 6) (hr : s.1 < 130000) (hdp : dp ≤ 23) : Does X (d + 7) M_Act_run [.ref (a 0), .int (nI 4), .int (nI 1), .int x, .int (nI dp)] (AV X a s.1 s.2 p K v) 0 0 (fun (vv : Option Value) (ww : va_W) => vv = some (.int (le p K v 7 4 x s).1) ∧ ww = AV X a (((le p K v 7 4 x s).2).1) (((le p K v 7 4 x s).2).2) p K v) := by
  generalize hQ : (fun (vv : Option Value) (ww : va_W) => vv = some (.int (le p K v 7 4 x s).1) ∧ ww = AV X a (((le p K v 7 4 x s).2).1) (((le p K v 7 4 x s).2).2) p K v) = Q
  refine Does.go rfl (Nat.le_of_ble_eq_true rfl) [some (.ref (a 0)), some (.int (nI 4)), some (.int (nI 1)), some (.int x), some (.int (nI dp)), none, none, none, none] 4 rfl ?_
  refine r_iload_n rfl 1 rfl d_Act_run_0 ?_
  refine r_iload_n rfl 2 rfl d_Act_run_1 ?_
  refine r_callS1 (st2 := [.int (nI (own 4 1))]) (w2 := AV X a s.1 s.2 p K v) lk_Act_ownerOf ln_Act_25 (c_Act_ownerOf X 4 1 (by omega) (by omega)) (by first | decide | omega) rfl rfl (Nat.le_of_ble_eq_true rfl) (Nat.le_of_ble_eq_true rfl) (Nat.le_of_ble_eq_true rfl) [] rfl rfl rfl rfl rfl 5 rfl d_Act_run_2 ?_
  refine r_topi (nI (4)) (by decide +kernel) ?_
  refine r_istore (ls2 := [some (.ref (a 0)), some (.int (nI 4)), some (.int (nI 1)), some (.int x), some (.int (nI dp)), some (.int (nI 4)), none, none, none]) 7 rfl d_Act_run_5 (by decide) rfl rfl ?_
  refine r_iload rfl 9 rfl d_Act_run_7 ?_
  refine r_if_ltN_f 4 (by omega) 12 rfl 19 rfl d_Act_run_9 (by omega) ?_
  refine r_iload rfl 14 rfl d_Act_run_12 ?_
  refine r_bipush (nI 40) rfl 16 rfl d_Act_run_14 ?_
  refine r_icmp_ltN_t dp 40 (by omega) (by omega) 21 rfl d_Act_run_16 (by omega) ?_
  refine r_getsN (v := .ref (X.2.2.2 1)) (fun A U H h => h.2.2.1) (inNW 788 (by decide +kernel) rfl) 24 rfl d_Act_run_21 ?_
  refine r_iload rfl 26 rfl d_Act_run_24 ?_
  refine r_iconst (nI 3) rfl 27 rfl d_Act_run_26 ?_
  refine r_imul 28 rfl d_Act_run_27 ?_
  refine r_topi (nI (4 * 3)) (pk_mul _ _) ?_
  refine r_iload_n rfl 29 rfl d_Act_run_28 ?_
  refine r_iadd 30 rfl d_Act_run_29 ?_
  refine r_topi (nI ((4 * 3) + 1)) (nI_add _ _) ?_
  refine r_callSn1 (st2 := [.int (bodyV.getD ((4 * 3) + 1) 0)]) (w2 := AV X a s.1 s.2 p K v) lk_HB_at ln_Act_32 (c_atB X ((4 * 3) + 1) (by omega)) (by first | decide | omega) rfl rfl (Nat.le_of_ble_eq_true rfl) (Nat.le_of_ble_eq_true rfl) (Nat.le_of_ble_eq_true rfl) [] rfl rfl rfl rfl rfl 33 rfl d_Act_run_30 ?_
  refine r_topi (nI (51)) (by decide +kernel) ?_
  refine r_istore (ls2 := [some (.ref (a 0)), some (.int (nI 4)), some (.int (nI 1)), some (.int x), some (.int (nI dp)), some (.int (nI 4)), some (.int (nI 51)), none, none]) 35 rfl d_Act_run_33 (by decide) rfl rfl ?_
  refine r_aload_n rfl 36 rfl d_Act_run_35 ?_
  refine r_getf (v := .ref (a 1)) gf_Act_9 0 rfl rfl 39 rfl d_Act_run_36 ?_
  refine r_aload_n rfl 40 rfl d_Act_run_39 ?_
  refine r_getf (v := .int (nI s.1)) gf_Act_36 0 rfl rfl 43 rfl d_Act_run_40 ?_
  refine r_iload rfl 45 rfl d_Act_run_43 ?_
  refine r_callSn1 (st2 := []) (w2 := AV X a s.1 (if s.1 < 20 then upd s.2 s.1 (nI 51) else s.2) p K v) lk_HB_put ln_Act_39 (c_putX X _ s.1 (nI 51) s.2 (by omega)) (by first | decide | omega) rfl rfl (Nat.le_of_ble_eq_true rfl) (Nat.le_of_ble_eq_true rfl) (Nat.le_of_ble_eq_true rfl) [1] rfl rfl rfl rfl rfl 48 rfl d_Act_run_45 ?_
  refine r_aload_n rfl 49 rfl d_Act_run_48 ?_
  refine r_dup rfl 50 rfl d_Act_run_49 ?_
  refine r_getf (v := .int (nI s.1)) gf_Act_36 0 rfl rfl 53 rfl d_Act_run_50 ?_
  refine r_iconst (nI 1) rfl 54 rfl d_Act_run_53 ?_
  refine r_iadd 55 rfl d_Act_run_54 ?_
  refine r_topi (nI (s.1 + 1)) (nI_add _ _) ?_
  refine r_putf (w2 := AV X a (s.1 + 1) (if s.1 < 20 then upd s.2 s.1 (nI 51) else s.2) p K v) pf_Act_36 0 rfl (rfl) rfl (Nat.le_of_ble_eq_true rfl) rfl 58 rfl d_Act_run_55 ?_
  refine Runs.cast (w' := AV X a ((rnT s 51).1) ((rnT s 51).2) p K v) ?_ rfl rfl rfl
  refine r_getsN (v := .ref (X.2.2.2 0)) (fun A U H h => h.1) (inNW 791 (by decide +kernel) rfl) 61 rfl d_Act_run_58 ?_
  refine r_iload rfl 63 rfl d_Act_run_61 ?_
  refine r_callSn1 (st2 := [.int (aboveV.getD 4 0)]) (w2 := AV X a ((rnT s 51).1) ((rnT s 51).2) p K v) lk_HB_at ln_Act_32 (c_atA X 4 (by omega)) (by first | decide | omega) rfl rfl (Nat.le_of_ble_eq_true rfl) (Nat.le_of_ble_eq_true rfl) (Nat.le_of_ble_eq_true rfl) [] rfl rfl rfl rfl rfl 66 rfl d_Act_run_63 ?_
  refine r_topi (nI (1)) (by decide +kernel) ?_
  refine r_istore (ls2 := [some (.ref (a 0)), some (.int (nI 4)), some (.int (nI 1)), some (.int x), some (.int (nI dp)), some (.int (nI 4)), some (.int (nI 51)), some (.int (nI 1)), none]) 68 rfl d_Act_run_66 (by decide) rfl rfl ?_
  refine r_iload rfl 70 rfl d_Act_run_68 ?_
  refine r_iconst (nI 1) rfl 71 rfl d_Act_run_70 ?_
  refine r_iadd 72 rfl d_Act_run_71 ?_
  refine r_topi (nI (dp + 1)) (nI_add _ _) ?_
  refine r_istore (ls2 := [some (.ref (a 0)), some (.int (nI 4)), some (.int (nI 1)), some (.int x), some (.int (nI dp)), some (.int (nI 4)), some (.int (nI 51)), some (.int (nI 1)), some (.int (nI (dp + 1)))]) 74 rfl d_Act_run_72 (by decide) rfl rfl ?_
  refine r_iload rfl 76 rfl d_Act_run_74 ?_
  refine r_lookup (off := 203) 279 d_Act_run_76 (by decide) (by rfl) rfl ?_
  refine r_aload_n rfl 280 rfl d_Act_run_279 ?_
  refine r_iload rfl 282 rfl d_Act_run_280 ?_
  refine r_iconst (nI 1) rfl 283 rfl d_Act_run_282 ?_
  refine r_iload_n rfl 284 rfl d_Act_run_283 ?_
  refine r_iconst (nI 1) rfl 285 rfl d_Act_run_284 ?_
  refine r_iadd 286 rfl d_Act_run_285 ?_
  refine r_iload rfl 288 rfl d_Act_run_286 ?_
  refine r_callVA1 (st2 := [.int ((le p K v 7 1 (x + (nI 1)) (rnT s 51)).1)]) (w2 := AV X a (((le p K v 7 1 (x + (nI 1)) (rnT s 51)).2).1) (((le p K v 7 1 (x + (nI 1)) (rnT s 51)).2).2) p K v) lk_Act_run ln_Act_46 (c_run1_1 X a d p K v (x + (nI 1)) (dp + 1) (rnT s 51) hK6 (show s.1 + 1 < 140000 by omega) (by omega)) (by first | decide | omega) rfl rfl (Nat.le_of_ble_eq_true rfl) (Nat.le_of_ble_eq_true rfl) (Nat.le_of_ble_eq_true rfl) 0 rfl rfl AV_f rfl 291 rfl d_Act_run_288 ?_
  exact r_iret rfl (Nat.zero_le _) (Nat.zero_le _) d_Act_run_291 (by rw [← hQ]; rw [g_1_4]; exact ⟨rfl, rfl⟩)
theorem c_run1_6 (X : Xn) (a : Nat → Nat) (d p K : Nat) (v : Int32) (x : Int32) (dp : Nat) (s : Trc) (hK6 : K ≤ 6) (hr : s.1 < 140000) (hdp : dp ≤ 24) : Does X (d + 6) M_Act_run [.ref (a 0), .int (nI 6), .int (nI 1), .int x, .int (nI dp)] (AV X a s.1 s.2 p K v) 0 0 (fun (vv : Option Value) (ww : va_W) => vv = some (.int (le p K v 7 6 x s).1) ∧ ww = AV X a (((le p K v 7 6 x s).2).1) (((le p K v 7 6 x s).2).2) p K v) := by
  generalize hQ : (fun (vv : Option Value) (ww : va_W) => vv = some (.int (le p K v 7 6 x s).1) ∧ ww = AV X a (((le p K v 7 6 x s).2).1) (((le p K v 7 6 x s).2).2) p K v) = Q
  refine Does.go rfl (Nat.le_of_ble_eq_true rfl) [some (.ref (a 0)), some (.int (nI 6)), some (.int (nI 1)), some (.int x), some (.int (nI dp)), none, none, none, none] 4 rfl ?_
  refine r_iload_n rfl 1 rfl d_Act_run_0 ?_
  refine r_iload_n rfl 2 rfl d_Act_run_1 ?_
  refine r_callS1 (st2 := [.int (nI (own 6 1))]) (w2 := AV X a s.1 s.2 p K v) lk_Act_ownerOf ln_Act_25 (c_Act_ownerOf X 6 1 (by omega) (by omega)) (by first | decide | omega) rfl rfl (Nat.le_of_ble_eq_true rfl) (Nat.le_of_ble_eq_true rfl) (Nat.le_of_ble_eq_true rfl) [] rfl rfl rfl rfl rfl 5 rfl d_Act_run_2 ?_
  refine r_topi (nI (6)) (by decide +kernel) ?_
  refine r_istore (ls2 := [some (.ref (a 0)), some (.int (nI 6)), some (.int (nI 1)), some (.int x), some (.int (nI dp)), some (.int (nI 6)), none, none, none]) 7 rfl d_Act_run_5 (by decide) rfl rfl ?_
  refine r_iload rfl 9 rfl d_Act_run_7 ?_
  refine r_if_ltN_f 6 (by omega) 12 rfl 19 rfl d_Act_run_9 (by omega) ?_
  refine r_iload rfl 14 rfl d_Act_run_12 ?_
  refine r_bipush (nI 40) rfl 16 rfl d_Act_run_14 ?_
  refine r_icmp_ltN_t dp 40 (by omega) (by omega) 21 rfl d_Act_run_16 (by omega) ?_
  refine r_getsN (v := .ref (X.2.2.2 1)) (fun A U H h => h.2.2.1) (inNW 788 (by decide +kernel) rfl) 24 rfl d_Act_run_21 ?_
  refine r_iload rfl 26 rfl d_Act_run_24 ?_
  refine r_iconst (nI 3) rfl 27 rfl d_Act_run_26 ?_
  refine r_imul 28 rfl d_Act_run_27 ?_
  refine r_topi (nI (6 * 3)) (pk_mul _ _) ?_
  refine r_iload_n rfl 29 rfl d_Act_run_28 ?_
  refine r_iadd 30 rfl d_Act_run_29 ?_
  refine r_topi (nI ((6 * 3) + 1)) (nI_add _ _) ?_
  refine r_callSn1 (st2 := [.int (bodyV.getD ((6 * 3) + 1) 0)]) (w2 := AV X a s.1 s.2 p K v) lk_HB_at ln_Act_32 (c_atB X ((6 * 3) + 1) (by omega)) (by first | decide | omega) rfl rfl (Nat.le_of_ble_eq_true rfl) (Nat.le_of_ble_eq_true rfl) (Nat.le_of_ble_eq_true rfl) [] rfl rfl rfl rfl rfl 33 rfl d_Act_run_30 ?_
  refine r_topi (nI (70)) (by decide +kernel) ?_
  refine r_istore (ls2 := [some (.ref (a 0)), some (.int (nI 6)), some (.int (nI 1)), some (.int x), some (.int (nI dp)), some (.int (nI 6)), some (.int (nI 70)), none, none]) 35 rfl d_Act_run_33 (by decide) rfl rfl ?_
  refine r_aload_n rfl 36 rfl d_Act_run_35 ?_
  refine r_getf (v := .ref (a 1)) gf_Act_9 0 rfl rfl 39 rfl d_Act_run_36 ?_
  refine r_aload_n rfl 40 rfl d_Act_run_39 ?_
  refine r_getf (v := .int (nI s.1)) gf_Act_36 0 rfl rfl 43 rfl d_Act_run_40 ?_
  refine r_iload rfl 45 rfl d_Act_run_43 ?_
  refine r_callSn1 (st2 := []) (w2 := AV X a s.1 (if s.1 < 20 then upd s.2 s.1 (nI 70) else s.2) p K v) lk_HB_put ln_Act_39 (c_putX X _ s.1 (nI 70) s.2 (by omega)) (by first | decide | omega) rfl rfl (Nat.le_of_ble_eq_true rfl) (Nat.le_of_ble_eq_true rfl) (Nat.le_of_ble_eq_true rfl) [1] rfl rfl rfl rfl rfl 48 rfl d_Act_run_45 ?_
  refine r_aload_n rfl 49 rfl d_Act_run_48 ?_
  refine r_dup rfl 50 rfl d_Act_run_49 ?_
  refine r_getf (v := .int (nI s.1)) gf_Act_36 0 rfl rfl 53 rfl d_Act_run_50 ?_
  refine r_iconst (nI 1) rfl 54 rfl d_Act_run_53 ?_
  refine r_iadd 55 rfl d_Act_run_54 ?_
  refine r_topi (nI (s.1 + 1)) (nI_add _ _) ?_
  refine r_putf (w2 := AV X a (s.1 + 1) (if s.1 < 20 then upd s.2 s.1 (nI 70) else s.2) p K v) pf_Act_36 0 rfl (rfl) rfl (Nat.le_of_ble_eq_true rfl) rfl 58 rfl d_Act_run_55 ?_
  refine Runs.cast (w' := AV X a ((rnT s 70).1) ((rnT s 70).2) p K v) ?_ rfl rfl rfl
  refine r_getsN (v := .ref (X.2.2.2 0)) (fun A U H h => h.1) (inNW 791 (by decide +kernel) rfl) 61 rfl d_Act_run_58 ?_
  refine r_iload rfl 63 rfl d_Act_run_61 ?_
  refine r_callSn1 (st2 := [.int (aboveV.getD 6 0)]) (w2 := AV X a ((rnT s 70).1) ((rnT s 70).2) p K v) lk_HB_at ln_Act_32 (c_atA X 6 (by omega)) (by first | decide | omega) rfl rfl (Nat.le_of_ble_eq_true rfl) (Nat.le_of_ble_eq_true rfl) (Nat.le_of_ble_eq_true rfl) [] rfl rfl rfl rfl rfl 66 rfl d_Act_run_63 ?_
  refine r_topi (nI (3)) (by decide +kernel) ?_
  refine r_istore (ls2 := [some (.ref (a 0)), some (.int (nI 6)), some (.int (nI 1)), some (.int x), some (.int (nI dp)), some (.int (nI 6)), some (.int (nI 70)), some (.int (nI 3)), none]) 68 rfl d_Act_run_66 (by decide) rfl rfl ?_
  refine r_iload rfl 70 rfl d_Act_run_68 ?_
  refine r_iconst (nI 1) rfl 71 rfl d_Act_run_70 ?_
  refine r_iadd 72 rfl d_Act_run_71 ?_
  refine r_topi (nI (dp + 1)) (nI_add _ _) ?_
  refine r_istore (ls2 := [some (.ref (a 0)), some (.int (nI 6)), some (.int (nI 1)), some (.int x), some (.int (nI dp)), some (.int (nI 6)), some (.int (nI 70)), some (.int (nI 3)), some (.int (nI (dp + 1)))]) 74 rfl d_Act_run_72 (by decide) rfl rfl ?_
  refine r_iload rfl 76 rfl d_Act_run_74 ?_
  refine r_lookup (off := 232) 308 d_Act_run_76 (by decide) (by rfl) rfl ?_
  refine r_aload_n rfl 309 rfl d_Act_run_308 ?_
  refine r_iload rfl 311 rfl d_Act_run_309 ?_
  refine r_iconst (nI 1) rfl 312 rfl d_Act_run_311 ?_
  refine r_iload_n rfl 313 rfl d_Act_run_312 ?_
  refine r_iload rfl 315 rfl d_Act_run_313 ?_
  refine r_callVA1 (st2 := [.int ((le p K v 7 3 x (rnT s 70)).1)]) (w2 := AV X a (((le p K v 7 3 x (rnT s 70)).2).1) (((le p K v 7 3 x (rnT s 70)).2).2) p K v) lk_Act_run ln_Act_46 (c_run1_3 X a d p K v x (dp + 1) (rnT s 70) hK6 (show s.1 + 1 < 150000 by omega) (by omega)) (by first | decide | omega) rfl rfl (Nat.le_of_ble_eq_true rfl) (Nat.le_of_ble_eq_true rfl) (Nat.le_of_ble_eq_true rfl) 0 rfl rfl AV_f rfl 318 rfl d_Act_run_315 ?_
  refine r_aload_n rfl 319 rfl d_Act_run_318 ?_
  refine r_iload rfl 321 rfl d_Act_run_319 ?_
  refine r_iconst (nI 0) rfl 322 rfl d_Act_run_321 ?_
  refine r_iconst (nI 2) rfl 323 rfl d_Act_run_322 ?_
  refine r_iload rfl 325 rfl d_Act_run_323 ?_
  refine r_callVA1 (st2 := [.int ((gr p v 7 3 (nI 2) ((le p K v 7 3 x (rnT s 70)).2)).1), .int ((le p K v 7 3 x (rnT s 70)).1)]) (w2 := AV X a (((gr p v 7 3 (nI 2) ((le p K v 7 3 x (rnT s 70)).2)).2).1) (((gr p v 7 3 (nI 2) ((le p K v 7 3 x (rnT s 70)).2)).2).2) p K v) lk_Act_run ln_Act_46 (c_run0_3 X a (d + 2) p K v (nI 2) (dp + 1) ((le p K v 7 3 x (rnT s 70)).2) hK6 (cnt_lt (le_cnt p K v 7 3 x (rnT s 70)) (by omega)) (by omega)) (by first | decide | omega) rfl rfl (Nat.le_of_ble_eq_true rfl) (Nat.le_of_ble_eq_true rfl) (Nat.le_of_ble_eq_true rfl) 0 rfl rfl AV_f rfl 328 rfl d_Act_run_325 ?_
  refine r_iadd 329 rfl d_Act_run_328 ?_
  exact r_iret rfl (Nat.zero_le _) (Nat.zero_le _) d_Act_run_329 (by rw [← hQ]; rw [g_1_6]; exact ⟨rfl, rfl⟩)
theorem c_run1 (X : Xn) (a : Nat → Nat) (d p K : Nat) (v : Int32) (x : Int32) (dp : Nat) (s : Trc) (hK6 : K ≤ 6) (hr : s.1 < 130000) (hdp : dp ≤ 23) : Does X (d + 7) M_Act_run [.ref (a 0), .int (nI K), .int (nI 1), .int x, .int (nI dp)] (AV X a s.1 s.2 p K v) 0 0 (fun (vv : Option Value) (ww : va_W) => vv = some (.int (le p K v 7 K x s).1) ∧ ww = AV X a (((le p K v 7 K x s).2).1) (((le p K v 7 K x s).2).2) p K v) := by
  rcases (show K = 0 ∨ K = 1 ∨ K = 2 ∨ K = 3 ∨ K = 4 ∨ K = 5 ∨ K = 6 by omega) with rfl | rfl | rfl | rfl | rfl | rfl | rfl
  · exact c_run1_0 X a (d + 2) p 0 v x dp s hK6 (by omega) (by omega)
  · exact c_run1_1 X a (d + 1) p 1 v x dp s hK6 (by omega) (by omega)
  · exact c_run1_2 X a (d + 2) p 2 v x dp s hK6 (by omega) (by omega)
  · exact c_run1_3 X a (d + 2) p 3 v x dp s hK6 (by omega) (by omega)
  · exact c_run1_4 X a d p 4 v x dp s hK6 (by omega) (by omega)
  · exact c_run1_5 X a (d + 2) p 5 v x dp s hK6 (by omega) (by omega)
  · exact c_run1_6 X a (d + 1) p 6 v x dp s hK6 (by omega) (by omega)
theorem c_run2_0 (X : Xn) (a : Nat → Nat) (d p K : Nat) (v : Int32) (x : Int32) (dp : Nat) (s : Trc) (hK6 : K ≤ 6) (hr : s.1 < 120000) (hdp : dp ≤ 22) : Does X (d + 8) M_Act_run [.ref (a 0), .int (nI 0), .int (nI 2), .int x, .int (nI dp)] (AV X a s.1 s.2 p K v) 0 0 (fun (vv : Option Value) (ww : va_W) => vv = some (.int (te p K v 7 0 x s).1) ∧ ww = AV X a (((te p K v 7 0 x s).2).1) (((te p K v 7 0 x s).2).2) p K v) := by
  generalize hQ : (fun (vv : Option Value) (ww : va_W) => vv = some (.int (te p K v 7 0 x s).1) ∧ ww = AV X a (((te p K v 7 0 x s).2).1) (((te p K v 7 0 x s).2).2) p K v) = Q
  refine Does.go rfl (Nat.le_of_ble_eq_true rfl) [some (.ref (a 0)), some (.int (nI 0)), some (.int (nI 2)), some (.int x), some (.int (nI dp)), none, none, none, none] 4 rfl ?_
  refine r_iload_n rfl 1 rfl d_Act_run_0 ?_
  refine r_iload_n rfl 2 rfl d_Act_run_1 ?_
  refine r_callS1 (st2 := [.int (nI (own 0 2))]) (w2 := AV X a s.1 s.2 p K v) lk_Act_ownerOf ln_Act_25 (c_Act_ownerOf X 0 2 (by omega) (by omega)) (by first | decide | omega) rfl rfl (Nat.le_of_ble_eq_true rfl) (Nat.le_of_ble_eq_true rfl) (Nat.le_of_ble_eq_true rfl) [] rfl rfl rfl rfl rfl 5 rfl d_Act_run_2 ?_
  refine r_topi (nI (0)) (by decide +kernel) ?_
  refine r_istore (ls2 := [some (.ref (a 0)), some (.int (nI 0)), some (.int (nI 2)), some (.int x), some (.int (nI dp)), some (.int (nI 0)), none, none, none]) 7 rfl d_Act_run_5 (by decide) rfl rfl ?_
  refine r_iload rfl 9 rfl d_Act_run_7 ?_
  refine r_if_ltN_f 0 (by omega) 12 rfl 19 rfl d_Act_run_9 (by omega) ?_
  refine r_iload rfl 14 rfl d_Act_run_12 ?_
  refine r_bipush (nI 40) rfl 16 rfl d_Act_run_14 ?_
  refine r_icmp_ltN_t dp 40 (by omega) (by omega) 21 rfl d_Act_run_16 (by omega) ?_
  refine r_getsN (v := .ref (X.2.2.2 1)) (fun A U H h => h.2.2.1) (inNW 788 (by decide +kernel) rfl) 24 rfl d_Act_run_21 ?_
  refine r_iload rfl 26 rfl d_Act_run_24 ?_
  refine r_iconst (nI 3) rfl 27 rfl d_Act_run_26 ?_
  refine r_imul 28 rfl d_Act_run_27 ?_
  refine r_topi (nI (0 * 3)) (pk_mul _ _) ?_
  refine r_iload_n rfl 29 rfl d_Act_run_28 ?_
  refine r_iadd 30 rfl d_Act_run_29 ?_
  refine r_topi (nI ((0 * 3) + 2)) (nI_add _ _) ?_
  refine r_callSn1 (st2 := [.int (bodyV.getD ((0 * 3) + 2) 0)]) (w2 := AV X a s.1 s.2 p K v) lk_HB_at ln_Act_32 (c_atB X ((0 * 3) + 2) (by omega)) (by first | decide | omega) rfl rfl (Nat.le_of_ble_eq_true rfl) (Nat.le_of_ble_eq_true rfl) (Nat.le_of_ble_eq_true rfl) [] rfl rfl rfl rfl rfl 33 rfl d_Act_run_30 ?_
  refine r_topi (nI (12)) (by decide +kernel) ?_
  refine r_istore (ls2 := [some (.ref (a 0)), some (.int (nI 0)), some (.int (nI 2)), some (.int x), some (.int (nI dp)), some (.int (nI 0)), some (.int (nI 12)), none, none]) 35 rfl d_Act_run_33 (by decide) rfl rfl ?_
  refine r_aload_n rfl 36 rfl d_Act_run_35 ?_
  refine r_getf (v := .ref (a 1)) gf_Act_9 0 rfl rfl 39 rfl d_Act_run_36 ?_
  refine r_aload_n rfl 40 rfl d_Act_run_39 ?_
  refine r_getf (v := .int (nI s.1)) gf_Act_36 0 rfl rfl 43 rfl d_Act_run_40 ?_
  refine r_iload rfl 45 rfl d_Act_run_43 ?_
  refine r_callSn1 (st2 := []) (w2 := AV X a s.1 (if s.1 < 20 then upd s.2 s.1 (nI 12) else s.2) p K v) lk_HB_put ln_Act_39 (c_putX X _ s.1 (nI 12) s.2 (by omega)) (by first | decide | omega) rfl rfl (Nat.le_of_ble_eq_true rfl) (Nat.le_of_ble_eq_true rfl) (Nat.le_of_ble_eq_true rfl) [1] rfl rfl rfl rfl rfl 48 rfl d_Act_run_45 ?_
  refine r_aload_n rfl 49 rfl d_Act_run_48 ?_
  refine r_dup rfl 50 rfl d_Act_run_49 ?_
  refine r_getf (v := .int (nI s.1)) gf_Act_36 0 rfl rfl 53 rfl d_Act_run_50 ?_
  refine r_iconst (nI 1) rfl 54 rfl d_Act_run_53 ?_
  refine r_iadd 55 rfl d_Act_run_54 ?_
  refine r_topi (nI (s.1 + 1)) (nI_add _ _) ?_
  refine r_putf (w2 := AV X a (s.1 + 1) (if s.1 < 20 then upd s.2 s.1 (nI 12) else s.2) p K v) pf_Act_36 0 rfl (rfl) rfl (Nat.le_of_ble_eq_true rfl) rfl 58 rfl d_Act_run_55 ?_
  refine Runs.cast (w' := AV X a ((rnT s 12).1) ((rnT s 12).2) p K v) ?_ rfl rfl rfl
  refine r_getsN (v := .ref (X.2.2.2 0)) (fun A U H h => h.1) (inNW 791 (by decide +kernel) rfl) 61 rfl d_Act_run_58 ?_
  refine r_iload rfl 63 rfl d_Act_run_61 ?_
  refine r_callSn1 (st2 := [.int (aboveV.getD 0 0)]) (w2 := AV X a ((rnT s 12).1) ((rnT s 12).2) p K v) lk_HB_at ln_Act_32 (c_atA X 0 (by omega)) (by first | decide | omega) rfl rfl (Nat.le_of_ble_eq_true rfl) (Nat.le_of_ble_eq_true rfl) (Nat.le_of_ble_eq_true rfl) [] rfl rfl rfl rfl rfl 66 rfl d_Act_run_63 ?_
  refine r_topi ((-1)) (by decide +kernel) ?_
  refine r_istore (ls2 := [some (.ref (a 0)), some (.int (nI 0)), some (.int (nI 2)), some (.int x), some (.int (nI dp)), some (.int (nI 0)), some (.int (nI 12)), some (.int (-1)), none]) 68 rfl d_Act_run_66 (by decide) rfl rfl ?_
  refine r_iload rfl 70 rfl d_Act_run_68 ?_
  refine r_iconst (nI 1) rfl 71 rfl d_Act_run_70 ?_
  refine r_iadd 72 rfl d_Act_run_71 ?_
  refine r_topi (nI (dp + 1)) (nI_add _ _) ?_
  refine r_istore (ls2 := [some (.ref (a 0)), some (.int (nI 0)), some (.int (nI 2)), some (.int x), some (.int (nI dp)), some (.int (nI 0)), some (.int (nI 12)), some (.int (-1)), some (.int (nI (dp + 1)))]) 74 rfl d_Act_run_72 (by decide) rfl rfl ?_
  refine r_iload rfl 76 rfl d_Act_run_74 ?_
  refine r_lookup (off := 125) 201 d_Act_run_76 (by decide) (by rfl) rfl ?_
  refine r_aload_n rfl 202 rfl d_Act_run_201 ?_
  refine r_aload_n rfl 203 rfl d_Act_run_202 ?_
  refine r_getf (v := .int (nI K)) gf_Act_19 0 rfl rfl 206 rfl d_Act_run_203 ?_
  refine r_iconst (nI 1) rfl 207 rfl d_Act_run_206 ?_
  refine r_iload_n rfl 208 rfl d_Act_run_207 ?_
  refine r_iload rfl 210 rfl d_Act_run_208 ?_
  refine r_callVA1 (st2 := [.int ((le p K v 7 K x (rnT s 12)).1)]) (w2 := AV X a (((le p K v 7 K x (rnT s 12)).2).1) (((le p K v 7 K x (rnT s 12)).2).2) p K v) lk_Act_run ln_Act_46 (c_run1 X a d p K v x (dp + 1) (rnT s 12) hK6 (show s.1 + 1 < 130000 by omega) (by omega)) (by first | decide | omega) rfl rfl (Nat.le_of_ble_eq_true rfl) (Nat.le_of_ble_eq_true rfl) (Nat.le_of_ble_eq_true rfl) 0 rfl rfl AV_f rfl 213 rfl d_Act_run_210 ?_
  refine r_iconst (nI 2) rfl 214 rfl d_Act_run_213 ?_
  refine r_imul 215 rfl d_Act_run_214 ?_
  exact r_iret rfl (Nat.zero_le _) (Nat.zero_le _) d_Act_run_215 (by rw [← hQ]; rw [g_2_0]; exact ⟨rfl, rfl⟩)
theorem c_run2_1 (X : Xn) (a : Nat → Nat) (d p K : Nat) (v : Int32) (x : Int32) (dp : Nat) (s : Trc) (hK6 : K ≤ 6) (hr : s.1 < 120000) (hdp : dp ≤ 22) : Does X (d + 8) M_Act_run [.ref (a 0), .int (nI 1), .int (nI 2), .int x, .int (nI dp)] (AV X a s.1 s.2 p K v) 0 0 (fun (vv : Option Value) (ww : va_W) => vv = some (.int (te p K v 7 1 x s).1) ∧ ww = AV X a (((te p K v 7 1 x s).2).1) (((te p K v 7 1 x s).2).2) p K v) := by
  generalize hQ : (fun (vv : Option Value) (ww : va_W) => vv = some (.int (te p K v 7 1 x s).1) ∧ ww = AV X a (((te p K v 7 1 x s).2).1) (((te p K v 7 1 x s).2).2) p K v) = Q
  refine Does.go rfl (Nat.le_of_ble_eq_true rfl) [some (.ref (a 0)), some (.int (nI 1)), some (.int (nI 2)), some (.int x), some (.int (nI dp)), none, none, none, none] 4 rfl ?_
  refine r_iload_n rfl 1 rfl d_Act_run_0 ?_
  refine r_iload_n rfl 2 rfl d_Act_run_1 ?_
  refine r_callS1 (st2 := [.int (nI (own 1 2))]) (w2 := AV X a s.1 s.2 p K v) lk_Act_ownerOf ln_Act_25 (c_Act_ownerOf X 1 2 (by omega) (by omega)) (by first | decide | omega) rfl rfl (Nat.le_of_ble_eq_true rfl) (Nat.le_of_ble_eq_true rfl) (Nat.le_of_ble_eq_true rfl) [] rfl rfl rfl rfl rfl 5 rfl d_Act_run_2 ?_
  refine r_topi (nI (0)) (by decide +kernel) ?_
  refine r_istore (ls2 := [some (.ref (a 0)), some (.int (nI 1)), some (.int (nI 2)), some (.int x), some (.int (nI dp)), some (.int (nI 0)), none, none, none]) 7 rfl d_Act_run_5 (by decide) rfl rfl ?_
  refine r_iload rfl 9 rfl d_Act_run_7 ?_
  refine r_if_ltN_f 0 (by omega) 12 rfl 19 rfl d_Act_run_9 (by omega) ?_
  refine r_iload rfl 14 rfl d_Act_run_12 ?_
  refine r_bipush (nI 40) rfl 16 rfl d_Act_run_14 ?_
  refine r_icmp_ltN_t dp 40 (by omega) (by omega) 21 rfl d_Act_run_16 (by omega) ?_
  refine r_getsN (v := .ref (X.2.2.2 1)) (fun A U H h => h.2.2.1) (inNW 788 (by decide +kernel) rfl) 24 rfl d_Act_run_21 ?_
  refine r_iload rfl 26 rfl d_Act_run_24 ?_
  refine r_iconst (nI 3) rfl 27 rfl d_Act_run_26 ?_
  refine r_imul 28 rfl d_Act_run_27 ?_
  refine r_topi (nI (0 * 3)) (pk_mul _ _) ?_
  refine r_iload_n rfl 29 rfl d_Act_run_28 ?_
  refine r_iadd 30 rfl d_Act_run_29 ?_
  refine r_topi (nI ((0 * 3) + 2)) (nI_add _ _) ?_
  refine r_callSn1 (st2 := [.int (bodyV.getD ((0 * 3) + 2) 0)]) (w2 := AV X a s.1 s.2 p K v) lk_HB_at ln_Act_32 (c_atB X ((0 * 3) + 2) (by omega)) (by first | decide | omega) rfl rfl (Nat.le_of_ble_eq_true rfl) (Nat.le_of_ble_eq_true rfl) (Nat.le_of_ble_eq_true rfl) [] rfl rfl rfl rfl rfl 33 rfl d_Act_run_30 ?_
  refine r_topi (nI (12)) (by decide +kernel) ?_
  refine r_istore (ls2 := [some (.ref (a 0)), some (.int (nI 1)), some (.int (nI 2)), some (.int x), some (.int (nI dp)), some (.int (nI 0)), some (.int (nI 12)), none, none]) 35 rfl d_Act_run_33 (by decide) rfl rfl ?_
  refine r_aload_n rfl 36 rfl d_Act_run_35 ?_
  refine r_getf (v := .ref (a 1)) gf_Act_9 0 rfl rfl 39 rfl d_Act_run_36 ?_
  refine r_aload_n rfl 40 rfl d_Act_run_39 ?_
  refine r_getf (v := .int (nI s.1)) gf_Act_36 0 rfl rfl 43 rfl d_Act_run_40 ?_
  refine r_iload rfl 45 rfl d_Act_run_43 ?_
  refine r_callSn1 (st2 := []) (w2 := AV X a s.1 (if s.1 < 20 then upd s.2 s.1 (nI 12) else s.2) p K v) lk_HB_put ln_Act_39 (c_putX X _ s.1 (nI 12) s.2 (by omega)) (by first | decide | omega) rfl rfl (Nat.le_of_ble_eq_true rfl) (Nat.le_of_ble_eq_true rfl) (Nat.le_of_ble_eq_true rfl) [1] rfl rfl rfl rfl rfl 48 rfl d_Act_run_45 ?_
  refine r_aload_n rfl 49 rfl d_Act_run_48 ?_
  refine r_dup rfl 50 rfl d_Act_run_49 ?_
  refine r_getf (v := .int (nI s.1)) gf_Act_36 0 rfl rfl 53 rfl d_Act_run_50 ?_
  refine r_iconst (nI 1) rfl 54 rfl d_Act_run_53 ?_
  refine r_iadd 55 rfl d_Act_run_54 ?_
  refine r_topi (nI (s.1 + 1)) (nI_add _ _) ?_
  refine r_putf (w2 := AV X a (s.1 + 1) (if s.1 < 20 then upd s.2 s.1 (nI 12) else s.2) p K v) pf_Act_36 0 rfl (rfl) rfl (Nat.le_of_ble_eq_true rfl) rfl 58 rfl d_Act_run_55 ?_
  refine Runs.cast (w' := AV X a ((rnT s 12).1) ((rnT s 12).2) p K v) ?_ rfl rfl rfl
  refine r_getsN (v := .ref (X.2.2.2 0)) (fun A U H h => h.1) (inNW 791 (by decide +kernel) rfl) 61 rfl d_Act_run_58 ?_
  refine r_iload rfl 63 rfl d_Act_run_61 ?_
  refine r_callSn1 (st2 := [.int (aboveV.getD 0 0)]) (w2 := AV X a ((rnT s 12).1) ((rnT s 12).2) p K v) lk_HB_at ln_Act_32 (c_atA X 0 (by omega)) (by first | decide | omega) rfl rfl (Nat.le_of_ble_eq_true rfl) (Nat.le_of_ble_eq_true rfl) (Nat.le_of_ble_eq_true rfl) [] rfl rfl rfl rfl rfl 66 rfl d_Act_run_63 ?_
  refine r_topi ((-1)) (by decide +kernel) ?_
  refine r_istore (ls2 := [some (.ref (a 0)), some (.int (nI 1)), some (.int (nI 2)), some (.int x), some (.int (nI dp)), some (.int (nI 0)), some (.int (nI 12)), some (.int (-1)), none]) 68 rfl d_Act_run_66 (by decide) rfl rfl ?_
  refine r_iload rfl 70 rfl d_Act_run_68 ?_
  refine r_iconst (nI 1) rfl 71 rfl d_Act_run_70 ?_
  refine r_iadd 72 rfl d_Act_run_71 ?_
  refine r_topi (nI (dp + 1)) (nI_add _ _) ?_
  refine r_istore (ls2 := [some (.ref (a 0)), some (.int (nI 1)), some (.int (nI 2)), some (.int x), some (.int (nI dp)), some (.int (nI 0)), some (.int (nI 12)), some (.int (-1)), some (.int (nI (dp + 1)))]) 74 rfl d_Act_run_72 (by decide) rfl rfl ?_
  refine r_iload rfl 76 rfl d_Act_run_74 ?_
  refine r_lookup (off := 125) 201 d_Act_run_76 (by decide) (by rfl) rfl ?_
  refine r_aload_n rfl 202 rfl d_Act_run_201 ?_
  refine r_aload_n rfl 203 rfl d_Act_run_202 ?_
  refine r_getf (v := .int (nI K)) gf_Act_19 0 rfl rfl 206 rfl d_Act_run_203 ?_
  refine r_iconst (nI 1) rfl 207 rfl d_Act_run_206 ?_
  refine r_iload_n rfl 208 rfl d_Act_run_207 ?_
  refine r_iload rfl 210 rfl d_Act_run_208 ?_
  refine r_callVA1 (st2 := [.int ((le p K v 7 K x (rnT s 12)).1)]) (w2 := AV X a (((le p K v 7 K x (rnT s 12)).2).1) (((le p K v 7 K x (rnT s 12)).2).2) p K v) lk_Act_run ln_Act_46 (c_run1 X a d p K v x (dp + 1) (rnT s 12) hK6 (show s.1 + 1 < 130000 by omega) (by omega)) (by first | decide | omega) rfl rfl (Nat.le_of_ble_eq_true rfl) (Nat.le_of_ble_eq_true rfl) (Nat.le_of_ble_eq_true rfl) 0 rfl rfl AV_f rfl 213 rfl d_Act_run_210 ?_
  refine r_iconst (nI 2) rfl 214 rfl d_Act_run_213 ?_
  refine r_imul 215 rfl d_Act_run_214 ?_
  exact r_iret rfl (Nat.zero_le _) (Nat.zero_le _) d_Act_run_215 (by rw [← hQ]; rw [g_2_1]; exact ⟨rfl, rfl⟩)
theorem c_run2_2 (X : Xn) (a : Nat → Nat) (d p K : Nat) (v : Int32) (x : Int32) (dp : Nat) (s : Trc) (hK6 : K ≤ 6) (hr : s.1 < 120000) (hdp : dp ≤ 22) : Does X (d + 8) M_Act_run [.ref (a 0), .int (nI 2), .int (nI 2), .int x, .int (nI dp)] (AV X a s.1 s.2 p K v) 0 0 (fun (vv : Option Value) (ww : va_W) => vv = some (.int (te p K v 7 2 x s).1) ∧ ww = AV X a (((te p K v 7 2 x s).2).1) (((te p K v 7 2 x s).2).2) p K v) := by
  generalize hQ : (fun (vv : Option Value) (ww : va_W) => vv = some (.int (te p K v 7 2 x s).1) ∧ ww = AV X a (((te p K v 7 2 x s).2).1) (((te p K v 7 2 x s).2).2) p K v) = Q
  refine Does.go rfl (Nat.le_of_ble_eq_true rfl) [some (.ref (a 0)), some (.int (nI 2)), some (.int (nI 2)), some (.int x), some (.int (nI dp)), none, none, none, none] 4 rfl ?_
  refine r_iload_n rfl 1 rfl d_Act_run_0 ?_
  refine r_iload_n rfl 2 rfl d_Act_run_1 ?_
  refine r_callS1 (st2 := [.int (nI (own 2 2))]) (w2 := AV X a s.1 s.2 p K v) lk_Act_ownerOf ln_Act_25 (c_Act_ownerOf X 2 2 (by omega) (by omega)) (by first | decide | omega) rfl rfl (Nat.le_of_ble_eq_true rfl) (Nat.le_of_ble_eq_true rfl) (Nat.le_of_ble_eq_true rfl) [] rfl rfl rfl rfl rfl 5 rfl d_Act_run_2 ?_
  refine r_topi (nI (0)) (by decide +kernel) ?_
  refine r_istore (ls2 := [some (.ref (a 0)), some (.int (nI 2)), some (.int (nI 2)), some (.int x), some (.int (nI dp)), some (.int (nI 0)), none, none, none]) 7 rfl d_Act_run_5 (by decide) rfl rfl ?_
  refine r_iload rfl 9 rfl d_Act_run_7 ?_
  refine r_if_ltN_f 0 (by omega) 12 rfl 19 rfl d_Act_run_9 (by omega) ?_
  refine r_iload rfl 14 rfl d_Act_run_12 ?_
  refine r_bipush (nI 40) rfl 16 rfl d_Act_run_14 ?_
  refine r_icmp_ltN_t dp 40 (by omega) (by omega) 21 rfl d_Act_run_16 (by omega) ?_
  refine r_getsN (v := .ref (X.2.2.2 1)) (fun A U H h => h.2.2.1) (inNW 788 (by decide +kernel) rfl) 24 rfl d_Act_run_21 ?_
  refine r_iload rfl 26 rfl d_Act_run_24 ?_
  refine r_iconst (nI 3) rfl 27 rfl d_Act_run_26 ?_
  refine r_imul 28 rfl d_Act_run_27 ?_
  refine r_topi (nI (0 * 3)) (pk_mul _ _) ?_
  refine r_iload_n rfl 29 rfl d_Act_run_28 ?_
  refine r_iadd 30 rfl d_Act_run_29 ?_
  refine r_topi (nI ((0 * 3) + 2)) (nI_add _ _) ?_
  refine r_callSn1 (st2 := [.int (bodyV.getD ((0 * 3) + 2) 0)]) (w2 := AV X a s.1 s.2 p K v) lk_HB_at ln_Act_32 (c_atB X ((0 * 3) + 2) (by omega)) (by first | decide | omega) rfl rfl (Nat.le_of_ble_eq_true rfl) (Nat.le_of_ble_eq_true rfl) (Nat.le_of_ble_eq_true rfl) [] rfl rfl rfl rfl rfl 33 rfl d_Act_run_30 ?_
  refine r_topi (nI (12)) (by decide +kernel) ?_
  refine r_istore (ls2 := [some (.ref (a 0)), some (.int (nI 2)), some (.int (nI 2)), some (.int x), some (.int (nI dp)), some (.int (nI 0)), some (.int (nI 12)), none, none]) 35 rfl d_Act_run_33 (by decide) rfl rfl ?_
  refine r_aload_n rfl 36 rfl d_Act_run_35 ?_
  refine r_getf (v := .ref (a 1)) gf_Act_9 0 rfl rfl 39 rfl d_Act_run_36 ?_
  refine r_aload_n rfl 40 rfl d_Act_run_39 ?_
  refine r_getf (v := .int (nI s.1)) gf_Act_36 0 rfl rfl 43 rfl d_Act_run_40 ?_
  refine r_iload rfl 45 rfl d_Act_run_43 ?_
  refine r_callSn1 (st2 := []) (w2 := AV X a s.1 (if s.1 < 20 then upd s.2 s.1 (nI 12) else s.2) p K v) lk_HB_put ln_Act_39 (c_putX X _ s.1 (nI 12) s.2 (by omega)) (by first | decide | omega) rfl rfl (Nat.le_of_ble_eq_true rfl) (Nat.le_of_ble_eq_true rfl) (Nat.le_of_ble_eq_true rfl) [1] rfl rfl rfl rfl rfl 48 rfl d_Act_run_45 ?_
  refine r_aload_n rfl 49 rfl d_Act_run_48 ?_
  refine r_dup rfl 50 rfl d_Act_run_49 ?_
  refine r_getf (v := .int (nI s.1)) gf_Act_36 0 rfl rfl 53 rfl d_Act_run_50 ?_
  refine r_iconst (nI 1) rfl 54 rfl d_Act_run_53 ?_
  refine r_iadd 55 rfl d_Act_run_54 ?_
  refine r_topi (nI (s.1 + 1)) (nI_add _ _) ?_
  refine r_putf (w2 := AV X a (s.1 + 1) (if s.1 < 20 then upd s.2 s.1 (nI 12) else s.2) p K v) pf_Act_36 0 rfl (rfl) rfl (Nat.le_of_ble_eq_true rfl) rfl 58 rfl d_Act_run_55 ?_
  refine Runs.cast (w' := AV X a ((rnT s 12).1) ((rnT s 12).2) p K v) ?_ rfl rfl rfl
  refine r_getsN (v := .ref (X.2.2.2 0)) (fun A U H h => h.1) (inNW 791 (by decide +kernel) rfl) 61 rfl d_Act_run_58 ?_
  refine r_iload rfl 63 rfl d_Act_run_61 ?_
  refine r_callSn1 (st2 := [.int (aboveV.getD 0 0)]) (w2 := AV X a ((rnT s 12).1) ((rnT s 12).2) p K v) lk_HB_at ln_Act_32 (c_atA X 0 (by omega)) (by first | decide | omega) rfl rfl (Nat.le_of_ble_eq_true rfl) (Nat.le_of_ble_eq_true rfl) (Nat.le_of_ble_eq_true rfl) [] rfl rfl rfl rfl rfl 66 rfl d_Act_run_63 ?_
  refine r_topi ((-1)) (by decide +kernel) ?_
  refine r_istore (ls2 := [some (.ref (a 0)), some (.int (nI 2)), some (.int (nI 2)), some (.int x), some (.int (nI dp)), some (.int (nI 0)), some (.int (nI 12)), some (.int (-1)), none]) 68 rfl d_Act_run_66 (by decide) rfl rfl ?_
  refine r_iload rfl 70 rfl d_Act_run_68 ?_
  refine r_iconst (nI 1) rfl 71 rfl d_Act_run_70 ?_
  refine r_iadd 72 rfl d_Act_run_71 ?_
  refine r_topi (nI (dp + 1)) (nI_add _ _) ?_
  refine r_istore (ls2 := [some (.ref (a 0)), some (.int (nI 2)), some (.int (nI 2)), some (.int x), some (.int (nI dp)), some (.int (nI 0)), some (.int (nI 12)), some (.int (-1)), some (.int (nI (dp + 1)))]) 74 rfl d_Act_run_72 (by decide) rfl rfl ?_
  refine r_iload rfl 76 rfl d_Act_run_74 ?_
  refine r_lookup (off := 125) 201 d_Act_run_76 (by decide) (by rfl) rfl ?_
  refine r_aload_n rfl 202 rfl d_Act_run_201 ?_
  refine r_aload_n rfl 203 rfl d_Act_run_202 ?_
  refine r_getf (v := .int (nI K)) gf_Act_19 0 rfl rfl 206 rfl d_Act_run_203 ?_
  refine r_iconst (nI 1) rfl 207 rfl d_Act_run_206 ?_
  refine r_iload_n rfl 208 rfl d_Act_run_207 ?_
  refine r_iload rfl 210 rfl d_Act_run_208 ?_
  refine r_callVA1 (st2 := [.int ((le p K v 7 K x (rnT s 12)).1)]) (w2 := AV X a (((le p K v 7 K x (rnT s 12)).2).1) (((le p K v 7 K x (rnT s 12)).2).2) p K v) lk_Act_run ln_Act_46 (c_run1 X a d p K v x (dp + 1) (rnT s 12) hK6 (show s.1 + 1 < 130000 by omega) (by omega)) (by first | decide | omega) rfl rfl (Nat.le_of_ble_eq_true rfl) (Nat.le_of_ble_eq_true rfl) (Nat.le_of_ble_eq_true rfl) 0 rfl rfl AV_f rfl 213 rfl d_Act_run_210 ?_
  refine r_iconst (nI 2) rfl 214 rfl d_Act_run_213 ?_
  refine r_imul 215 rfl d_Act_run_214 ?_
  exact r_iret rfl (Nat.zero_le _) (Nat.zero_le _) d_Act_run_215 (by rw [← hQ]; rw [g_2_2]; exact ⟨rfl, rfl⟩)
theorem c_run2_4 (X : Xn) (a : Nat → Nat) (d p K : Nat) (v : Int32) (x : Int32) (dp : Nat) (s : Trc) (hK6 : K ≤ 6) (hr : s.1 < 120000) (hdp : dp ≤ 22) : Does X (d + 8) M_Act_run [.ref (a 0), .int (nI 4), .int (nI 2), .int x, .int (nI dp)] (AV X a s.1 s.2 p K v) 0 0 (fun (vv : Option Value) (ww : va_W) => vv = some (.int (te p K v 7 4 x s).1) ∧ ww = AV X a (((te p K v 7 4 x s).2).1) (((te p K v 7 4 x s).2).2) p K v) := by
  generalize hQ : (fun (vv : Option Value) (ww : va_W) => vv = some (.int (te p K v 7 4 x s).1) ∧ ww = AV X a (((te p K v 7 4 x s).2).1) (((te p K v 7 4 x s).2).2) p K v) = Q
  refine Does.go rfl (Nat.le_of_ble_eq_true rfl) [some (.ref (a 0)), some (.int (nI 4)), some (.int (nI 2)), some (.int x), some (.int (nI dp)), none, none, none, none] 4 rfl ?_
  refine r_iload_n rfl 1 rfl d_Act_run_0 ?_
  refine r_iload_n rfl 2 rfl d_Act_run_1 ?_
  refine r_callS1 (st2 := [.int (nI (own 4 2))]) (w2 := AV X a s.1 s.2 p K v) lk_Act_ownerOf ln_Act_25 (c_Act_ownerOf X 4 2 (by omega) (by omega)) (by first | decide | omega) rfl rfl (Nat.le_of_ble_eq_true rfl) (Nat.le_of_ble_eq_true rfl) (Nat.le_of_ble_eq_true rfl) [] rfl rfl rfl rfl rfl 5 rfl d_Act_run_2 ?_
  refine r_topi (nI (0)) (by decide +kernel) ?_
  refine r_istore (ls2 := [some (.ref (a 0)), some (.int (nI 4)), some (.int (nI 2)), some (.int x), some (.int (nI dp)), some (.int (nI 0)), none, none, none]) 7 rfl d_Act_run_5 (by decide) rfl rfl ?_
  refine r_iload rfl 9 rfl d_Act_run_7 ?_
  refine r_if_ltN_f 0 (by omega) 12 rfl 19 rfl d_Act_run_9 (by omega) ?_
  refine r_iload rfl 14 rfl d_Act_run_12 ?_
  refine r_bipush (nI 40) rfl 16 rfl d_Act_run_14 ?_
  refine r_icmp_ltN_t dp 40 (by omega) (by omega) 21 rfl d_Act_run_16 (by omega) ?_
  refine r_getsN (v := .ref (X.2.2.2 1)) (fun A U H h => h.2.2.1) (inNW 788 (by decide +kernel) rfl) 24 rfl d_Act_run_21 ?_
  refine r_iload rfl 26 rfl d_Act_run_24 ?_
  refine r_iconst (nI 3) rfl 27 rfl d_Act_run_26 ?_
  refine r_imul 28 rfl d_Act_run_27 ?_
  refine r_topi (nI (0 * 3)) (pk_mul _ _) ?_
  refine r_iload_n rfl 29 rfl d_Act_run_28 ?_
  refine r_iadd 30 rfl d_Act_run_29 ?_
  refine r_topi (nI ((0 * 3) + 2)) (nI_add _ _) ?_
  refine r_callSn1 (st2 := [.int (bodyV.getD ((0 * 3) + 2) 0)]) (w2 := AV X a s.1 s.2 p K v) lk_HB_at ln_Act_32 (c_atB X ((0 * 3) + 2) (by omega)) (by first | decide | omega) rfl rfl (Nat.le_of_ble_eq_true rfl) (Nat.le_of_ble_eq_true rfl) (Nat.le_of_ble_eq_true rfl) [] rfl rfl rfl rfl rfl 33 rfl d_Act_run_30 ?_
  refine r_topi (nI (12)) (by decide +kernel) ?_
  refine r_istore (ls2 := [some (.ref (a 0)), some (.int (nI 4)), some (.int (nI 2)), some (.int x), some (.int (nI dp)), some (.int (nI 0)), some (.int (nI 12)), none, none]) 35 rfl d_Act_run_33 (by decide) rfl rfl ?_
  refine r_aload_n rfl 36 rfl d_Act_run_35 ?_
  refine r_getf (v := .ref (a 1)) gf_Act_9 0 rfl rfl 39 rfl d_Act_run_36 ?_
  refine r_aload_n rfl 40 rfl d_Act_run_39 ?_
  refine r_getf (v := .int (nI s.1)) gf_Act_36 0 rfl rfl 43 rfl d_Act_run_40 ?_
  refine r_iload rfl 45 rfl d_Act_run_43 ?_
  refine r_callSn1 (st2 := []) (w2 := AV X a s.1 (if s.1 < 20 then upd s.2 s.1 (nI 12) else s.2) p K v) lk_HB_put ln_Act_39 (c_putX X _ s.1 (nI 12) s.2 (by omega)) (by first | decide | omega) rfl rfl (Nat.le_of_ble_eq_true rfl) (Nat.le_of_ble_eq_true rfl) (Nat.le_of_ble_eq_true rfl) [1] rfl rfl rfl rfl rfl 48 rfl d_Act_run_45 ?_
  refine r_aload_n rfl 49 rfl d_Act_run_48 ?_
  refine r_dup rfl 50 rfl d_Act_run_49 ?_
  refine r_getf (v := .int (nI s.1)) gf_Act_36 0 rfl rfl 53 rfl d_Act_run_50 ?_
  refine r_iconst (nI 1) rfl 54 rfl d_Act_run_53 ?_
  refine r_iadd 55 rfl d_Act_run_54 ?_
  refine r_topi (nI (s.1 + 1)) (nI_add _ _) ?_
  refine r_putf (w2 := AV X a (s.1 + 1) (if s.1 < 20 then upd s.2 s.1 (nI 12) else s.2) p K v) pf_Act_36 0 rfl (rfl) rfl (Nat.le_of_ble_eq_true rfl) rfl 58 rfl d_Act_run_55 ?_
  refine Runs.cast (w' := AV X a ((rnT s 12).1) ((rnT s 12).2) p K v) ?_ rfl rfl rfl
  refine r_getsN (v := .ref (X.2.2.2 0)) (fun A U H h => h.1) (inNW 791 (by decide +kernel) rfl) 61 rfl d_Act_run_58 ?_
  refine r_iload rfl 63 rfl d_Act_run_61 ?_
  refine r_callSn1 (st2 := [.int (aboveV.getD 0 0)]) (w2 := AV X a ((rnT s 12).1) ((rnT s 12).2) p K v) lk_HB_at ln_Act_32 (c_atA X 0 (by omega)) (by first | decide | omega) rfl rfl (Nat.le_of_ble_eq_true rfl) (Nat.le_of_ble_eq_true rfl) (Nat.le_of_ble_eq_true rfl) [] rfl rfl rfl rfl rfl 66 rfl d_Act_run_63 ?_
  refine r_topi ((-1)) (by decide +kernel) ?_
  refine r_istore (ls2 := [some (.ref (a 0)), some (.int (nI 4)), some (.int (nI 2)), some (.int x), some (.int (nI dp)), some (.int (nI 0)), some (.int (nI 12)), some (.int (-1)), none]) 68 rfl d_Act_run_66 (by decide) rfl rfl ?_
  refine r_iload rfl 70 rfl d_Act_run_68 ?_
  refine r_iconst (nI 1) rfl 71 rfl d_Act_run_70 ?_
  refine r_iadd 72 rfl d_Act_run_71 ?_
  refine r_topi (nI (dp + 1)) (nI_add _ _) ?_
  refine r_istore (ls2 := [some (.ref (a 0)), some (.int (nI 4)), some (.int (nI 2)), some (.int x), some (.int (nI dp)), some (.int (nI 0)), some (.int (nI 12)), some (.int (-1)), some (.int (nI (dp + 1)))]) 74 rfl d_Act_run_72 (by decide) rfl rfl ?_
  refine r_iload rfl 76 rfl d_Act_run_74 ?_
  refine r_lookup (off := 125) 201 d_Act_run_76 (by decide) (by rfl) rfl ?_
  refine r_aload_n rfl 202 rfl d_Act_run_201 ?_
  refine r_aload_n rfl 203 rfl d_Act_run_202 ?_
  refine r_getf (v := .int (nI K)) gf_Act_19 0 rfl rfl 206 rfl d_Act_run_203 ?_
  refine r_iconst (nI 1) rfl 207 rfl d_Act_run_206 ?_
  refine r_iload_n rfl 208 rfl d_Act_run_207 ?_
  refine r_iload rfl 210 rfl d_Act_run_208 ?_
  refine r_callVA1 (st2 := [.int ((le p K v 7 K x (rnT s 12)).1)]) (w2 := AV X a (((le p K v 7 K x (rnT s 12)).2).1) (((le p K v 7 K x (rnT s 12)).2).2) p K v) lk_Act_run ln_Act_46 (c_run1 X a d p K v x (dp + 1) (rnT s 12) hK6 (show s.1 + 1 < 130000 by omega) (by omega)) (by first | decide | omega) rfl rfl (Nat.le_of_ble_eq_true rfl) (Nat.le_of_ble_eq_true rfl) (Nat.le_of_ble_eq_true rfl) 0 rfl rfl AV_f rfl 213 rfl d_Act_run_210 ?_
  refine r_iconst (nI 2) rfl 214 rfl d_Act_run_213 ?_
  refine r_imul 215 rfl d_Act_run_214 ?_
  exact r_iret rfl (Nat.zero_le _) (Nat.zero_le _) d_Act_run_215 (by rw [← hQ]; rw [g_2_4]; exact ⟨rfl, rfl⟩)
theorem c_run2_3 (X : Xn) (a : Nat → Nat) (d p K : Nat) (v : Int32) (x : Int32) (dp : Nat) (s : Trc) (hK6 : K ≤ 6) (hr : s.1 < 110000) (hdp : dp ≤ 21) : Does X (d + 9) M_Act_run [.ref (a 0), .int (nI 3), .int (nI 2), .int x, .int (nI dp)] (AV X a s.1 s.2 p K v) 0 0 (fun (vv : Option Value) (ww : va_W) => vv = some (.int (te p K v 7 3 x s).1) ∧ ww = AV X a (((te p K v 7 3 x s).2).1) (((te p K v 7 3 x s).2).2) p K v) := by
  generalize hQ : (fun (vv : Option Value) (ww : va_W) => vv = some (.int (te p K v 7 3 x s).1) ∧ ww = AV X a (((te p K v 7 3 x s).2).1) (((te p K v 7 3 x s).2).2) p K v) = Q
  refine Does.go rfl (Nat.le_of_ble_eq_true rfl) [some (.ref (a 0)), some (.int (nI 3)), some (.int (nI 2)), some (.int x), some (.int (nI dp)), none, none, none, none] 4 rfl ?_
  refine r_iload_n rfl 1 rfl d_Act_run_0 ?_
  refine r_iload_n rfl 2 rfl d_Act_run_1 ?_
  refine r_callS1 (st2 := [.int (nI (own 3 2))]) (w2 := AV X a s.1 s.2 p K v) lk_Act_ownerOf ln_Act_25 (c_Act_ownerOf X 3 2 (by omega) (by omega)) (by first | decide | omega) rfl rfl (Nat.le_of_ble_eq_true rfl) (Nat.le_of_ble_eq_true rfl) (Nat.le_of_ble_eq_true rfl) [] rfl rfl rfl rfl rfl 5 rfl d_Act_run_2 ?_
  refine r_topi (nI (3)) (by decide +kernel) ?_
  refine r_istore (ls2 := [some (.ref (a 0)), some (.int (nI 3)), some (.int (nI 2)), some (.int x), some (.int (nI dp)), some (.int (nI 3)), none, none, none]) 7 rfl d_Act_run_5 (by decide) rfl rfl ?_
  refine r_iload rfl 9 rfl d_Act_run_7 ?_
  refine r_if_ltN_f 3 (by omega) 12 rfl 19 rfl d_Act_run_9 (by omega) ?_
  refine r_iload rfl 14 rfl d_Act_run_12 ?_
  refine r_bipush (nI 40) rfl 16 rfl d_Act_run_14 ?_
  refine r_icmp_ltN_t dp 40 (by omega) (by omega) 21 rfl d_Act_run_16 (by omega) ?_
  refine r_getsN (v := .ref (X.2.2.2 1)) (fun A U H h => h.2.2.1) (inNW 788 (by decide +kernel) rfl) 24 rfl d_Act_run_21 ?_
  refine r_iload rfl 26 rfl d_Act_run_24 ?_
  refine r_iconst (nI 3) rfl 27 rfl d_Act_run_26 ?_
  refine r_imul 28 rfl d_Act_run_27 ?_
  refine r_topi (nI (3 * 3)) (pk_mul _ _) ?_
  refine r_iload_n rfl 29 rfl d_Act_run_28 ?_
  refine r_iadd 30 rfl d_Act_run_29 ?_
  refine r_topi (nI ((3 * 3) + 2)) (nI_add _ _) ?_
  refine r_callSn1 (st2 := [.int (bodyV.getD ((3 * 3) + 2) 0)]) (w2 := AV X a s.1 s.2 p K v) lk_HB_at ln_Act_32 (c_atB X ((3 * 3) + 2) (by omega)) (by first | decide | omega) rfl rfl (Nat.le_of_ble_eq_true rfl) (Nat.le_of_ble_eq_true rfl) (Nat.le_of_ble_eq_true rfl) [] rfl rfl rfl rfl rfl 33 rfl d_Act_run_30 ?_
  refine r_topi (nI (40)) (by decide +kernel) ?_
  refine r_istore (ls2 := [some (.ref (a 0)), some (.int (nI 3)), some (.int (nI 2)), some (.int x), some (.int (nI dp)), some (.int (nI 3)), some (.int (nI 40)), none, none]) 35 rfl d_Act_run_33 (by decide) rfl rfl ?_
  refine r_aload_n rfl 36 rfl d_Act_run_35 ?_
  refine r_getf (v := .ref (a 1)) gf_Act_9 0 rfl rfl 39 rfl d_Act_run_36 ?_
  refine r_aload_n rfl 40 rfl d_Act_run_39 ?_
  refine r_getf (v := .int (nI s.1)) gf_Act_36 0 rfl rfl 43 rfl d_Act_run_40 ?_
  refine r_iload rfl 45 rfl d_Act_run_43 ?_
  refine r_callSn1 (st2 := []) (w2 := AV X a s.1 (if s.1 < 20 then upd s.2 s.1 (nI 40) else s.2) p K v) lk_HB_put ln_Act_39 (c_putX X _ s.1 (nI 40) s.2 (by omega)) (by first | decide | omega) rfl rfl (Nat.le_of_ble_eq_true rfl) (Nat.le_of_ble_eq_true rfl) (Nat.le_of_ble_eq_true rfl) [1] rfl rfl rfl rfl rfl 48 rfl d_Act_run_45 ?_
  refine r_aload_n rfl 49 rfl d_Act_run_48 ?_
  refine r_dup rfl 50 rfl d_Act_run_49 ?_
  refine r_getf (v := .int (nI s.1)) gf_Act_36 0 rfl rfl 53 rfl d_Act_run_50 ?_
  refine r_iconst (nI 1) rfl 54 rfl d_Act_run_53 ?_
  refine r_iadd 55 rfl d_Act_run_54 ?_
  refine r_topi (nI (s.1 + 1)) (nI_add _ _) ?_
  refine r_putf (w2 := AV X a (s.1 + 1) (if s.1 < 20 then upd s.2 s.1 (nI 40) else s.2) p K v) pf_Act_36 0 rfl (rfl) rfl (Nat.le_of_ble_eq_true rfl) rfl 58 rfl d_Act_run_55 ?_
  refine Runs.cast (w' := AV X a ((rnT s 40).1) ((rnT s 40).2) p K v) ?_ rfl rfl rfl
  refine r_getsN (v := .ref (X.2.2.2 0)) (fun A U H h => h.1) (inNW 791 (by decide +kernel) rfl) 61 rfl d_Act_run_58 ?_
  refine r_iload rfl 63 rfl d_Act_run_61 ?_
  refine r_callSn1 (st2 := [.int (aboveV.getD 3 0)]) (w2 := AV X a ((rnT s 40).1) ((rnT s 40).2) p K v) lk_HB_at ln_Act_32 (c_atA X 3 (by omega)) (by first | decide | omega) rfl rfl (Nat.le_of_ble_eq_true rfl) (Nat.le_of_ble_eq_true rfl) (Nat.le_of_ble_eq_true rfl) [] rfl rfl rfl rfl rfl 66 rfl d_Act_run_63 ?_
  refine r_topi (nI (0)) (by decide +kernel) ?_
  refine r_istore (ls2 := [some (.ref (a 0)), some (.int (nI 3)), some (.int (nI 2)), some (.int x), some (.int (nI dp)), some (.int (nI 3)), some (.int (nI 40)), some (.int (nI 0)), none]) 68 rfl d_Act_run_66 (by decide) rfl rfl ?_
  refine r_iload rfl 70 rfl d_Act_run_68 ?_
  refine r_iconst (nI 1) rfl 71 rfl d_Act_run_70 ?_
  refine r_iadd 72 rfl d_Act_run_71 ?_
  refine r_topi (nI (dp + 1)) (nI_add _ _) ?_
  refine r_istore (ls2 := [some (.ref (a 0)), some (.int (nI 3)), some (.int (nI 2)), some (.int x), some (.int (nI dp)), some (.int (nI 3)), some (.int (nI 40)), some (.int (nI 0)), some (.int (nI (dp + 1)))]) 74 rfl d_Act_run_72 (by decide) rfl rfl ?_
  refine r_iload rfl 76 rfl d_Act_run_74 ?_
  refine r_lookup (off := 167) 243 d_Act_run_76 (by decide) (by rfl) rfl ?_
  refine r_aload_n rfl 244 rfl d_Act_run_243 ?_
  refine r_iload rfl 246 rfl d_Act_run_244 ?_
  refine r_iconst (nI 2) rfl 247 rfl d_Act_run_246 ?_
  refine r_iload_n rfl 248 rfl d_Act_run_247 ?_
  refine r_iload rfl 250 rfl d_Act_run_248 ?_
  refine r_callVA1 (st2 := [.int ((te p K v 7 0 x (rnT s 40)).1)]) (w2 := AV X a (((te p K v 7 0 x (rnT s 40)).2).1) (((te p K v 7 0 x (rnT s 40)).2).2) p K v) lk_Act_run ln_Act_46 (c_run2_0 X a d p K v x (dp + 1) (rnT s 40) hK6 (show s.1 + 1 < 120000 by omega) (by omega)) (by first | decide | omega) rfl rfl (Nat.le_of_ble_eq_true rfl) (Nat.le_of_ble_eq_true rfl) (Nat.le_of_ble_eq_true rfl) 0 rfl rfl AV_f rfl 253 rfl d_Act_run_250 ?_
  refine r_aload_n rfl 254 rfl d_Act_run_253 ?_
  refine r_aload_n rfl 255 rfl d_Act_run_254 ?_
  refine r_getf (v := .int (nI K)) gf_Act_19 0 rfl rfl 258 rfl d_Act_run_255 ?_
  refine r_iconst (nI 1) rfl 259 rfl d_Act_run_258 ?_
  refine r_iconst (nI 1) rfl 260 rfl d_Act_run_259 ?_
  refine r_iload rfl 262 rfl d_Act_run_260 ?_
  refine r_callVA1 (st2 := [.int ((le p K v 7 K (nI 1) ((te p K v 7 0 x (rnT s 40)).2)).1), .int ((te p K v 7 0 x (rnT s 40)).1)]) (w2 := AV X a (((le p K v 7 K (nI 1) ((te p K v 7 0 x (rnT s 40)).2)).2).1) (((le p K v 7 K (nI 1) ((te p K v 7 0 x (rnT s 40)).2)).2).2) p K v) lk_Act_run ln_Act_46 (c_run1 X a (d + 1) p K v (nI 1) (dp + 1) ((te p K v 7 0 x (rnT s 40)).2) hK6 (cnt_lt (te_cnt p K v 7 0 x (rnT s 40)) (by omega)) (by omega)) (by first | decide | omega) rfl rfl (Nat.le_of_ble_eq_true rfl) (Nat.le_of_ble_eq_true rfl) (Nat.le_of_ble_eq_true rfl) 0 rfl rfl AV_f rfl 265 rfl d_Act_run_262 ?_
  refine r_iadd 266 rfl d_Act_run_265 ?_
  exact r_iret rfl (Nat.zero_le _) (Nat.zero_le _) d_Act_run_266 (by rw [← hQ]; rw [g_2_3]; exact ⟨rfl, rfl⟩)
theorem c_run2_5 (X : Xn) (a : Nat → Nat) (d p K : Nat) (v : Int32) (x : Int32) (dp : Nat) (s : Trc) (hK6 : K ≤ 6) (hr : s.1 < 110000) (hdp : dp ≤ 21) : Does X (d + 9) M_Act_run [.ref (a 0), .int (nI 5), .int (nI 2), .int x, .int (nI dp)] (AV X a s.1 s.2 p K v) 0 0 (fun (vv : Option Value) (ww : va_W) => vv = some (.int (te p K v 7 5 x s).1) ∧ ww = AV X a (((te p K v 7 5 x s).2).1) (((te p K v 7 5 x s).2).2) p K v) := by
  generalize hQ : (fun (vv : Option Value) (ww : va_W) => vv = some (.int (te p K v 7 5 x s).1) ∧ ww = AV X a (((te p K v 7 5 x s).2).1) (((te p K v 7 5 x s).2).2) p K v) = Q
  refine Does.go rfl (Nat.le_of_ble_eq_true rfl) [some (.ref (a 0)), some (.int (nI 5)), some (.int (nI 2)), some (.int x), some (.int (nI dp)), none, none, none, none] 4 rfl ?_
  refine r_iload_n rfl 1 rfl d_Act_run_0 ?_
  refine r_iload_n rfl 2 rfl d_Act_run_1 ?_
  refine r_callS1 (st2 := [.int (nI (own 5 2))]) (w2 := AV X a s.1 s.2 p K v) lk_Act_ownerOf ln_Act_25 (c_Act_ownerOf X 5 2 (by omega) (by omega)) (by first | decide | omega) rfl rfl (Nat.le_of_ble_eq_true rfl) (Nat.le_of_ble_eq_true rfl) (Nat.le_of_ble_eq_true rfl) [] rfl rfl rfl rfl rfl 5 rfl d_Act_run_2 ?_
  refine r_topi (nI (5)) (by decide +kernel) ?_
  refine r_istore (ls2 := [some (.ref (a 0)), some (.int (nI 5)), some (.int (nI 2)), some (.int x), some (.int (nI dp)), some (.int (nI 5)), none, none, none]) 7 rfl d_Act_run_5 (by decide) rfl rfl ?_
  refine r_iload rfl 9 rfl d_Act_run_7 ?_
  refine r_if_ltN_f 5 (by omega) 12 rfl 19 rfl d_Act_run_9 (by omega) ?_
  refine r_iload rfl 14 rfl d_Act_run_12 ?_
  refine r_bipush (nI 40) rfl 16 rfl d_Act_run_14 ?_
  refine r_icmp_ltN_t dp 40 (by omega) (by omega) 21 rfl d_Act_run_16 (by omega) ?_
  refine r_getsN (v := .ref (X.2.2.2 1)) (fun A U H h => h.2.2.1) (inNW 788 (by decide +kernel) rfl) 24 rfl d_Act_run_21 ?_
  refine r_iload rfl 26 rfl d_Act_run_24 ?_
  refine r_iconst (nI 3) rfl 27 rfl d_Act_run_26 ?_
  refine r_imul 28 rfl d_Act_run_27 ?_
  refine r_topi (nI (5 * 3)) (pk_mul _ _) ?_
  refine r_iload_n rfl 29 rfl d_Act_run_28 ?_
  refine r_iadd 30 rfl d_Act_run_29 ?_
  refine r_topi (nI ((5 * 3) + 2)) (nI_add _ _) ?_
  refine r_callSn1 (st2 := [.int (bodyV.getD ((5 * 3) + 2) 0)]) (w2 := AV X a s.1 s.2 p K v) lk_HB_at ln_Act_32 (c_atB X ((5 * 3) + 2) (by omega)) (by first | decide | omega) rfl rfl (Nat.le_of_ble_eq_true rfl) (Nat.le_of_ble_eq_true rfl) (Nat.le_of_ble_eq_true rfl) [] rfl rfl rfl rfl rfl 33 rfl d_Act_run_30 ?_
  refine r_topi (nI (60)) (by decide +kernel) ?_
  refine r_istore (ls2 := [some (.ref (a 0)), some (.int (nI 5)), some (.int (nI 2)), some (.int x), some (.int (nI dp)), some (.int (nI 5)), some (.int (nI 60)), none, none]) 35 rfl d_Act_run_33 (by decide) rfl rfl ?_
  refine r_aload_n rfl 36 rfl d_Act_run_35 ?_
  refine r_getf (v := .ref (a 1)) gf_Act_9 0 rfl rfl 39 rfl d_Act_run_36 ?_
  refine r_aload_n rfl 40 rfl d_Act_run_39 ?_
  refine r_getf (v := .int (nI s.1)) gf_Act_36 0 rfl rfl 43 rfl d_Act_run_40 ?_
  refine r_iload rfl 45 rfl d_Act_run_43 ?_
  refine r_callSn1 (st2 := []) (w2 := AV X a s.1 (if s.1 < 20 then upd s.2 s.1 (nI 60) else s.2) p K v) lk_HB_put ln_Act_39 (c_putX X _ s.1 (nI 60) s.2 (by omega)) (by first | decide | omega) rfl rfl (Nat.le_of_ble_eq_true rfl) (Nat.le_of_ble_eq_true rfl) (Nat.le_of_ble_eq_true rfl) [1] rfl rfl rfl rfl rfl 48 rfl d_Act_run_45 ?_
  refine r_aload_n rfl 49 rfl d_Act_run_48 ?_
  refine r_dup rfl 50 rfl d_Act_run_49 ?_
  refine r_getf (v := .int (nI s.1)) gf_Act_36 0 rfl rfl 53 rfl d_Act_run_50 ?_
  refine r_iconst (nI 1) rfl 54 rfl d_Act_run_53 ?_
  refine r_iadd 55 rfl d_Act_run_54 ?_
  refine r_topi (nI (s.1 + 1)) (nI_add _ _) ?_
  refine r_putf (w2 := AV X a (s.1 + 1) (if s.1 < 20 then upd s.2 s.1 (nI 60) else s.2) p K v) pf_Act_36 0 rfl (rfl) rfl (Nat.le_of_ble_eq_true rfl) rfl 58 rfl d_Act_run_55 ?_
  refine Runs.cast (w' := AV X a ((rnT s 60).1) ((rnT s 60).2) p K v) ?_ rfl rfl rfl
  refine r_getsN (v := .ref (X.2.2.2 0)) (fun A U H h => h.1) (inNW 791 (by decide +kernel) rfl) 61 rfl d_Act_run_58 ?_
  refine r_iload rfl 63 rfl d_Act_run_61 ?_
  refine r_callSn1 (st2 := [.int (aboveV.getD 5 0)]) (w2 := AV X a ((rnT s 60).1) ((rnT s 60).2) p K v) lk_HB_at ln_Act_32 (c_atA X 5 (by omega)) (by first | decide | omega) rfl rfl (Nat.le_of_ble_eq_true rfl) (Nat.le_of_ble_eq_true rfl) (Nat.le_of_ble_eq_true rfl) [] rfl rfl rfl rfl rfl 66 rfl d_Act_run_63 ?_
  refine r_topi (nI (2)) (by decide +kernel) ?_
  refine r_istore (ls2 := [some (.ref (a 0)), some (.int (nI 5)), some (.int (nI 2)), some (.int x), some (.int (nI dp)), some (.int (nI 5)), some (.int (nI 60)), some (.int (nI 2)), none]) 68 rfl d_Act_run_66 (by decide) rfl rfl ?_
  refine r_iload rfl 70 rfl d_Act_run_68 ?_
  refine r_iconst (nI 1) rfl 71 rfl d_Act_run_70 ?_
  refine r_iadd 72 rfl d_Act_run_71 ?_
  refine r_topi (nI (dp + 1)) (nI_add _ _) ?_
  refine r_istore (ls2 := [some (.ref (a 0)), some (.int (nI 5)), some (.int (nI 2)), some (.int x), some (.int (nI dp)), some (.int (nI 5)), some (.int (nI 60)), some (.int (nI 2)), some (.int (nI (dp + 1)))]) 74 rfl d_Act_run_72 (by decide) rfl rfl ?_
  refine r_iload rfl 76 rfl d_Act_run_74 ?_
  refine r_lookup (off := 216) 292 d_Act_run_76 (by decide) (by rfl) rfl ?_
  refine r_aload_n rfl 293 rfl d_Act_run_292 ?_
  refine r_iload rfl 295 rfl d_Act_run_293 ?_
  refine r_iconst (nI 2) rfl 296 rfl d_Act_run_295 ?_
  refine r_iload_n rfl 297 rfl d_Act_run_296 ?_
  refine r_aload_n rfl 298 rfl d_Act_run_297 ?_
  refine r_getf (v := .int (nI p)) gf_Act_15 0 rfl rfl 301 rfl d_Act_run_298 ?_
  refine r_isub 302 rfl d_Act_run_301 ?_
  refine r_iload rfl 304 rfl d_Act_run_302 ?_
  refine r_callVA1 (st2 := [.int ((te p K v 7 2 (x - (nI p)) (rnT s 60)).1)]) (w2 := AV X a (((te p K v 7 2 (x - (nI p)) (rnT s 60)).2).1) (((te p K v 7 2 (x - (nI p)) (rnT s 60)).2).2) p K v) lk_Act_run ln_Act_46 (c_run2_2 X a d p K v (x - (nI p)) (dp + 1) (rnT s 60) hK6 (show s.1 + 1 < 120000 by omega) (by omega)) (by first | decide | omega) rfl rfl (Nat.le_of_ble_eq_true rfl) (Nat.le_of_ble_eq_true rfl) (Nat.le_of_ble_eq_true rfl) 0 rfl rfl AV_f rfl 307 rfl d_Act_run_304 ?_
  exact r_iret rfl (Nat.zero_le _) (Nat.zero_le _) d_Act_run_307 (by rw [← hQ]; rw [g_2_5]; exact ⟨rfl, rfl⟩)
theorem c_run2_6 (X : Xn) (a : Nat → Nat) (d p K : Nat) (v : Int32) (x : Int32) (dp : Nat) (s : Trc) (hK6 : K ≤ 6) (hr : s.1 < 110000) (hdp : dp ≤ 21) : Does X (d + 9) M_Act_run [.ref (a 0), .int (nI 6), .int (nI 2), .int x, .int (nI dp)] (AV X a s.1 s.2 p K v) 0 0 (fun (vv : Option Value) (ww : va_W) => vv = some (.int (te p K v 7 6 x s).1) ∧ ww = AV X a (((te p K v 7 6 x s).2).1) (((te p K v 7 6 x s).2).2) p K v) := by
  generalize hQ : (fun (vv : Option Value) (ww : va_W) => vv = some (.int (te p K v 7 6 x s).1) ∧ ww = AV X a (((te p K v 7 6 x s).2).1) (((te p K v 7 6 x s).2).2) p K v) = Q
  refine Does.go rfl (Nat.le_of_ble_eq_true rfl) [some (.ref (a 0)), some (.int (nI 6)), some (.int (nI 2)), some (.int x), some (.int (nI dp)), none, none, none, none] 4 rfl ?_
  refine r_iload_n rfl 1 rfl d_Act_run_0 ?_
  refine r_iload_n rfl 2 rfl d_Act_run_1 ?_
  refine r_callS1 (st2 := [.int (nI (own 6 2))]) (w2 := AV X a s.1 s.2 p K v) lk_Act_ownerOf ln_Act_25 (c_Act_ownerOf X 6 2 (by omega) (by omega)) (by first | decide | omega) rfl rfl (Nat.le_of_ble_eq_true rfl) (Nat.le_of_ble_eq_true rfl) (Nat.le_of_ble_eq_true rfl) [] rfl rfl rfl rfl rfl 5 rfl d_Act_run_2 ?_
  refine r_topi (nI (3)) (by decide +kernel) ?_
  refine r_istore (ls2 := [some (.ref (a 0)), some (.int (nI 6)), some (.int (nI 2)), some (.int x), some (.int (nI dp)), some (.int (nI 3)), none, none, none]) 7 rfl d_Act_run_5 (by decide) rfl rfl ?_
  refine r_iload rfl 9 rfl d_Act_run_7 ?_
  refine r_if_ltN_f 3 (by omega) 12 rfl 19 rfl d_Act_run_9 (by omega) ?_
  refine r_iload rfl 14 rfl d_Act_run_12 ?_
  refine r_bipush (nI 40) rfl 16 rfl d_Act_run_14 ?_
  refine r_icmp_ltN_t dp 40 (by omega) (by omega) 21 rfl d_Act_run_16 (by omega) ?_
  refine r_getsN (v := .ref (X.2.2.2 1)) (fun A U H h => h.2.2.1) (inNW 788 (by decide +kernel) rfl) 24 rfl d_Act_run_21 ?_
  refine r_iload rfl 26 rfl d_Act_run_24 ?_
  refine r_iconst (nI 3) rfl 27 rfl d_Act_run_26 ?_
  refine r_imul 28 rfl d_Act_run_27 ?_
  refine r_topi (nI (3 * 3)) (pk_mul _ _) ?_
  refine r_iload_n rfl 29 rfl d_Act_run_28 ?_
  refine r_iadd 30 rfl d_Act_run_29 ?_
  refine r_topi (nI ((3 * 3) + 2)) (nI_add _ _) ?_
  refine r_callSn1 (st2 := [.int (bodyV.getD ((3 * 3) + 2) 0)]) (w2 := AV X a s.1 s.2 p K v) lk_HB_at ln_Act_32 (c_atB X ((3 * 3) + 2) (by omega)) (by first | decide | omega) rfl rfl (Nat.le_of_ble_eq_true rfl) (Nat.le_of_ble_eq_true rfl) (Nat.le_of_ble_eq_true rfl) [] rfl rfl rfl rfl rfl 33 rfl d_Act_run_30 ?_
  refine r_topi (nI (40)) (by decide +kernel) ?_
  refine r_istore (ls2 := [some (.ref (a 0)), some (.int (nI 6)), some (.int (nI 2)), some (.int x), some (.int (nI dp)), some (.int (nI 3)), some (.int (nI 40)), none, none]) 35 rfl d_Act_run_33 (by decide) rfl rfl ?_
  refine r_aload_n rfl 36 rfl d_Act_run_35 ?_
  refine r_getf (v := .ref (a 1)) gf_Act_9 0 rfl rfl 39 rfl d_Act_run_36 ?_
  refine r_aload_n rfl 40 rfl d_Act_run_39 ?_
  refine r_getf (v := .int (nI s.1)) gf_Act_36 0 rfl rfl 43 rfl d_Act_run_40 ?_
  refine r_iload rfl 45 rfl d_Act_run_43 ?_
  refine r_callSn1 (st2 := []) (w2 := AV X a s.1 (if s.1 < 20 then upd s.2 s.1 (nI 40) else s.2) p K v) lk_HB_put ln_Act_39 (c_putX X _ s.1 (nI 40) s.2 (by omega)) (by first | decide | omega) rfl rfl (Nat.le_of_ble_eq_true rfl) (Nat.le_of_ble_eq_true rfl) (Nat.le_of_ble_eq_true rfl) [1] rfl rfl rfl rfl rfl 48 rfl d_Act_run_45 ?_
  refine r_aload_n rfl 49 rfl d_Act_run_48 ?_
  refine r_dup rfl 50 rfl d_Act_run_49 ?_
  refine r_getf (v := .int (nI s.1)) gf_Act_36 0 rfl rfl 53 rfl d_Act_run_50 ?_
  refine r_iconst (nI 1) rfl 54 rfl d_Act_run_53 ?_
  refine r_iadd 55 rfl d_Act_run_54 ?_
  refine r_topi (nI (s.1 + 1)) (nI_add _ _) ?_
  refine r_putf (w2 := AV X a (s.1 + 1) (if s.1 < 20 then upd s.2 s.1 (nI 40) else s.2) p K v) pf_Act_36 0 rfl (rfl) rfl (Nat.le_of_ble_eq_true rfl) rfl 58 rfl d_Act_run_55 ?_
  refine Runs.cast (w' := AV X a ((rnT s 40).1) ((rnT s 40).2) p K v) ?_ rfl rfl rfl
  refine r_getsN (v := .ref (X.2.2.2 0)) (fun A U H h => h.1) (inNW 791 (by decide +kernel) rfl) 61 rfl d_Act_run_58 ?_
  refine r_iload rfl 63 rfl d_Act_run_61 ?_
  refine r_callSn1 (st2 := [.int (aboveV.getD 3 0)]) (w2 := AV X a ((rnT s 40).1) ((rnT s 40).2) p K v) lk_HB_at ln_Act_32 (c_atA X 3 (by omega)) (by first | decide | omega) rfl rfl (Nat.le_of_ble_eq_true rfl) (Nat.le_of_ble_eq_true rfl) (Nat.le_of_ble_eq_true rfl) [] rfl rfl rfl rfl rfl 66 rfl d_Act_run_63 ?_
  refine r_topi (nI (0)) (by decide +kernel) ?_
  refine r_istore (ls2 := [some (.ref (a 0)), some (.int (nI 6)), some (.int (nI 2)), some (.int x), some (.int (nI dp)), some (.int (nI 3)), some (.int (nI 40)), some (.int (nI 0)), none]) 68 rfl d_Act_run_66 (by decide) rfl rfl ?_
  refine r_iload rfl 70 rfl d_Act_run_68 ?_
  refine r_iconst (nI 1) rfl 71 rfl d_Act_run_70 ?_
  refine r_iadd 72 rfl d_Act_run_71 ?_
  refine r_topi (nI (dp + 1)) (nI_add _ _) ?_
  refine r_istore (ls2 := [some (.ref (a 0)), some (.int (nI 6)), some (.int (nI 2)), some (.int x), some (.int (nI dp)), some (.int (nI 3)), some (.int (nI 40)), some (.int (nI 0)), some (.int (nI (dp + 1)))]) 74 rfl d_Act_run_72 (by decide) rfl rfl ?_
  refine r_iload rfl 76 rfl d_Act_run_74 ?_
  refine r_lookup (off := 167) 243 d_Act_run_76 (by decide) (by rfl) rfl ?_
  refine r_aload_n rfl 244 rfl d_Act_run_243 ?_
  refine r_iload rfl 246 rfl d_Act_run_244 ?_
  refine r_iconst (nI 2) rfl 247 rfl d_Act_run_246 ?_
  refine r_iload_n rfl 248 rfl d_Act_run_247 ?_
  refine r_iload rfl 250 rfl d_Act_run_248 ?_
  refine r_callVA1 (st2 := [.int ((te p K v 7 0 x (rnT s 40)).1)]) (w2 := AV X a (((te p K v 7 0 x (rnT s 40)).2).1) (((te p K v 7 0 x (rnT s 40)).2).2) p K v) lk_Act_run ln_Act_46 (c_run2_0 X a d p K v x (dp + 1) (rnT s 40) hK6 (show s.1 + 1 < 120000 by omega) (by omega)) (by first | decide | omega) rfl rfl (Nat.le_of_ble_eq_true rfl) (Nat.le_of_ble_eq_true rfl) (Nat.le_of_ble_eq_true rfl) 0 rfl rfl AV_f rfl 253 rfl d_Act_run_250 ?_
  refine r_aload_n rfl 254 rfl d_Act_run_253 ?_
  refine r_aload_n rfl 255 rfl d_Act_run_254 ?_
  refine r_getf (v := .int (nI K)) gf_Act_19 0 rfl rfl 258 rfl d_Act_run_255 ?_
  refine r_iconst (nI 1) rfl 259 rfl d_Act_run_258 ?_
  refine r_iconst (nI 1) rfl 260 rfl d_Act_run_259 ?_
  refine r_iload rfl 262 rfl d_Act_run_260 ?_
  refine r_callVA1 (st2 := [.int ((le p K v 7 K (nI 1) ((te p K v 7 0 x (rnT s 40)).2)).1), .int ((te p K v 7 0 x (rnT s 40)).1)]) (w2 := AV X a (((le p K v 7 K (nI 1) ((te p K v 7 0 x (rnT s 40)).2)).2).1) (((le p K v 7 K (nI 1) ((te p K v 7 0 x (rnT s 40)).2)).2).2) p K v) lk_Act_run ln_Act_46 (c_run1 X a (d + 1) p K v (nI 1) (dp + 1) ((te p K v 7 0 x (rnT s 40)).2) hK6 (cnt_lt (te_cnt p K v 7 0 x (rnT s 40)) (by omega)) (by omega)) (by first | decide | omega) rfl rfl (Nat.le_of_ble_eq_true rfl) (Nat.le_of_ble_eq_true rfl) (Nat.le_of_ble_eq_true rfl) 0 rfl rfl AV_f rfl 265 rfl d_Act_run_262 ?_
  refine r_iadd 266 rfl d_Act_run_265 ?_
  exact r_iret rfl (Nat.zero_le _) (Nat.zero_le _) d_Act_run_266 (by rw [← hQ]; rw [g_2_6]; exact ⟨rfl, rfl⟩)
theorem c_run2 (X : Xn) (a : Nat → Nat) (d p K : Nat) (v : Int32) (x : Int32) (dp : Nat) (s : Trc) (hK6 : K ≤ 6) (hr : s.1 < 110000) (hdp : dp ≤ 21) : Does X (d + 9) M_Act_run [.ref (a 0), .int (nI K), .int (nI 2), .int x, .int (nI dp)] (AV X a s.1 s.2 p K v) 0 0 (fun (vv : Option Value) (ww : va_W) => vv = some (.int (te p K v 7 K x s).1) ∧ ww = AV X a (((te p K v 7 K x s).2).1) (((te p K v 7 K x s).2).2) p K v) := by
  rcases (show K = 0 ∨ K = 1 ∨ K = 2 ∨ K = 3 ∨ K = 4 ∨ K = 5 ∨ K = 6 by omega) with rfl | rfl | rfl | rfl | rfl | rfl | rfl
  · exact c_run2_0 X a (d + 1) p 0 v x dp s hK6 (by omega) (by omega)
  · exact c_run2_1 X a (d + 1) p 1 v x dp s hK6 (by omega) (by omega)
  · exact c_run2_2 X a (d + 1) p 2 v x dp s hK6 (by omega) (by omega)
  · exact c_run2_3 X a d p 3 v x dp s hK6 (by omega) (by omega)
  · exact c_run2_4 X a (d + 1) p 4 v x dp s hK6 (by omega) (by omega)
  · exact c_run2_5 X a d p 5 v x dp s hK6 (by omega) (by omega)
  · exact c_run2_6 X a d p 6 v x dp s hK6 (by omega) (by omega)
theorem c_HB_act (X : Xn) (a : Nat → Nat) (ν : Nat → Nat → Nat) (σ : Nat → Nat → Int32) (τ : Nat → Nat → Int64)  (p : Int32) (k : Int32) (x : Int32) (hn6 : ν 2 3 ≤ 6) (hkd : ∀ i, i < ν 2 3 → ∃ u, u ≤ 6 ∧ σ 6 i = nI u) : Does X 10 M_HB_act [.ref (a 0), .int p, .int k, .int x] (CW X a ν σ τ) 0 0 (fun (vv : Option Value) (ww : va_W) => vv = some (.int (R_act (ν 2 3) (σ 6) (σ 7) (σ 69) p k x).1) ∧ ∃ g : Nat → Int32, ww = CW X a (pu ν 68 (u1 (ν 68) 1 (R_act (ν 2 3) (σ 6) (σ 7) (σ 69) p k x).2.1)) (u2 (u2 σ 68 g) 69 (R_act (ν 2 3) (σ 6) (σ 7) (σ 69) p k x).2.2) τ) := by
  generalize hQ : (fun (vv : Option Value) (ww : va_W) => vv = some (.int (R_act (ν 2 3) (σ 6) (σ 7) (σ 69) p k x).1) ∧ ∃ g : Nat → Int32, ww = CW X a (pu ν 68 (u1 (ν 68) 1 (R_act (ν 2 3) (σ 6) (σ 7) (σ 69) p k x).2.1)) (u2 (u2 σ 68 g) 69 (R_act (ν 2 3) (σ 6) (σ 7) (σ 69) p k x).2.2) τ) = Q
  refine Does.go rfl (Nat.le_of_ble_eq_true rfl) [some (.ref (a 0)), some (.int p), some (.int k), some (.int x)] 0 rfl ?_
  refine r_aload_n rfl 1 rfl d_HB_act_0 ?_
  refine r_getf (v := .ref (a 68)) gf_HB_38 0 rfl rfl 4 rfl d_HB_act_1 ?_
  refine r_iconst (nI 0) rfl 5 rfl d_HB_act_4 ?_
  refine r_putfn (w2 := CW X a (pu ν 68 (u1 (ν 68) 1 0)) σ τ) pf_HB_239 68 rfl (rfl) rfl (Nat.le_of_ble_eq_true rfl) rfl 8 rfl d_HB_act_5 ?_
  refine r_aload_n rfl 9 rfl d_HB_act_8 ?_
  refine r_iload_n rfl 10 rfl d_HB_act_9 ?_
  refine r_callVA1 (st2 := [.int (bI (isB (ν 2 3) p))]) (w2 := CW X a (pu ν 68 (u1 (ν 68) 1 0)) σ τ) lk_HB_isTrader ln_HB_60 (c_HB_isTrader X a (pu ν 68 (u1 (ν 68) 1 0)) σ τ  p (hn6)) (by first | decide | omega) rfl rfl (Nat.le_of_ble_eq_true rfl) (Nat.le_of_ble_eq_true rfl) (Nat.le_of_ble_eq_true rfl) 0 rfl rfl rfl rfl 13 rfl d_HB_act_10 ?_
  refine r_if_eqB 16 25 rfl rfl d_HB_act_13 (fun h13 => ?_) (fun h13 => ?_)
  · refine r_iconst (nI 0) rfl 26 rfl d_HB_act_25 ?_
    exact r_iret rfl (Nat.zero_le _) (Nat.zero_le _) d_HB_act_26 (by rw [← hQ]; have eR : R_act (ν 2 3) (σ 6) (σ 7) (σ 69) p k x = (nI 0, (0, σ 69)) := (by rw [R_act, if_neg (fun z => by rw [h13] at z; cases z.1)]); exact ⟨by rw [eR], σ 68, by rw [eR, u2_self, u2_self]⟩)
  · obtain ⟨pN, hpN, rfl⟩ := isB_t hn6 h13
    have epN : cn (nI pN) = pN := cn_nI (by omega)
    have bp := isB_of hn6 hpN
    refine r_iload_n rfl 17 rfl d_HB_act_16 ?_
    refine r_if_lt 20 25 rfl rfl d_HB_act_17 (fun h17 => ?_) (fun h17 => ?_)
    · have r_k : inR k (nI 0) (nI 2) = false := inR_lt h17
      refine r_iconst (nI 0) rfl 26 rfl d_HB_act_25 ?_
      exact r_iret rfl (Nat.zero_le _) (Nat.zero_le _) d_HB_act_26 (by rw [← hQ]; have eR : R_act (ν 2 3) (σ 6) (σ 7) (σ 69) (nI pN) k x = (nI 0, (0, σ 69)) := (by rw [R_act, if_neg (fun z => by rw [r_k] at z; cases z.2)]); exact ⟨by rw [eR], σ 68, by rw [eR, u2_self, u2_self]⟩)
    · refine r_iload_n rfl 21 rfl d_HB_act_20 ?_
      refine r_iconst (nI 3) rfl 22 rfl d_HB_act_21 ?_
      refine r_icmp_lt 25 27 rfl rfl d_HB_act_22 (fun h22 => ?_) (fun h22 => ?_)
      · have r_k : inR k (nI 0) (nI 2) = true := inR_l1 (by decide) h17 h22
        obtain ⟨kN, hkN, rfl⟩ := inR_t (by decide) r_k
        have ekN : cn (nI kN) = kN := cn_nI (by omega)
        refine r_aload_n rfl 28 rfl d_HB_act_27 ?_
        refine r_getf (v := .ref (a 68)) gf_HB_38 0 rfl rfl 31 rfl d_HB_act_28 ?_
        refine r_iload_n rfl 32 rfl d_HB_act_31 ?_
        refine r_aload_n rfl 33 rfl d_HB_act_32 ?_
        refine r_getf (v := .ref (a 1)) gf_HB_12 0 rfl rfl 36 rfl d_HB_act_33 ?_
        refine r_getfn (v := .ref (a 6)) gf_HB_65 1 rfl rfl 39 rfl d_HB_act_36 ?_
        refine r_iload_n rfl 40 rfl d_HB_act_39 ?_
        refine r_callS1 (st2 := [.int (σ 6 pN), .int (nI pN), .ref (a 68)]) (w2 := CW X a (pu ν 68 (u1 (ν 68) 1 0)) σ τ) lk_HB_at ln_HB_69 (c_at X _ 6 pN (σ 6) (by omega) (by decide)) (by first | decide | omega) rfl rfl (Nat.le_of_ble_eq_true rfl) (Nat.le_of_ble_eq_true rfl) (Nat.le_of_ble_eq_true rfl) [6] rfl rfl rfl rfl rfl 43 rfl d_HB_act_40 ?_
        obtain ⟨u0, hu0, eu⟩ := hkd pN hpN
        refine r_topi (nI (u0)) (eu) ?_
        refine r_aload_n rfl 44 rfl d_HB_act_43 ?_
        refine r_getf (v := .ref (a 1)) gf_HB_12 0 rfl rfl 47 rfl d_HB_act_44 ?_
        refine r_getfn (v := .ref (a 7)) gf_HB_73 1 rfl rfl 50 rfl d_HB_act_47 ?_
        refine r_iload_n rfl 51 rfl d_HB_act_50 ?_
        refine r_callS1 (st2 := [.int (σ 7 pN), .int (nI u0), .int (nI pN), .ref (a 68)]) (w2 := CW X a (pu ν 68 (u1 (ν 68) 1 0)) σ τ) lk_HB_at ln_HB_69 (c_at X _ 6 pN (σ 7) (by omega) (by decide)) (by first | decide | omega) rfl rfl (Nat.le_of_ble_eq_true rfl) (Nat.le_of_ble_eq_true rfl) (Nat.le_of_ble_eq_true rfl) [7] rfl rfl rfl rfl rfl 54 rfl d_HB_act_51 ?_
        refine r_callV1 (st2 := []) (w2 := CW X a (pu ν 68 (u1 (ν 68) 1 0)) (u2 (u2 (u2 σ 68 (upd (σ 68) 2 (nI pN))) 68 (upd (upd (σ 68) 2 (nI pN)) 3 (nI u0))) 68 (upd (upd (upd (σ 68) 2 (nI pN)) 3 (nI u0)) 4 (σ 7 pN))) τ) lk_Act_play ln_HB_242 (c_Act_play X (pl [68, 69] a) (pl [68, 69] (pu ν 68 (u1 (ν 68) 1 0))) (pl [68, 69] σ) (pl [68, 69] τ)  (nI pN) (nI u0) (σ 7 pN) ) (by first | decide | omega) rfl rfl (Nat.le_of_ble_eq_true rfl) (Nat.le_of_ble_eq_true rfl) (Nat.le_of_ble_eq_true rfl) [68, 69] rfl rfl 0 rfl rfl rfl rfl rfl 57 rfl d_HB_act_54 ?_
        refine r_aload_n rfl 58 rfl d_HB_act_57 ?_
        refine r_getf (v := .ref (a 68)) gf_HB_38 0 rfl rfl 61 rfl d_HB_act_58 ?_
        refine r_aload_n rfl 62 rfl d_HB_act_61 ?_
        refine r_getf (v := .ref (a 68)) gf_HB_38 0 rfl rfl 65 rfl d_HB_act_62 ?_
        refine r_getfn (v := .int (nI u0)) gf_HB_245 68 rfl rfl 68 rfl d_HB_act_65 ?_
        refine r_iload_n rfl 69 rfl d_HB_act_68 ?_
        refine r_iload_n rfl 70 rfl d_HB_act_69 ?_
        refine r_iconst (nI 0) rfl 71 rfl d_HB_act_70 ?_
        rcases (show kN = 0 ∨ kN = 1 ∨ kN = 2 by omega) with rfl | rfl | rfl
        · refine r_callVn1 (st2 := [.int ((gr pN (σ 7 pN) 7 u0 x (0, σ 69)).1)]) (w2 := CW X a (pu ν 68 (u1 (ν 68) 1 (gr pN (σ 7 pN) 7 u0 x (0, σ 69)).2.1)) (u2 (u2 σ 68 (upd (upd (upd (σ 68) 2 (nI pN)) 3 (nI u0)) 4 (σ 7 pN))) 69 (gr pN (σ 7 pN) 7 u0 x (0, σ 69)).2.2) τ) lk_Act_run ln_HB_248 (c_run0 X (pl [68, 69] a) 0 pN u0 (σ 7 pN) x 0 (0, σ 69) hu0 (show 0 < 160000 by decide) (by decide)) (by first | decide | omega) rfl rfl (Nat.le_of_ble_eq_true rfl) (Nat.le_of_ble_eq_true rfl) (Nat.le_of_ble_eq_true rfl) [68, 69] rfl rfl 0 rfl rfl rfl rfl rfl 74 rfl d_HB_act_71 ?_
          exact r_iret rfl (Nat.zero_le _) (Nat.zero_le _) d_HB_act_74 (by rw [← hQ]; have eR : R_act (ν 2 3) (σ 6) (σ 7) (σ 69) (nI pN) (nI 0) x = gr pN (σ 7 pN) 7 u0 x (0, σ 69) := (by rw [R_act, if_pos ⟨bp, r_k⟩, ekN, if_pos rfl, epN, eu, cn_nI (show u0 < 2 ^ 31 by omega)]); exact ⟨by rw [eR], _, by rw [eR]⟩)
        · refine r_callVn1 (st2 := [.int ((le pN u0 (σ 7 pN) 7 u0 x (0, σ 69)).1)]) (w2 := CW X a (pu ν 68 (u1 (ν 68) 1 (le pN u0 (σ 7 pN) 7 u0 x (0, σ 69)).2.1)) (u2 (u2 σ 68 (upd (upd (upd (σ 68) 2 (nI pN)) 3 (nI u0)) 4 (σ 7 pN))) 69 (le pN u0 (σ 7 pN) 7 u0 x (0, σ 69)).2.2) τ) lk_Act_run ln_HB_248 (c_run1 X (pl [68, 69] a) 0 pN u0 (σ 7 pN) x 0 (0, σ 69) hu0 (show 0 < 130000 by decide) (by decide)) (by first | decide | omega) rfl rfl (Nat.le_of_ble_eq_true rfl) (Nat.le_of_ble_eq_true rfl) (Nat.le_of_ble_eq_true rfl) [68, 69] rfl rfl 0 rfl rfl rfl rfl rfl 74 rfl d_HB_act_71 ?_
          exact r_iret rfl (Nat.zero_le _) (Nat.zero_le _) d_HB_act_74 (by rw [← hQ]; have eR : R_act (ν 2 3) (σ 6) (σ 7) (σ 69) (nI pN) (nI 1) x = le pN u0 (σ 7 pN) 7 u0 x (0, σ 69) := (by rw [R_act, if_pos ⟨bp, r_k⟩, ekN, if_neg (show ¬ (1 : Nat) = 0 by decide), if_pos rfl, epN, eu, cn_nI (show u0 < 2 ^ 31 by omega)]); exact ⟨by rw [eR], _, by rw [eR]⟩)
        · refine r_callVn1 (st2 := [.int ((te pN u0 (σ 7 pN) 7 u0 x (0, σ 69)).1)]) (w2 := CW X a (pu ν 68 (u1 (ν 68) 1 (te pN u0 (σ 7 pN) 7 u0 x (0, σ 69)).2.1)) (u2 (u2 σ 68 (upd (upd (upd (σ 68) 2 (nI pN)) 3 (nI u0)) 4 (σ 7 pN))) 69 (te pN u0 (σ 7 pN) 7 u0 x (0, σ 69)).2.2) τ) lk_Act_run ln_HB_248 (c_run2 X (pl [68, 69] a) 0 pN u0 (σ 7 pN) x 0 (0, σ 69) hu0 (show 0 < 110000 by decide) (by decide)) (by first | decide | omega) rfl rfl (Nat.le_of_ble_eq_true rfl) (Nat.le_of_ble_eq_true rfl) (Nat.le_of_ble_eq_true rfl) [68, 69] rfl rfl 0 rfl rfl rfl rfl rfl 74 rfl d_HB_act_71 ?_
          exact r_iret rfl (Nat.zero_le _) (Nat.zero_le _) d_HB_act_74 (by rw [← hQ]; have eR : R_act (ν 2 3) (σ 6) (σ 7) (σ 69) (nI pN) (nI 2) x = te pN u0 (σ 7 pN) 7 u0 x (0, σ 69) := (by rw [R_act, if_pos ⟨bp, r_k⟩, ekN, if_neg (show ¬ (2 : Nat) = 0 by decide), if_neg (show ¬ (2 : Nat) = 1 by decide), epN, eu, cn_nI (show u0 < 2 ^ 31 by omega)]); exact ⟨by rw [eR], _, by rw [eR]⟩)
      · have r_k : inR k (nI 0) (nI 2) = false := inR_g1 (by decide) h22
        refine r_iconst (nI 0) rfl 26 rfl d_HB_act_25 ?_
        exact r_iret rfl (Nat.zero_le _) (Nat.zero_le _) d_HB_act_26 (by rw [← hQ]; have eR : R_act (ν 2 3) (σ 6) (σ 7) (σ 69) (nI pN) k x = (nI 0, (0, σ 69)) := (by rw [R_act, if_neg (fun z => by rw [r_k] at z; cases z.2)]); exact ⟨by rw [eR], σ 68, by rw [eR, u2_self, u2_self]⟩)
