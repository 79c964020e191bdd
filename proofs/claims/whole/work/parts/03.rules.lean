/-! ROWS over Runs, by program -/
theorem r_iadd {X : Xn} {d : Nat} {M : XM} {mc ms : Nat} {Q : Option Value → va_W → Prop} {pc : Nat} {ls : List (Option Value)} {rest : List Value} {k j : Nat} {w : va_W} {x y : Int32} (pc2 : Nat) (hp : pc + 1 = pc2) (hd : decode M.2.1 pc = .ok (.iadd, 1)) (kk : Runs X d M mc ms Q pc2 ls (.int (x + y) :: rest) k j w) : Runs X d M mc ms Q pc ls (.int y :: .int x :: rest) k j w := by
  subst hp
  exact fun p e s m args below meth c A H locs la C P L => lv_iadd C.1 C.2.1 hd (kk p e s m args below meth c A H locs la C P L)
theorem r_isub {X : Xn} {d : Nat} {M : XM} {mc ms : Nat} {Q : Option Value → va_W → Prop} {pc : Nat} {ls : List (Option Value)} {rest : List Value} {k j : Nat} {w : va_W} {x y : Int32} (pc2 : Nat) (hp : pc + 1 = pc2) (hd : decode M.2.1 pc = .ok (.isub, 1)) (kk : Runs X d M mc ms Q pc2 ls (.int (x - y) :: rest) k j w) : Runs X d M mc ms Q pc ls (.int y :: .int x :: rest) k j w := by
  subst hp
  exact fun p e s m args below meth c A H locs la C P L => lv_isub C.1 C.2.1 hd (kk p e s m args below meth c A H locs la C P L)
theorem r_imul {X : Xn} {d : Nat} {M : XM} {mc ms : Nat} {Q : Option Value → va_W → Prop} {pc : Nat} {ls : List (Option Value)} {rest : List Value} {k j : Nat} {w : va_W} {x y : Int32} (pc2 : Nat) (hp : pc + 1 = pc2) (hd : decode M.2.1 pc = .ok (.imul, 1)) (kk : Runs X d M mc ms Q pc2 ls (.int (x * y) :: rest) k j w) : Runs X d M mc ms Q pc ls (.int y :: .int x :: rest) k j w := by
  subst hp
  exact fun p e s m args below meth c A H locs la C P L => lv_imul C.1 C.2.1 hd (kk p e s m args below meth c A H locs la C P L)
theorem r_iand {X : Xn} {d : Nat} {M : XM} {mc ms : Nat} {Q : Option Value → va_W → Prop} {pc : Nat} {ls : List (Option Value)} {rest : List Value} {k j : Nat} {w : va_W} {x y : Int32} (pc2 : Nat) (hp : pc + 1 = pc2) (hd : decode M.2.1 pc = .ok (.iand, 1)) (kk : Runs X d M mc ms Q pc2 ls (.int (x &&& y) :: rest) k j w) : Runs X d M mc ms Q pc ls (.int y :: .int x :: rest) k j w := by
  subst hp
  exact fun p e s m args below meth c A H locs la C P L => lv_iand C.1 C.2.1 hd (kk p e s m args below meth c A H locs la C P L)
theorem r_ior {X : Xn} {d : Nat} {M : XM} {mc ms : Nat} {Q : Option Value → va_W → Prop} {pc : Nat} {ls : List (Option Value)} {rest : List Value} {k j : Nat} {w : va_W} {x y : Int32} (pc2 : Nat) (hp : pc + 1 = pc2) (hd : decode M.2.1 pc = .ok (.ior, 1)) (kk : Runs X d M mc ms Q pc2 ls (.int (x ||| y) :: rest) k j w) : Runs X d M mc ms Q pc ls (.int y :: .int x :: rest) k j w := by
  subst hp
  exact fun p e s m args below meth c A H locs la C P L => lv_ior C.1 C.2.1 hd (kk p e s m args below meth c A H locs la C P L)
theorem r_ixor {X : Xn} {d : Nat} {M : XM} {mc ms : Nat} {Q : Option Value → va_W → Prop} {pc : Nat} {ls : List (Option Value)} {rest : List Value} {k j : Nat} {w : va_W} {x y : Int32} (pc2 : Nat) (hp : pc + 1 = pc2) (hd : decode M.2.1 pc = .ok (.ixor, 1)) (kk : Runs X d M mc ms Q pc2 ls (.int (x ^^^ y) :: rest) k j w) : Runs X d M mc ms Q pc ls (.int y :: .int x :: rest) k j w := by
  subst hp
  exact fun p e s m args below meth c A H locs la C P L => lv_ixor C.1 C.2.1 hd (kk p e s m args below meth c A H locs la C P L)
theorem r_ishl {X : Xn} {d : Nat} {M : XM} {mc ms : Nat} {Q : Option Value → va_W → Prop} {pc : Nat} {ls : List (Option Value)} {rest : List Value} {k j : Nat} {w : va_W} {x y : Int32} (pc2 : Nat) (hp : pc + 1 = pc2) (hd : decode M.2.1 pc = .ok (.ishl, 1)) (kk : Runs X d M mc ms Q pc2 ls (.int (x <<< (y &&& 31)) :: rest) k j w) : Runs X d M mc ms Q pc ls (.int y :: .int x :: rest) k j w := by
  subst hp
  exact fun p e s m args below meth c A H locs la C P L => lv_ishl C.1 C.2.1 hd (kk p e s m args below meth c A H locs la C P L)
theorem r_ishr {X : Xn} {d : Nat} {M : XM} {mc ms : Nat} {Q : Option Value → va_W → Prop} {pc : Nat} {ls : List (Option Value)} {rest : List Value} {k j : Nat} {w : va_W} {x y : Int32} (pc2 : Nat) (hp : pc + 1 = pc2) (hd : decode M.2.1 pc = .ok (.ishr, 1)) (kk : Runs X d M mc ms Q pc2 ls (.int (x >>> (y &&& 31)) :: rest) k j w) : Runs X d M mc ms Q pc ls (.int y :: .int x :: rest) k j w := by
  subst hp
  exact fun p e s m args below meth c A H locs la C P L => lv_ishr C.1 C.2.1 hd (kk p e s m args below meth c A H locs la C P L)
theorem r_iushr {X : Xn} {d : Nat} {M : XM} {mc ms : Nat} {Q : Option Value → va_W → Prop} {pc : Nat} {ls : List (Option Value)} {rest : List Value} {k j : Nat} {w : va_W} {x y : Int32} (pc2 : Nat) (hp : pc + 1 = pc2) (hd : decode M.2.1 pc = .ok (.iushr, 1)) (kk : Runs X d M mc ms Q pc2 ls (.int ((x.toUInt32 >>> (y.toUInt32 &&& Int32.toUInt32 31)).toInt32) :: rest) k j w) : Runs X d M mc ms Q pc ls (.int y :: .int x :: rest) k j w := by
  subst hp
  exact fun p e s m args below meth c A H locs la C P L => lv_iushr C.1 C.2.1 hd rfl (kk p e s m args below meth c A H locs la C P L)
theorem r_idiv {X : Xn} {d : Nat} {M : XM} {mc ms : Nat} {Q : Option Value → va_W → Prop} {pc : Nat} {ls : List (Option Value)} {rest : List Value} {k j : Nat} {w : va_W} {x y : Int32} (hne : ¬ y = 0) (pc2 : Nat) (hp : pc + 1 = pc2) (hd : decode M.2.1 pc = .ok (.idiv, 1)) (kk : Runs X d M mc ms Q pc2 ls (.int (x / y) :: rest) k j w) : Runs X d M mc ms Q pc ls (.int y :: .int x :: rest) k j w := by
  subst hp
  exact fun p e s m args below meth c A H locs la C P L => lv_idiv C.1 C.2.1 hd hne (kk p e s m args below meth c A H locs la C P L)
theorem r_irem {X : Xn} {d : Nat} {M : XM} {mc ms : Nat} {Q : Option Value → va_W → Prop} {pc : Nat} {ls : List (Option Value)} {rest : List Value} {k j : Nat} {w : va_W} {x y : Int32} (hne : ¬ y = 0) (pc2 : Nat) (hp : pc + 1 = pc2) (hd : decode M.2.1 pc = .ok (.irem, 1)) (kk : Runs X d M mc ms Q pc2 ls (.int (x - x / y * y) :: rest) k j w) : Runs X d M mc ms Q pc ls (.int y :: .int x :: rest) k j w := by
  subst hp
  exact fun p e s m args below meth c A H locs la C P L => lv_irem C.1 C.2.1 hd hne (kk p e s m args below meth c A H locs la C P L)
theorem r_ineg {X : Xn} {d : Nat} {M : XM} {mc ms : Nat} {Q : Option Value → va_W → Prop} {pc : Nat} {ls : List (Option Value)} {rest : List Value} {k j : Nat} {w : va_W} {x : Int32} (pc2 : Nat) (hp : pc + 1 = pc2) (hd : decode M.2.1 pc = .ok (.ineg, 1)) (kk : Runs X d M mc ms Q pc2 ls (.int (-x) :: rest) k j w) : Runs X d M mc ms Q pc ls (.int x :: rest) k j w := by
  subst hp
  exact fun p e s m args below meth c A H locs la C P L => lv_ineg C.1 C.2.1 hd (kk p e s m args below meth c A H locs la C P L)
theorem r_ladd {X : Xn} {d : Nat} {M : XM} {mc ms : Nat} {Q : Option Value → va_W → Prop} {pc : Nat} {ls : List (Option Value)} {rest : List Value} {k j : Nat} {w : va_W} {x y : Int64} (pc2 : Nat) (hp : pc + 1 = pc2) (hd : decode M.2.1 pc = .ok (.ladd, 1)) (kk : Runs X d M mc ms Q pc2 ls (.long (x + y) :: rest) k j w) : Runs X d M mc ms Q pc ls (.long y :: .long x :: rest) k j w := by
  subst hp
  exact fun p e s m args below meth c A H locs la C P L => lv_ladd C.1 C.2.1 hd (kk p e s m args below meth c A H locs la C P L)
theorem r_land {X : Xn} {d : Nat} {M : XM} {mc ms : Nat} {Q : Option Value → va_W → Prop} {pc : Nat} {ls : List (Option Value)} {rest : List Value} {k j : Nat} {w : va_W} {x y : Int64} (pc2 : Nat) (hp : pc + 1 = pc2) (hd : decode M.2.1 pc = .ok (.land, 1)) (kk : Runs X d M mc ms Q pc2 ls (.long (x &&& y) :: rest) k j w) : Runs X d M mc ms Q pc ls (.long y :: .long x :: rest) k j w := by
  subst hp
  exact fun p e s m args below meth c A H locs la C P L => lv_land C.1 C.2.1 hd (kk p e s m args below meth c A H locs la C P L)
theorem r_lor {X : Xn} {d : Nat} {M : XM} {mc ms : Nat} {Q : Option Value → va_W → Prop} {pc : Nat} {ls : List (Option Value)} {rest : List Value} {k j : Nat} {w : va_W} {x y : Int64} (pc2 : Nat) (hp : pc + 1 = pc2) (hd : decode M.2.1 pc = .ok (.lor, 1)) (kk : Runs X d M mc ms Q pc2 ls (.long (x ||| y) :: rest) k j w) : Runs X d M mc ms Q pc ls (.long y :: .long x :: rest) k j w := by
  subst hp
  exact fun p e s m args below meth c A H locs la C P L => lv_lor C.1 C.2.1 hd (kk p e s m args below meth c A H locs la C P L)
theorem r_lcmp {X : Xn} {d : Nat} {M : XM} {mc ms : Nat} {Q : Option Value → va_W → Prop} {pc : Nat} {ls : List (Option Value)} {rest : List Value} {k j : Nat} {w : va_W} {x y : Int64} (pc2 : Nat) (hp : pc + 1 = pc2) (hd : decode M.2.1 pc = .ok (.lcmp, 1)) (kk : Runs X d M mc ms Q pc2 ls (.int (lg_cmp x y) :: rest) k j w) : Runs X d M mc ms Q pc ls (.long y :: .long x :: rest) k j w := by
  subst hp
  exact fun p e s m args below meth c A H locs la C P L => W.lcmp C.1 C.2.1 hd (kk p e s m args below meth c A H locs la C P L)
theorem r_lshl {X : Xn} {d : Nat} {M : XM} {mc ms : Nat} {Q : Option Value → va_W → Prop} {pc : Nat} {ls : List (Option Value)} {rest : List Value} {k j : Nat} {w : va_W} {x : Int64} {y : Int32} (pc2 : Nat) (hp : pc + 1 = pc2) (hd : decode M.2.1 pc = .ok (.lshl, 1)) (kk : Runs X d M mc ms Q pc2 ls (.long (x <<< (y.toInt64 &&& 63)) :: rest) k j w) : Runs X d M mc ms Q pc ls (.int y :: .long x :: rest) k j w := by
  subst hp
  exact fun p e s m args below meth c A H locs la C P L => lv_lshl C.1 C.2.1 hd rfl (kk p e s m args below meth c A H locs la C P L)
theorem r_i2l {X : Xn} {d : Nat} {M : XM} {mc ms : Nat} {Q : Option Value → va_W → Prop} {pc : Nat} {ls : List (Option Value)} {rest : List Value} {k j : Nat} {w : va_W} {x : Int32} (pc2 : Nat) (hp : pc + 1 = pc2) (hd : decode M.2.1 pc = .ok (.i2l, 1)) (kk : Runs X d M mc ms Q pc2 ls (.long x.toInt64 :: rest) k j w) : Runs X d M mc ms Q pc ls (.int x :: rest) k j w := by
  subst hp
  exact fun p e s m args below meth c A H locs la C P L => lv_i2l C.1 C.2.1 hd rfl (kk p e s m args below meth c A H locs la C P L)
theorem r_l2i {X : Xn} {d : Nat} {M : XM} {mc ms : Nat} {Q : Option Value → va_W → Prop} {pc : Nat} {ls : List (Option Value)} {rest : List Value} {k j : Nat} {w : va_W} {x : Int64} (pc2 : Nat) (hp : pc + 1 = pc2) (hd : decode M.2.1 pc = .ok (.l2i, 1)) (kk : Runs X d M mc ms Q pc2 ls (.int x.toInt32 :: rest) k j w) : Runs X d M mc ms Q pc ls (.long x :: rest) k j w := by
  subst hp
  exact fun p e s m args below meth c A H locs la C P L => lv_l2i C.1 C.2.1 hd rfl (kk p e s m args below meth c A H locs la C P L)
theorem r_i2b {X : Xn} {d : Nat} {M : XM} {mc ms : Nat} {Q : Option Value → va_W → Prop} {pc : Nat} {ls : List (Option Value)} {rest : List Value} {k j : Nat} {w : va_W} {x : Int32} (pc2 : Nat) (hp : pc + 1 = pc2) (hd : decode M.2.1 pc = .ok (.i2b, 1)) (kk : Runs X d M mc ms Q pc2 ls (.int x.toInt8.toInt32 :: rest) k j w) : Runs X d M mc ms Q pc ls (.int x :: rest) k j w := by
  subst hp
  exact fun p e s m args below meth c A H locs la C P L => lv_i2b C.1 C.2.1 hd rfl (kk p e s m args below meth c A H locs la C P L)
theorem r_i2s {X : Xn} {d : Nat} {M : XM} {mc ms : Nat} {Q : Option Value → va_W → Prop} {pc : Nat} {ls : List (Option Value)} {rest : List Value} {k j : Nat} {w : va_W} {x : Int32} (pc2 : Nat) (hp : pc + 1 = pc2) (hd : decode M.2.1 pc = .ok (.i2s, 1)) (kk : Runs X d M mc ms Q pc2 ls (.int x.toInt16.toInt32 :: rest) k j w) : Runs X d M mc ms Q pc ls (.int x :: rest) k j w := by
  subst hp
  exact fun p e s m args below meth c A H locs la C P L => lv_i2s C.1 C.2.1 hd rfl (kk p e s m args below meth c A H locs la C P L)
theorem r_i2c {X : Xn} {d : Nat} {M : XM} {mc ms : Nat} {Q : Option Value → va_W → Prop} {pc : Nat} {ls : List (Option Value)} {rest : List Value} {k j : Nat} {w : va_W} {x : Int32} (pc2 : Nat) (hp : pc + 1 = pc2) (hd : decode M.2.1 pc = .ok (.i2c, 1)) (kk : Runs X d M mc ms Q pc2 ls (.int ((x.toUInt32 % 65536).toInt32) :: rest) k j w) : Runs X d M mc ms Q pc ls (.int x :: rest) k j w := by
  subst hp
  exact fun p e s m args below meth c A H locs la C P L => lv_i2c C.1 C.2.1 hd rfl (kk p e s m args below meth c A H locs la C P L)
theorem r_iconst {X : Xn} {d : Nat} {M : XM} {mc ms : Nat} {Q : Option Value → va_W → Prop} {pc : Nat} {ls : List (Option Value)} {rest : List Value} {k j : Nat} {w : va_W} {n : Int} (v : Int32) (hv : Int32.ofInt n = v) (pc2 : Nat) (hp : pc + 1 = pc2) (hd : decode M.2.1 pc = .ok (.iconst n, 1)) (kk : Runs X d M mc ms Q pc2 ls (.int v :: rest) k j w) : Runs X d M mc ms Q pc ls rest k j w := by
  subst hp
  exact fun p e s m args below meth c A H locs la C P L => lv_iconst C.1 C.2.1 hd hv (kk p e s m args below meth c A H locs la C P L)
theorem r_bipush {X : Xn} {d : Nat} {M : XM} {mc ms : Nat} {Q : Option Value → va_W → Prop} {pc : Nat} {ls : List (Option Value)} {rest : List Value} {k j : Nat} {w : va_W} {n : Int} (v : Int32) (hv : (Int8.ofInt n).toInt32 = v) (pc2 : Nat) (hp : pc + 2 = pc2) (hd : decode M.2.1 pc = .ok (.bipush n, 2)) (kk : Runs X d M mc ms Q pc2 ls (.int v :: rest) k j w) : Runs X d M mc ms Q pc ls rest k j w := by
  subst hp
  exact fun p e s m args below meth c A H locs la C P L => lv_bipush C.1 C.2.1 hd hv (kk p e s m args below meth c A H locs la C P L)
theorem r_sipush {X : Xn} {d : Nat} {M : XM} {mc ms : Nat} {Q : Option Value → va_W → Prop} {pc : Nat} {ls : List (Option Value)} {rest : List Value} {k j : Nat} {w : va_W} {n : Int} (v : Int32) (hv : (Int16.ofInt n).toInt32 = v) (pc2 : Nat) (hp : pc + 3 = pc2) (hd : decode M.2.1 pc = .ok (.sipush n, 3)) (kk : Runs X d M mc ms Q pc2 ls (.int v :: rest) k j w) : Runs X d M mc ms Q pc ls rest k j w := by
  subst hp
  exact fun p e s m args below meth c A H locs la C P L => lv_sipush C.1 C.2.1 hd hv (kk p e s m args below meth c A H locs la C P L)
theorem r_lconst {X : Xn} {d : Nat} {M : XM} {mc ms : Nat} {Q : Option Value → va_W → Prop} {pc : Nat} {ls : List (Option Value)} {rest : List Value} {k j : Nat} {w : va_W} {n : Fin 2} (v : Int64) (hv : Int64.ofNat (n : Nat) = v) (pc2 : Nat) (hp : pc + 1 = pc2) (hd : decode M.2.1 pc = .ok (.lconst n, 1)) (kk : Runs X d M mc ms Q pc2 ls (.long v :: rest) k j w) : Runs X d M mc ms Q pc ls rest k j w := by
  subst hp
  exact fun p e s m args below meth c A H locs la C P L => lv_lconst C.1 C.2.1 hd hv (kk p e s m args below meth c A H locs la C P L)
theorem r_null {X : Xn} {d : Nat} {M : XM} {mc ms : Nat} {Q : Option Value → va_W → Prop} {pc : Nat} {ls : List (Option Value)} {rest : List Value} {k j : Nat} {w : va_W}  (pc2 : Nat) (hp : pc + 1 = pc2) (hd : decode M.2.1 pc = .ok (.aconst_null, 1)) (kk : Runs X d M mc ms Q pc2 ls (.null :: rest) k j w) : Runs X d M mc ms Q pc ls rest k j w := by
  subst hp
  exact fun p e s m args below meth c A H locs la C P L => lv_null C.1 C.2.1 hd (kk p e s m args below meth c A H locs la C P L)
theorem r_dup {X : Xn} {d : Nat} {M : XM} {mc ms : Nat} {Q : Option Value → va_W → Prop} {pc : Nat} {ls : List (Option Value)} {rest : List Value} {k j : Nat} {w : va_W} {va : Value} (h1 : va.category = 1) (pc2 : Nat) (hp : pc + 1 = pc2) (hd : decode M.2.1 pc = .ok (.dup, 1)) (kk : Runs X d M mc ms Q pc2 ls (va :: va :: rest) k j w) : Runs X d M mc ms Q pc ls (va :: rest) k j w := by
  subst hp
  exact fun p e s m args below meth c A H locs la C P L => lv_dup C.1 C.2.1 hd h1 (kk p e s m args below meth c A H locs la C P L)
theorem r_pop {X : Xn} {d : Nat} {M : XM} {mc ms : Nat} {Q : Option Value → va_W → Prop} {pc : Nat} {ls : List (Option Value)} {rest : List Value} {k j : Nat} {w : va_W} {va : Value} (h1 : va.category = 1) (pc2 : Nat) (hp : pc + 1 = pc2) (hd : decode M.2.1 pc = .ok (.pop, 1)) (kk : Runs X d M mc ms Q pc2 ls rest k j w) : Runs X d M mc ms Q pc ls (va :: rest) k j w := by
  subst hp
  exact fun p e s m args below meth c A H locs la C P L => lv_pop C.1 C.2.1 hd h1 (kk p e s m args below meth c A H locs la C P L)
theorem r_dup_x1 {X : Xn} {d : Nat} {M : XM} {mc ms : Nat} {Q : Option Value → va_W → Prop} {pc : Nat} {ls : List (Option Value)} {rest : List Value} {k j : Nat} {w : va_W} {va vb : Value} (h1 : va.category = 1) (h2 : vb.category = 1) (pc2 : Nat) (hp : pc + 1 = pc2) (hd : decode M.2.1 pc = .ok (.dup_x1, 1)) (kk : Runs X d M mc ms Q pc2 ls (va :: vb :: va :: rest) k j w) : Runs X d M mc ms Q pc ls (va :: vb :: rest) k j w := by
  subst hp
  exact fun p e s m args below meth c A H locs la C P L => lv_dup_x1 C.1 C.2.1 hd h1 h2 (kk p e s m args below meth c A H locs la C P L)
theorem r_dup2 {X : Xn} {d : Nat} {M : XM} {mc ms : Nat} {Q : Option Value → va_W → Prop} {pc : Nat} {ls : List (Option Value)} {rest : List Value} {k j : Nat} {w : va_W} {va vb : Value} (h1 : va.category = 1) (h2 : vb.category = 1) (pc2 : Nat) (hp : pc + 1 = pc2) (hd : decode M.2.1 pc = .ok (.dup2, 1)) (kk : Runs X d M mc ms Q pc2 ls (va :: vb :: va :: vb :: rest) k j w) : Runs X d M mc ms Q pc ls (va :: vb :: rest) k j w := by
  subst hp
  exact fun p e s m args below meth c A H locs la C P L => lv_dup2_11 C.1 C.2.1 hd h1 h2 (kk p e s m args below meth c A H locs la C P L)
theorem r_ldc {X : Xn} {d : Nat} {M : XM} {mc ms : Nat} {Q : Option Value → va_W → Prop} {pc : Nat} {ls : List (Option Value)} {rest : List Value} {k j : Nat} {w : va_W} {index : Nat} {v : Int32} (hc : Cond.constant M.1.cls index v ∈ TB) (pc2 : Nat) (hp : pc + 2 = pc2) (hd : decode M.2.1 pc = .ok (.ldc index, 2)) (kk : Runs X d M mc ms Q pc2 ls (.int v :: rest) k j w) : Runs X d M mc ms Q pc ls rest k j w := by
  subst hp
  exact fun p e s m args below meth c A H locs la C P L => lv_ldc C.1 C.2.1 C.2.2.2.2.2.1 (C.2.2.2.2.1 _ (List.mem_cons_of_mem _ hc)) hd (kk p e s m args below meth c A H locs la C P L)
theorem r_ldc2 {X : Xn} {d : Nat} {M : XM} {mc ms : Nat} {Q : Option Value → va_W → Prop} {pc : Nat} {ls : List (Option Value)} {rest : List Value} {k j : Nat} {w : va_W} {index : Nat} {v : Int64} (hc : Cond.constantLong M.1.cls index v ∈ TB) (pc2 : Nat) (hp : pc + 3 = pc2) (hd : decode M.2.1 pc = .ok (.ldc2_w index, 3)) (kk : Runs X d M mc ms Q pc2 ls (.long v :: rest) k j w) : Runs X d M mc ms Q pc ls rest k j w := by
  subst hp
  exact fun p e s m args below meth c A H locs la C P L => lv_ldc2 C.1 C.2.1 C.2.2.2.2.2.1 (C.2.2.2.2.1 _ (List.mem_cons_of_mem _ hc)) hd (kk p e s m args below meth c A H locs la C P L)
theorem r_iload_n {X : Xn} {d : Nat} {M : XM} {mc ms : Nat} {Q : Option Value → va_W → Prop} {pc : Nat} {ls : List (Option Value)} {rest : List Value} {k j : Nat} {w : va_W} {q : Fin 4} {x : Int32} (hl : ls[(q : Nat)]? = some (some (.int x))) (pc2 : Nat) (hp : pc + 1 = pc2) (hd : decode M.2.1 pc = .ok (.iload_n q, 1)) (kk : Runs X d M mc ms Q pc2 ls (.int x :: rest) k j w) : Runs X d M mc ms Q pc ls rest k j w := by
  subst hp
  exact fun p e s m args below meth c A H locs la C P L => lv_iload_n C.1 C.2.1 hd rfl (L.2.2 _ _ hl) (kk p e s m args below meth c A H locs la C P L)
theorem r_iload {X : Xn} {d : Nat} {M : XM} {mc ms : Nat} {Q : Option Value → va_W → Prop} {pc : Nat} {ls : List (Option Value)} {rest : List Value} {k j : Nat} {w : va_W} {i : Nat} {x : Int32} (hl : ls[i]? = some (some (.int x))) (pc2 : Nat) (hp : pc + 2 = pc2) (hd : decode M.2.1 pc = .ok (.iload i, 2)) (kk : Runs X d M mc ms Q pc2 ls (.int x :: rest) k j w) : Runs X d M mc ms Q pc ls rest k j w := by
  subst hp
  exact fun p e s m args below meth c A H locs la C P L => lv_iload C.1 C.2.1 hd (L.2.2 _ _ hl) (kk p e s m args below meth c A H locs la C P L)
theorem r_lload_n {X : Xn} {d : Nat} {M : XM} {mc ms : Nat} {Q : Option Value → va_W → Prop} {pc : Nat} {ls : List (Option Value)} {rest : List Value} {k j : Nat} {w : va_W} {q : Fin 4} {x : Int64} (hl : ls[(q : Nat)]? = some (some (.long x))) (pc2 : Nat) (hp : pc + 1 = pc2) (hd : decode M.2.1 pc = .ok (.lload_n q, 1)) (kk : Runs X d M mc ms Q pc2 ls (.long x :: rest) k j w) : Runs X d M mc ms Q pc ls rest k j w := by
  subst hp
  exact fun p e s m args below meth c A H locs la C P L => lv_lload_n C.1 C.2.1 hd rfl (L.2.2 _ _ hl) (kk p e s m args below meth c A H locs la C P L)
theorem r_lload {X : Xn} {d : Nat} {M : XM} {mc ms : Nat} {Q : Option Value → va_W → Prop} {pc : Nat} {ls : List (Option Value)} {rest : List Value} {k j : Nat} {w : va_W} {i : Nat} {x : Int64} (hl : ls[i]? = some (some (.long x))) (pc2 : Nat) (hp : pc + 2 = pc2) (hd : decode M.2.1 pc = .ok (.lload i, 2)) (kk : Runs X d M mc ms Q pc2 ls (.long x :: rest) k j w) : Runs X d M mc ms Q pc ls rest k j w := by
  subst hp
  exact fun p e s m args below meth c A H locs la C P L => lv_lload C.1 C.2.1 hd (L.2.2 _ _ hl) (kk p e s m args below meth c A H locs la C P L)
theorem r_aload_n {X : Xn} {d : Nat} {M : XM} {mc ms : Nat} {Q : Option Value → va_W → Prop} {pc : Nat} {ls : List (Option Value)} {rest : List Value} {k j : Nat} {w : va_W} {q : Fin 4} {x : Nat} (hl : ls[(q : Nat)]? = some (some (.ref x))) (pc2 : Nat) (hp : pc + 1 = pc2) (hd : decode M.2.1 pc = .ok (.aload_n q, 1)) (kk : Runs X d M mc ms Q pc2 ls (.ref x :: rest) k j w) : Runs X d M mc ms Q pc ls rest k j w := by
  subst hp
  exact fun p e s m args below meth c A H locs la C P L => lv_aload_n C.1 C.2.1 hd rfl (L.2.2 _ _ hl) (kk p e s m args below meth c A H locs la C P L)
theorem r_aload {X : Xn} {d : Nat} {M : XM} {mc ms : Nat} {Q : Option Value → va_W → Prop} {pc : Nat} {ls : List (Option Value)} {rest : List Value} {k j : Nat} {w : va_W} {i : Nat} {x : Nat} (hl : ls[i]? = some (some (.ref x))) (pc2 : Nat) (hp : pc + 2 = pc2) (hd : decode M.2.1 pc = .ok (.aload i, 2)) (kk : Runs X d M mc ms Q pc2 ls (.ref x :: rest) k j w) : Runs X d M mc ms Q pc ls rest k j w := by
  subst hp
  exact fun p e s m args below meth c A H locs la C P L => lv_aload C.1 C.2.1 hd (L.2.2 _ _ hl) (kk p e s m args below meth c A H locs la C P L)
theorem r_aload_nN {X : Xn} {d : Nat} {M : XM} {mc ms : Nat} {Q : Option Value → va_W → Prop} {pc : Nat} {ls : List (Option Value)} {rest : List Value} {k j : Nat} {w : va_W} {q : Fin 4} (hl : ls[(q : Nat)]? = some (some .null)) (pc2 : Nat) (hp : pc + 1 = pc2) (hd : decode M.2.1 pc = .ok (.aload_n q, 1)) (kk : Runs X d M mc ms Q pc2 ls (.null :: rest) k j w) : Runs X d M mc ms Q pc ls rest k j w := by
  subst hp
  exact fun p e s m args below meth c A H locs la C P L => lv_aload_nN C.1 C.2.1 hd rfl (L.2.2 _ _ hl) (kk p e s m args below meth c A H locs la C P L)
theorem r_aloadN {X : Xn} {d : Nat} {M : XM} {mc ms : Nat} {Q : Option Value → va_W → Prop} {pc : Nat} {ls : List (Option Value)} {rest : List Value} {k j : Nat} {w : va_W} {i : Nat} (hl : ls[i]? = some (some .null)) (pc2 : Nat) (hp : pc + 2 = pc2) (hd : decode M.2.1 pc = .ok (.aload i, 2)) (kk : Runs X d M mc ms Q pc2 ls (.null :: rest) k j w) : Runs X d M mc ms Q pc ls rest k j w := by
  subst hp
  exact fun p e s m args below meth c A H locs la C P L => lv_aloadN C.1 C.2.1 hd (L.2.2 _ _ hl) (kk p e s m args below meth c A H locs la C P L)
/-- the locals as pairs -/
def Xl (ls : List (Option Value)) : List (Nat × Value) := (List.range ls.length).filterMap (fun i => match ls[i]? with | some (some v) => some (i, v) | _ => none)
theorem Xl_mem {ls : List (Option Value)} {i : Nat} {v : Value} (h : ls[i]? = some (some v)) : (i, v) ∈ Xl ls := by
  refine List.mem_filterMap.mpr ⟨i, List.mem_range.mpr (List.getElem?_eq_some_iff.mp h).1, ?_⟩
  simp only [h]
theorem Xl_of {ls : List (Option Value)} {q : Nat × Value} (h : q ∈ Xl ls) : ls[q.1]? = some (some q.2) := by
  obtain ⟨i, -, hi⟩ := List.mem_filterMap.mp h
  cases hc : ls[i]? with
  | none => simp [hc] at hi
  | some o =>
    cases o with
    | none => simp [hc] at hi
    | some v =>
      simp only [hc, Option.some.injEq] at hi
      rw [← hi]; exact hc
theorem Xhas.lv {la : Array Slot} {n : Nat} {ls : List (Option Value)} (h : Xhas la n ls) : lv_has la n (Xl ls) := ⟨h.1, h.2.1, fun q hq => h.2.2 _ _ (Xl_of hq)⟩
/-- no long ends at i -/
def okS (ls : List (Option Value)) (i : Nat) : Bool := match i with
  | 0 => true
  | i + 1 => match ls[i]? with
    | some (some v) => v.category == 1
    | _ => true
theorem okS_of {ls : List (Option Value)} {i jj : Nat} {v : Value} (h : okS ls i = true) (hj : jj + 1 = i) (hv : ls[jj]? = some (some v)) : (v.category == 2) = false := by
  subst hj
  simp only [okS, hv, beq_iff_eq] at h
  rw [h]; rfl
theorem Xhas_set1 {la : Array Slot} {n i : Nat} {ls : List (Option Value)} {v : Value} (ok : okS ls i = true) (h : lv_has la n ((i, v) :: (Xl ls).filter (fun q => !(q.1 == i) && !(q.1 + 1 == i && q.2.category == 2)))) : Xhas la n (ls.set i (some v)) := by
  refine ⟨h.1, h.2.1, fun a b hab => ?_⟩
  by_cases ha : a = i
  · subst ha
    by_cases hl : a < ls.length
    · rw [List.getElem?_set_self hl] at hab
      cases hab
      exact h.2.2 _ List.mem_cons_self
    · rw [List.getElem?_eq_none (by rw [List.length_set]; omega)] at hab
      cases hab
  · rw [List.getElem?_set_ne (Ne.symm ha)] at hab
    refine h.2.2 (a, b) (List.mem_cons_of_mem _ (List.mem_filter.mpr ⟨Xl_mem hab, ?_⟩))
    by_cases hc : a + 1 = i
    · simp [ha, okS_of ok hc hab, hc]
    · simp [ha, hc]
theorem Xhas_set2 {la : Array Slot} {n i : Nat} {ls : List (Option Value)} {v : Value} (ok : okS ls i = true) (h : lv_has la n ((i, v) :: (Xl ls).filter (fun q => !(q.1 == i) && (!(q.1 == i + 1) && !(q.1 + 1 == i && q.2.category == 2))))) : Xhas la n ((ls.set i (some v)).set (i + 1) none) := by
  refine ⟨h.1, h.2.1, fun a b hab => ?_⟩
  by_cases h1 : a = i + 1
  · subst h1
    by_cases hl : i + 1 < (ls.set i (some v)).length
    · rw [List.getElem?_set_self hl] at hab
      cases hab
    · rw [List.getElem?_eq_none (by rw [List.length_set]; omega)] at hab
      cases hab
  · rw [List.getElem?_set_ne (Ne.symm h1)] at hab
    by_cases ha : a = i
    · subst ha
      by_cases hl : a < ls.length
      · rw [List.getElem?_set_self hl] at hab
        cases hab
        exact h.2.2 _ List.mem_cons_self
      · rw [List.getElem?_eq_none (by rw [List.length_set]; omega)] at hab
        cases hab
    · rw [List.getElem?_set_ne (Ne.symm ha)] at hab
      refine h.2.2 (a, b) (List.mem_cons_of_mem _ (List.mem_filter.mpr ⟨Xl_mem hab, ?_⟩))
      by_cases hc : a + 1 = i
      · simp [ha, h1, okS_of ok hc hab, hc]
      · simp [ha, h1, hc]
theorem r_istore_n {X : Xn} {d : Nat} {M : XM} {mc ms : Nat} {Q : Option Value → va_W → Prop} {pc : Nat} {ls : List (Option Value)} {rest : List Value} {k j : Nat} {w : va_W} {q : Fin 4} {x : Int32} {ls2 : List (Option Value)} (pc2 : Nat) (hp : pc + 1 = pc2) (hd : decode M.2.1 pc = .ok (.istore_n q, 1)) (hn : (q : Nat) < M.2.2.1) (ok : okS ls (q : Nat) = true) (hls : (ls.set (q : Nat) (some (.int x))) = ls2) (kk : Runs X d M mc ms Q pc2 ls2 rest k j w) : Runs X d M mc ms Q pc ls ((.int x) :: rest) k j w := by
  subst hp; subst hls
  exact fun p e s m args below meth c A H locs la C P L => lv_istore_n C.1 C.2.1 hd rfl L.lv hn rfl (fun la2 h2 => kk p e s m args below meth c A H locs la2 C P (Xhas_set1 ok h2))
theorem r_istore {X : Xn} {d : Nat} {M : XM} {mc ms : Nat} {Q : Option Value → va_W → Prop} {pc : Nat} {ls : List (Option Value)} {rest : List Value} {k j : Nat} {w : va_W} {i : Nat} {x : Int32} {ls2 : List (Option Value)} (pc2 : Nat) (hp : pc + 2 = pc2) (hd : decode M.2.1 pc = .ok (.istore i, 2)) (hn : i < M.2.2.1) (ok : okS ls i = true) (hls : (ls.set i (some (.int x))) = ls2) (kk : Runs X d M mc ms Q pc2 ls2 rest k j w) : Runs X d M mc ms Q pc ls ((.int x) :: rest) k j w := by
  subst hp; subst hls
  exact fun p e s m args below meth c A H locs la C P L => lv_istore C.1 C.2.1 hd L.lv hn rfl (fun la2 h2 => kk p e s m args below meth c A H locs la2 C P (Xhas_set1 ok h2))
theorem r_astore_n {X : Xn} {d : Nat} {M : XM} {mc ms : Nat} {Q : Option Value → va_W → Prop} {pc : Nat} {ls : List (Option Value)} {rest : List Value} {k j : Nat} {w : va_W} {q : Fin 4} {x : Nat} {ls2 : List (Option Value)} (pc2 : Nat) (hp : pc + 1 = pc2) (hd : decode M.2.1 pc = .ok (.astore_n q, 1)) (hn : (q : Nat) < M.2.2.1) (ok : okS ls (q : Nat) = true) (hls : (ls.set (q : Nat) (some (.ref x))) = ls2) (kk : Runs X d M mc ms Q pc2 ls2 rest k j w) : Runs X d M mc ms Q pc ls ((.ref x) :: rest) k j w := by
  subst hp; subst hls
  exact fun p e s m args below meth c A H locs la C P L => lv_astore_n C.1 C.2.1 hd rfl L.lv hn rfl (fun la2 h2 => kk p e s m args below meth c A H locs la2 C P (Xhas_set1 ok h2))
theorem r_astore {X : Xn} {d : Nat} {M : XM} {mc ms : Nat} {Q : Option Value → va_W → Prop} {pc : Nat} {ls : List (Option Value)} {rest : List Value} {k j : Nat} {w : va_W} {i : Nat} {x : Nat} {ls2 : List (Option Value)} (pc2 : Nat) (hp : pc + 2 = pc2) (hd : decode M.2.1 pc = .ok (.astore i, 2)) (hn : i < M.2.2.1) (ok : okS ls i = true) (hls : (ls.set i (some (.ref x))) = ls2) (kk : Runs X d M mc ms Q pc2 ls2 rest k j w) : Runs X d M mc ms Q pc ls ((.ref x) :: rest) k j w := by
  subst hp; subst hls
  exact fun p e s m args below meth c A H locs la C P L => lv_astore C.1 C.2.1 hd L.lv hn rfl (fun la2 h2 => kk p e s m args below meth c A H locs la2 C P (Xhas_set1 ok h2))
theorem r_lstore_n {X : Xn} {d : Nat} {M : XM} {mc ms : Nat} {Q : Option Value → va_W → Prop} {pc : Nat} {ls : List (Option Value)} {rest : List Value} {k j : Nat} {w : va_W} {q : Fin 4} {x : Int64} {ls2 : List (Option Value)} (pc2 : Nat) (hp : pc + 1 = pc2) (hd : decode M.2.1 pc = .ok (.lstore_n q, 1)) (hn : (q : Nat) + 1 < M.2.2.1) (ok : okS ls (q : Nat) = true) (hls : ((ls.set (q : Nat) (some (.long x))).set ((q : Nat) + 1) none) = ls2) (kk : Runs X d M mc ms Q pc2 ls2 rest k j w) : Runs X d M mc ms Q pc ls ((.long x) :: rest) k j w := by
  subst hp; subst hls
  exact fun p e s m args below meth c A H locs la C P L => lv_lstore_n C.1 C.2.1 hd rfl L.lv hn rfl (fun la2 h2 => kk p e s m args below meth c A H locs la2 C P (Xhas_set2 ok h2))
theorem r_lstore {X : Xn} {d : Nat} {M : XM} {mc ms : Nat} {Q : Option Value → va_W → Prop} {pc : Nat} {ls : List (Option Value)} {rest : List Value} {k j : Nat} {w : va_W} {i : Nat} {x : Int64} {ls2 : List (Option Value)} (pc2 : Nat) (hp : pc + 2 = pc2) (hd : decode M.2.1 pc = .ok (.lstore i, 2)) (hn : i + 1 < M.2.2.1) (ok : okS ls i = true) (hls : ((ls.set i (some (.long x))).set (i + 1) none) = ls2) (kk : Runs X d M mc ms Q pc2 ls2 rest k j w) : Runs X d M mc ms Q pc ls ((.long x) :: rest) k j w := by
  subst hp; subst hls
  exact fun p e s m args below meth c A H locs la C P L => lv_lstore C.1 C.2.1 hd L.lv hn rfl (fun la2 h2 => kk p e s m args below meth c A H locs la2 C P (Xhas_set2 ok h2))
theorem r_astore_nN {X : Xn} {d : Nat} {M : XM} {mc ms : Nat} {Q : Option Value → va_W → Prop} {pc : Nat} {ls : List (Option Value)} {rest : List Value} {k j : Nat} {w : va_W} {q : Fin 4} {ls2 : List (Option Value)} (pc2 : Nat) (hp : pc + 1 = pc2) (hd : decode M.2.1 pc = .ok (.astore_n q, 1)) (hn : (q : Nat) < M.2.2.1) (ok : okS ls (q : Nat) = true) (hls : (ls.set (q : Nat) (some .null)) = ls2) (kk : Runs X d M mc ms Q pc2 ls2 rest k j w) : Runs X d M mc ms Q pc ls (.null :: rest) k j w := by
  subst hp; subst hls
  exact fun p e s m args below meth c A H locs la C P L => lv_astore_nN C.1 C.2.1 hd rfl L.lv hn rfl (fun la2 h2 => kk p e s m args below meth c A H locs la2 C P (Xhas_set1 ok h2))
theorem r_astoreN {X : Xn} {d : Nat} {M : XM} {mc ms : Nat} {Q : Option Value → va_W → Prop} {pc : Nat} {ls : List (Option Value)} {rest : List Value} {k j : Nat} {w : va_W} {i : Nat} {ls2 : List (Option Value)} (pc2 : Nat) (hp : pc + 2 = pc2) (hd : decode M.2.1 pc = .ok (.astore i, 2)) (hn : i < M.2.2.1) (ok : okS ls i = true) (hls : (ls.set i (some .null)) = ls2) (kk : Runs X d M mc ms Q pc2 ls2 rest k j w) : Runs X d M mc ms Q pc ls (.null :: rest) k j w := by
  subst hp; subst hls
  exact fun p e s m args below meth c A H locs la C P L => lv_astoreN C.1 C.2.1 hd L.lv hn rfl (fun la2 h2 => kk p e s m args below meth c A H locs la2 C P (Xhas_set1 ok h2))
theorem r_iinc {X : Xn} {d : Nat} {M : XM} {mc ms : Nat} {Q : Option Value → va_W → Prop} {pc : Nat} {ls : List (Option Value)} {rest : List Value} {k j : Nat} {w : va_W} {i : Nat} {n : Int} {x : Int32} (v : Int32) (hl : ls[i]? = some (some (.int x))) (hv : x + Int32.ofInt n = v) (pc2 : Nat) (hp : pc + 3 = pc2) (hd : decode M.2.1 pc = .ok (.iinc i n, 3)) (hn : i < M.2.2.1) (ok : okS ls i = true) {ls2 : List (Option Value)} (hls : ls.set i (some (.int v)) = ls2) (kk : Runs X d M mc ms Q pc2 ls2 rest k j w) : Runs X d M mc ms Q pc ls rest k j w := by
  subst hp; subst hls
  intro p e s m args below meth c A H locs la C P L
  obtain ⟨k0, hk0⟩ := List.getElem?_of_mem (Xl_mem hl)
  exact lv_iinc C.1 C.2.1 hd L.lv hk0 hv hn rfl (fun la2 h2 => kk p e s m args below meth c A H locs la2 C P (Xhas_set1 ok h2))
theorem r_forget {X : Xn} {d : Nat} {M : XM} {mc ms : Nat} {Q : Option Value → va_W → Prop} {pc : Nat} {ls : List (Option Value)} {rest : List Value} {k j : Nat} {w : va_W} {ls2 : List (Option Value)} (i : Nat) (hls : ls.set i none = ls2) (kk : Runs X d M mc ms Q pc ls2 rest k j w) : Runs X d M mc ms Q pc ls rest k j w := by
  subst hls
  refine kk.less (fun a b h => ?_)
  by_cases ha : a = i
  · subst ha
    by_cases hl : a < ls.length
    · rw [List.getElem?_set_self hl] at h; cases h
    · rw [List.getElem?_eq_none (by rw [List.length_set]; omega)] at h; cases h
  · rwa [List.getElem?_set_ne (Ne.symm ha)] at h
theorem r_if_eq {X : Xn} {d : Nat} {M : XM} {mc ms : Nat} {Q : Option Value → va_W → Prop} {pc : Nat} {ls : List (Option Value)} {rest : List Value} {k j : Nat} {w : va_W} {x : Int32} {off : Int} (pc2 pct : Nat) (hp : pc + 3 = pc2) (ht : (pc : Int) + off = (pct : Int)) (hd : decode M.2.1 pc = .ok (.ifCond .eq off, 3)) (kt : x = 0 → Runs X d M mc ms Q pct ls rest k j w) (kf : ¬ x = 0 → Runs X d M mc ms Q pc2 ls rest k j w) : Runs X d M mc ms Q pc ls (.int x :: rest) k j w := by
  subst hp
  exact fun p e s m args below meth c A H locs la C P L => lv_if_eq C.1 C.2.1 hd ht (fun h => kt h p e s m args below meth c A H locs la C P L) (fun h => kf h p e s m args below meth c A H locs la C P L)
theorem r_if_eq_t {X : Xn} {d : Nat} {M : XM} {mc ms : Nat} {Q : Option Value → va_W → Prop} {pc : Nat} {ls : List (Option Value)} {rest : List Value} {k j : Nat} {w : va_W} {x : Int32} {off : Int} (pct : Nat) (ht : (pc : Int) + off = (pct : Int)) (hd : decode M.2.1 pc = .ok (.ifCond .eq off, 3)) (hc : x = 0) (kt : Runs X d M mc ms Q pct ls rest k j w) : Runs X d M mc ms Q pc ls (.int x :: rest) k j w := r_if_eq (pc + 3) pct rfl ht hd (fun _ => kt) (fun h => absurd hc (by simpa using h))
theorem r_if_eq_f {X : Xn} {d : Nat} {M : XM} {mc ms : Nat} {Q : Option Value → va_W → Prop} {pc : Nat} {ls : List (Option Value)} {rest : List Value} {k j : Nat} {w : va_W} {x : Int32} {off : Int} (pc2 : Nat) (hp : pc + 3 = pc2) (pct : Nat) (ht : (pc : Int) + off = (pct : Int)) (hd : decode M.2.1 pc = .ok (.ifCond .eq off, 3)) (hc : ¬ x = 0) (kf : Runs X d M mc ms Q pc2 ls rest k j w) : Runs X d M mc ms Q pc ls (.int x :: rest) k j w := r_if_eq pc2 pct hp ht hd (fun h => absurd hc (by simpa using h)) (fun _ => kf)
theorem r_icmp_eq {X : Xn} {d : Nat} {M : XM} {mc ms : Nat} {Q : Option Value → va_W → Prop} {pc : Nat} {ls : List (Option Value)} {rest : List Value} {k j : Nat} {w : va_W} {x y : Int32} {off : Int} (pc2 pct : Nat) (hp : pc + 3 = pc2) (ht : (pc : Int) + off = (pct : Int)) (hd : decode M.2.1 pc = .ok (.if_icmp .eq off, 3)) (kt : x = y → Runs X d M mc ms Q pct ls rest k j w) (kf : ¬ x = y → Runs X d M mc ms Q pc2 ls rest k j w) : Runs X d M mc ms Q pc ls (.int y :: .int x :: rest) k j w := by
  subst hp
  exact fun p e s m args below meth c A H locs la C P L => lv_icmp_eq C.1 C.2.1 hd ht (fun h => kt h p e s m args below meth c A H locs la C P L) (fun h => kf h p e s m args below meth c A H locs la C P L)
theorem r_icmp_eq_t {X : Xn} {d : Nat} {M : XM} {mc ms : Nat} {Q : Option Value → va_W → Prop} {pc : Nat} {ls : List (Option Value)} {rest : List Value} {k j : Nat} {w : va_W} {x y : Int32} {off : Int} (pct : Nat) (ht : (pc : Int) + off = (pct : Int)) (hd : decode M.2.1 pc = .ok (.if_icmp .eq off, 3)) (hc : x = y) (kt : Runs X d M mc ms Q pct ls rest k j w) : Runs X d M mc ms Q pc ls (.int y :: .int x :: rest) k j w := r_icmp_eq (pc + 3) pct rfl ht hd (fun _ => kt) (fun h => absurd hc (by simpa using h))
theorem r_icmp_eq_f {X : Xn} {d : Nat} {M : XM} {mc ms : Nat} {Q : Option Value → va_W → Prop} {pc : Nat} {ls : List (Option Value)} {rest : List Value} {k j : Nat} {w : va_W} {x y : Int32} {off : Int} (pc2 : Nat) (hp : pc + 3 = pc2) (pct : Nat) (ht : (pc : Int) + off = (pct : Int)) (hd : decode M.2.1 pc = .ok (.if_icmp .eq off, 3)) (hc : ¬ x = y) (kf : Runs X d M mc ms Q pc2 ls rest k j w) : Runs X d M mc ms Q pc ls (.int y :: .int x :: rest) k j w := r_icmp_eq pc2 pct hp ht hd (fun h => absurd hc (by simpa using h)) (fun _ => kf)
theorem r_if_ne {X : Xn} {d : Nat} {M : XM} {mc ms : Nat} {Q : Option Value → va_W → Prop} {pc : Nat} {ls : List (Option Value)} {rest : List Value} {k j : Nat} {w : va_W} {x : Int32} {off : Int} (pc2 pct : Nat) (hp : pc + 3 = pc2) (ht : (pc : Int) + off = (pct : Int)) (hd : decode M.2.1 pc = .ok (.ifCond .ne off, 3)) (kt : ¬ x = 0 → Runs X d M mc ms Q pct ls rest k j w) (kf : x = 0 → Runs X d M mc ms Q pc2 ls rest k j w) : Runs X d M mc ms Q pc ls (.int x :: rest) k j w := by
  subst hp
  exact fun p e s m args below meth c A H locs la C P L => lv_if_ne C.1 C.2.1 hd ht (fun h => kt h p e s m args below meth c A H locs la C P L) (fun h => kf h p e s m args below meth c A H locs la C P L)
theorem r_if_ne_t {X : Xn} {d : Nat} {M : XM} {mc ms : Nat} {Q : Option Value → va_W → Prop} {pc : Nat} {ls : List (Option Value)} {rest : List Value} {k j : Nat} {w : va_W} {x : Int32} {off : Int} (pct : Nat) (ht : (pc : Int) + off = (pct : Int)) (hd : decode M.2.1 pc = .ok (.ifCond .ne off, 3)) (hc : ¬ x = 0) (kt : Runs X d M mc ms Q pct ls rest k j w) : Runs X d M mc ms Q pc ls (.int x :: rest) k j w := r_if_ne (pc + 3) pct rfl ht hd (fun _ => kt) (fun h => absurd hc (by simpa using h))
theorem r_if_ne_f {X : Xn} {d : Nat} {M : XM} {mc ms : Nat} {Q : Option Value → va_W → Prop} {pc : Nat} {ls : List (Option Value)} {rest : List Value} {k j : Nat} {w : va_W} {x : Int32} {off : Int} (pc2 : Nat) (hp : pc + 3 = pc2) (pct : Nat) (ht : (pc : Int) + off = (pct : Int)) (hd : decode M.2.1 pc = .ok (.ifCond .ne off, 3)) (hc : x = 0) (kf : Runs X d M mc ms Q pc2 ls rest k j w) : Runs X d M mc ms Q pc ls (.int x :: rest) k j w := r_if_ne pc2 pct hp ht hd (fun h => absurd hc (by simpa using h)) (fun _ => kf)
theorem r_icmp_ne {X : Xn} {d : Nat} {M : XM} {mc ms : Nat} {Q : Option Value → va_W → Prop} {pc : Nat} {ls : List (Option Value)} {rest : List Value} {k j : Nat} {w : va_W} {x y : Int32} {off : Int} (pc2 pct : Nat) (hp : pc + 3 = pc2) (ht : (pc : Int) + off = (pct : Int)) (hd : decode M.2.1 pc = .ok (.if_icmp .ne off, 3)) (kt : ¬ x = y → Runs X d M mc ms Q pct ls rest k j w) (kf : x = y → Runs X d M mc ms Q pc2 ls rest k j w) : Runs X d M mc ms Q pc ls (.int y :: .int x :: rest) k j w := by
  subst hp
  exact fun p e s m args below meth c A H locs la C P L => lv_icmp_ne C.1 C.2.1 hd ht (fun h => kt h p e s m args below meth c A H locs la C P L) (fun h => kf h p e s m args below meth c A H locs la C P L)
theorem r_icmp_ne_t {X : Xn} {d : Nat} {M : XM} {mc ms : Nat} {Q : Option Value → va_W → Prop} {pc : Nat} {ls : List (Option Value)} {rest : List Value} {k j : Nat} {w : va_W} {x y : Int32} {off : Int} (pct : Nat) (ht : (pc : Int) + off = (pct : Int)) (hd : decode M.2.1 pc = .ok (.if_icmp .ne off, 3)) (hc : ¬ x = y) (kt : Runs X d M mc ms Q pct ls rest k j w) : Runs X d M mc ms Q pc ls (.int y :: .int x :: rest) k j w := r_icmp_ne (pc + 3) pct rfl ht hd (fun _ => kt) (fun h => absurd hc (by simpa using h))
theorem r_icmp_ne_f {X : Xn} {d : Nat} {M : XM} {mc ms : Nat} {Q : Option Value → va_W → Prop} {pc : Nat} {ls : List (Option Value)} {rest : List Value} {k j : Nat} {w : va_W} {x y : Int32} {off : Int} (pc2 : Nat) (hp : pc + 3 = pc2) (pct : Nat) (ht : (pc : Int) + off = (pct : Int)) (hd : decode M.2.1 pc = .ok (.if_icmp .ne off, 3)) (hc : x = y) (kf : Runs X d M mc ms Q pc2 ls rest k j w) : Runs X d M mc ms Q pc ls (.int y :: .int x :: rest) k j w := r_icmp_ne pc2 pct hp ht hd (fun h => absurd hc (by simpa using h)) (fun _ => kf)
theorem r_if_lt {X : Xn} {d : Nat} {M : XM} {mc ms : Nat} {Q : Option Value → va_W → Prop} {pc : Nat} {ls : List (Option Value)} {rest : List Value} {k j : Nat} {w : va_W} {x : Int32} {off : Int} (pc2 pct : Nat) (hp : pc + 3 = pc2) (ht : (pc : Int) + off = (pct : Int)) (hd : decode M.2.1 pc = .ok (.ifCond .lt off, 3)) (kt : x < 0 → Runs X d M mc ms Q pct ls rest k j w) (kf : ¬ x < 0 → Runs X d M mc ms Q pc2 ls rest k j w) : Runs X d M mc ms Q pc ls (.int x :: rest) k j w := by
  subst hp
  exact fun p e s m args below meth c A H locs la C P L => lv_if_lt C.1 C.2.1 hd ht (fun h => kt h p e s m args below meth c A H locs la C P L) (fun h => kf h p e s m args below meth c A H locs la C P L)
theorem r_if_lt_t {X : Xn} {d : Nat} {M : XM} {mc ms : Nat} {Q : Option Value → va_W → Prop} {pc : Nat} {ls : List (Option Value)} {rest : List Value} {k j : Nat} {w : va_W} {x : Int32} {off : Int} (pct : Nat) (ht : (pc : Int) + off = (pct : Int)) (hd : decode M.2.1 pc = .ok (.ifCond .lt off, 3)) (hc : x < 0) (kt : Runs X d M mc ms Q pct ls rest k j w) : Runs X d M mc ms Q pc ls (.int x :: rest) k j w := r_if_lt (pc + 3) pct rfl ht hd (fun _ => kt) (fun h => absurd hc (by simpa using h))
theorem r_if_lt_f {X : Xn} {d : Nat} {M : XM} {mc ms : Nat} {Q : Option Value → va_W → Prop} {pc : Nat} {ls : List (Option Value)} {rest : List Value} {k j : Nat} {w : va_W} {x : Int32} {off : Int} (pc2 : Nat) (hp : pc + 3 = pc2) (pct : Nat) (ht : (pc : Int) + off = (pct : Int)) (hd : decode M.2.1 pc = .ok (.ifCond .lt off, 3)) (hc : ¬ x < 0) (kf : Runs X d M mc ms Q pc2 ls rest k j w) : Runs X d M mc ms Q pc ls (.int x :: rest) k j w := r_if_lt pc2 pct hp ht hd (fun h => absurd hc (by simpa using h)) (fun _ => kf)
theorem r_icmp_lt {X : Xn} {d : Nat} {M : XM} {mc ms : Nat} {Q : Option Value → va_W → Prop} {pc : Nat} {ls : List (Option Value)} {rest : List Value} {k j : Nat} {w : va_W} {x y : Int32} {off : Int} (pc2 pct : Nat) (hp : pc + 3 = pc2) (ht : (pc : Int) + off = (pct : Int)) (hd : decode M.2.1 pc = .ok (.if_icmp .lt off, 3)) (kt : x < y → Runs X d M mc ms Q pct ls rest k j w) (kf : ¬ x < y → Runs X d M mc ms Q pc2 ls rest k j w) : Runs X d M mc ms Q pc ls (.int y :: .int x :: rest) k j w := by
  subst hp
  exact fun p e s m args below meth c A H locs la C P L => lv_icmp_lt C.1 C.2.1 hd ht (fun h => kt h p e s m args below meth c A H locs la C P L) (fun h => kf h p e s m args below meth c A H locs la C P L)
theorem r_icmp_lt_t {X : Xn} {d : Nat} {M : XM} {mc ms : Nat} {Q : Option Value → va_W → Prop} {pc : Nat} {ls : List (Option Value)} {rest : List Value} {k j : Nat} {w : va_W} {x y : Int32} {off : Int} (pct : Nat) (ht : (pc : Int) + off = (pct : Int)) (hd : decode M.2.1 pc = .ok (.if_icmp .lt off, 3)) (hc : x < y) (kt : Runs X d M mc ms Q pct ls rest k j w) : Runs X d M mc ms Q pc ls (.int y :: .int x :: rest) k j w := r_icmp_lt (pc + 3) pct rfl ht hd (fun _ => kt) (fun h => absurd hc (by simpa using h))
theorem r_icmp_lt_f {X : Xn} {d : Nat} {M : XM} {mc ms : Nat} {Q : Option Value → va_W → Prop} {pc : Nat} {ls : List (Option Value)} {rest : List Value} {k j : Nat} {w : va_W} {x y : Int32} {off : Int} (pc2 : Nat) (hp : pc + 3 = pc2) (pct : Nat) (ht : (pc : Int) + off = (pct : Int)) (hd : decode M.2.1 pc = .ok (.if_icmp .lt off, 3)) (hc : ¬ x < y) (kf : Runs X d M mc ms Q pc2 ls rest k j w) : Runs X d M mc ms Q pc ls (.int y :: .int x :: rest) k j w := r_icmp_lt pc2 pct hp ht hd (fun h => absurd hc (by simpa using h)) (fun _ => kf)
theorem r_if_ge {X : Xn} {d : Nat} {M : XM} {mc ms : Nat} {Q : Option Value → va_W → Prop} {pc : Nat} {ls : List (Option Value)} {rest : List Value} {k j : Nat} {w : va_W} {x : Int32} {off : Int} (pc2 pct : Nat) (hp : pc + 3 = pc2) (ht : (pc : Int) + off = (pct : Int)) (hd : decode M.2.1 pc = .ok (.ifCond .ge off, 3)) (kt : 0 ≤ x → Runs X d M mc ms Q pct ls rest k j w) (kf : ¬ 0 ≤ x → Runs X d M mc ms Q pc2 ls rest k j w) : Runs X d M mc ms Q pc ls (.int x :: rest) k j w := by
  subst hp
  exact fun p e s m args below meth c A H locs la C P L => lv_if_ge C.1 C.2.1 hd ht (fun h => kt h p e s m args below meth c A H locs la C P L) (fun h => kf h p e s m args below meth c A H locs la C P L)
theorem r_if_ge_t {X : Xn} {d : Nat} {M : XM} {mc ms : Nat} {Q : Option Value → va_W → Prop} {pc : Nat} {ls : List (Option Value)} {rest : List Value} {k j : Nat} {w : va_W} {x : Int32} {off : Int} (pct : Nat) (ht : (pc : Int) + off = (pct : Int)) (hd : decode M.2.1 pc = .ok (.ifCond .ge off, 3)) (hc : 0 ≤ x) (kt : Runs X d M mc ms Q pct ls rest k j w) : Runs X d M mc ms Q pc ls (.int x :: rest) k j w := r_if_ge (pc + 3) pct rfl ht hd (fun _ => kt) (fun h => absurd hc (by simpa using h))
theorem r_if_ge_f {X : Xn} {d : Nat} {M : XM} {mc ms : Nat} {Q : Option Value → va_W → Prop} {pc : Nat} {ls : List (Option Value)} {rest : List Value} {k j : Nat} {w : va_W} {x : Int32} {off : Int} (pc2 : Nat) (hp : pc + 3 = pc2) (pct : Nat) (ht : (pc : Int) + off = (pct : Int)) (hd : decode M.2.1 pc = .ok (.ifCond .ge off, 3)) (hc : ¬ 0 ≤ x) (kf : Runs X d M mc ms Q pc2 ls rest k j w) : Runs X d M mc ms Q pc ls (.int x :: rest) k j w := r_if_ge pc2 pct hp ht hd (fun h => absurd hc (by simpa using h)) (fun _ => kf)
theorem r_icmp_ge {X : Xn} {d : Nat} {M : XM} {mc ms : Nat} {Q : Option Value → va_W → Prop} {pc : Nat} {ls : List (Option Value)} {rest : List Value} {k j : Nat} {w : va_W} {x y : Int32} {off : Int} (pc2 pct : Nat) (hp : pc + 3 = pc2) (ht : (pc : Int) + off = (pct : Int)) (hd : decode M.2.1 pc = .ok (.if_icmp .ge off, 3)) (kt : y ≤ x → Runs X d M mc ms Q pct ls rest k j w) (kf : ¬ y ≤ x → Runs X d M mc ms Q pc2 ls rest k j w) : Runs X d M mc ms Q pc ls (.int y :: .int x :: rest) k j w := by
  subst hp
  exact fun p e s m args below meth c A H locs la C P L => lv_icmp_ge C.1 C.2.1 hd ht (fun h => kt h p e s m args below meth c A H locs la C P L) (fun h => kf h p e s m args below meth c A H locs la C P L)
theorem r_icmp_ge_t {X : Xn} {d : Nat} {M : XM} {mc ms : Nat} {Q : Option Value → va_W → Prop} {pc : Nat} {ls : List (Option Value)} {rest : List Value} {k j : Nat} {w : va_W} {x y : Int32} {off : Int} (pct : Nat) (ht : (pc : Int) + off = (pct : Int)) (hd : decode M.2.1 pc = .ok (.if_icmp .ge off, 3)) (hc : y ≤ x) (kt : Runs X d M mc ms Q pct ls rest k j w) : Runs X d M mc ms Q pc ls (.int y :: .int x :: rest) k j w := r_icmp_ge (pc + 3) pct rfl ht hd (fun _ => kt) (fun h => absurd hc (by simpa using h))
theorem r_icmp_ge_f {X : Xn} {d : Nat} {M : XM} {mc ms : Nat} {Q : Option Value → va_W → Prop} {pc : Nat} {ls : List (Option Value)} {rest : List Value} {k j : Nat} {w : va_W} {x y : Int32} {off : Int} (pc2 : Nat) (hp : pc + 3 = pc2) (pct : Nat) (ht : (pc : Int) + off = (pct : Int)) (hd : decode M.2.1 pc = .ok (.if_icmp .ge off, 3)) (hc : ¬ y ≤ x) (kf : Runs X d M mc ms Q pc2 ls rest k j w) : Runs X d M mc ms Q pc ls (.int y :: .int x :: rest) k j w := r_icmp_ge pc2 pct hp ht hd (fun h => absurd hc (by simpa using h)) (fun _ => kf)
theorem r_if_gt {X : Xn} {d : Nat} {M : XM} {mc ms : Nat} {Q : Option Value → va_W → Prop} {pc : Nat} {ls : List (Option Value)} {rest : List Value} {k j : Nat} {w : va_W} {x : Int32} {off : Int} (pc2 pct : Nat) (hp : pc + 3 = pc2) (ht : (pc : Int) + off = (pct : Int)) (hd : decode M.2.1 pc = .ok (.ifCond .gt off, 3)) (kt : 0 < x → Runs X d M mc ms Q pct ls rest k j w) (kf : ¬ 0 < x → Runs X d M mc ms Q pc2 ls rest k j w) : Runs X d M mc ms Q pc ls (.int x :: rest) k j w := by
  subst hp
  exact fun p e s m args below meth c A H locs la C P L => lv_if_gt C.1 C.2.1 hd ht (fun h => kt h p e s m args below meth c A H locs la C P L) (fun h => kf h p e s m args below meth c A H locs la C P L)
theorem r_if_gt_t {X : Xn} {d : Nat} {M : XM} {mc ms : Nat} {Q : Option Value → va_W → Prop} {pc : Nat} {ls : List (Option Value)} {rest : List Value} {k j : Nat} {w : va_W} {x : Int32} {off : Int} (pct : Nat) (ht : (pc : Int) + off = (pct : Int)) (hd : decode M.2.1 pc = .ok (.ifCond .gt off, 3)) (hc : 0 < x) (kt : Runs X d M mc ms Q pct ls rest k j w) : Runs X d M mc ms Q pc ls (.int x :: rest) k j w := r_if_gt (pc + 3) pct rfl ht hd (fun _ => kt) (fun h => absurd hc (by simpa using h))
theorem r_if_gt_f {X : Xn} {d : Nat} {M : XM} {mc ms : Nat} {Q : Option Value → va_W → Prop} {pc : Nat} {ls : List (Option Value)} {rest : List Value} {k j : Nat} {w : va_W} {x : Int32} {off : Int} (pc2 : Nat) (hp : pc + 3 = pc2) (pct : Nat) (ht : (pc : Int) + off = (pct : Int)) (hd : decode M.2.1 pc = .ok (.ifCond .gt off, 3)) (hc : ¬ 0 < x) (kf : Runs X d M mc ms Q pc2 ls rest k j w) : Runs X d M mc ms Q pc ls (.int x :: rest) k j w := r_if_gt pc2 pct hp ht hd (fun h => absurd hc (by simpa using h)) (fun _ => kf)
theorem r_icmp_gt {X : Xn} {d : Nat} {M : XM} {mc ms : Nat} {Q : Option Value → va_W → Prop} {pc : Nat} {ls : List (Option Value)} {rest : List Value} {k j : Nat} {w : va_W} {x y : Int32} {off : Int} (pc2 pct : Nat) (hp : pc + 3 = pc2) (ht : (pc : Int) + off = (pct : Int)) (hd : decode M.2.1 pc = .ok (.if_icmp .gt off, 3)) (kt : y < x → Runs X d M mc ms Q pct ls rest k j w) (kf : ¬ y < x → Runs X d M mc ms Q pc2 ls rest k j w) : Runs X d M mc ms Q pc ls (.int y :: .int x :: rest) k j w := by
  subst hp
  exact fun p e s m args below meth c A H locs la C P L => lv_icmp_gt C.1 C.2.1 hd ht (fun h => kt h p e s m args below meth c A H locs la C P L) (fun h => kf h p e s m args below meth c A H locs la C P L)
theorem r_icmp_gt_t {X : Xn} {d : Nat} {M : XM} {mc ms : Nat} {Q : Option Value → va_W → Prop} {pc : Nat} {ls : List (Option Value)} {rest : List Value} {k j : Nat} {w : va_W} {x y : Int32} {off : Int} (pct : Nat) (ht : (pc : Int) + off = (pct : Int)) (hd : decode M.2.1 pc = .ok (.if_icmp .gt off, 3)) (hc : y < x) (kt : Runs X d M mc ms Q pct ls rest k j w) : Runs X d M mc ms Q pc ls (.int y :: .int x :: rest) k j w := r_icmp_gt (pc + 3) pct rfl ht hd (fun _ => kt) (fun h => absurd hc (by simpa using h))
theorem r_icmp_gt_f {X : Xn} {d : Nat} {M : XM} {mc ms : Nat} {Q : Option Value → va_W → Prop} {pc : Nat} {ls : List (Option Value)} {rest : List Value} {k j : Nat} {w : va_W} {x y : Int32} {off : Int} (pc2 : Nat) (hp : pc + 3 = pc2) (pct : Nat) (ht : (pc : Int) + off = (pct : Int)) (hd : decode M.2.1 pc = .ok (.if_icmp .gt off, 3)) (hc : ¬ y < x) (kf : Runs X d M mc ms Q pc2 ls rest k j w) : Runs X d M mc ms Q pc ls (.int y :: .int x :: rest) k j w := r_icmp_gt pc2 pct hp ht hd (fun h => absurd hc (by simpa using h)) (fun _ => kf)
theorem r_if_le {X : Xn} {d : Nat} {M : XM} {mc ms : Nat} {Q : Option Value → va_W → Prop} {pc : Nat} {ls : List (Option Value)} {rest : List Value} {k j : Nat} {w : va_W} {x : Int32} {off : Int} (pc2 pct : Nat) (hp : pc + 3 = pc2) (ht : (pc : Int) + off = (pct : Int)) (hd : decode M.2.1 pc = .ok (.ifCond .le off, 3)) (kt : x ≤ 0 → Runs X d M mc ms Q pct ls rest k j w) (kf : ¬ x ≤ 0 → Runs X d M mc ms Q pc2 ls rest k j w) : Runs X d M mc ms Q pc ls (.int x :: rest) k j w := by
  subst hp
  exact fun p e s m args below meth c A H locs la C P L => lv_if_le C.1 C.2.1 hd ht (fun h => kt h p e s m args below meth c A H locs la C P L) (fun h => kf h p e s m args below meth c A H locs la C P L)
theorem r_if_le_t {X : Xn} {d : Nat} {M : XM} {mc ms : Nat} {Q : Option Value → va_W → Prop} {pc : Nat} {ls : List (Option Value)} {rest : List Value} {k j : Nat} {w : va_W} {x : Int32} {off : Int} (pct : Nat) (ht : (pc : Int) + off = (pct : Int)) (hd : decode M.2.1 pc = .ok (.ifCond .le off, 3)) (hc : x ≤ 0) (kt : Runs X d M mc ms Q pct ls rest k j w) : Runs X d M mc ms Q pc ls (.int x :: rest) k j w := r_if_le (pc + 3) pct rfl ht hd (fun _ => kt) (fun h => absurd hc (by simpa using h))
theorem r_if_le_f {X : Xn} {d : Nat} {M : XM} {mc ms : Nat} {Q : Option Value → va_W → Prop} {pc : Nat} {ls : List (Option Value)} {rest : List Value} {k j : Nat} {w : va_W} {x : Int32} {off : Int} (pc2 : Nat) (hp : pc + 3 = pc2) (pct : Nat) (ht : (pc : Int) + off = (pct : Int)) (hd : decode M.2.1 pc = .ok (.ifCond .le off, 3)) (hc : ¬ x ≤ 0) (kf : Runs X d M mc ms Q pc2 ls rest k j w) : Runs X d M mc ms Q pc ls (.int x :: rest) k j w := r_if_le pc2 pct hp ht hd (fun h => absurd hc (by simpa using h)) (fun _ => kf)
theorem r_icmp_le {X : Xn} {d : Nat} {M : XM} {mc ms : Nat} {Q : Option Value → va_W → Prop} {pc : Nat} {ls : List (Option Value)} {rest : List Value} {k j : Nat} {w : va_W} {x y : Int32} {off : Int} (pc2 pct : Nat) (hp : pc + 3 = pc2) (ht : (pc : Int) + off = (pct : Int)) (hd : decode M.2.1 pc = .ok (.if_icmp .le off, 3)) (kt : x ≤ y → Runs X d M mc ms Q pct ls rest k j w) (kf : ¬ x ≤ y → Runs X d M mc ms Q pc2 ls rest k j w) : Runs X d M mc ms Q pc ls (.int y :: .int x :: rest) k j w := by
  subst hp
  exact fun p e s m args below meth c A H locs la C P L => lv_icmp_le C.1 C.2.1 hd ht (fun h => kt h p e s m args below meth c A H locs la C P L) (fun h => kf h p e s m args below meth c A H locs la C P L)
theorem r_icmp_le_t {X : Xn} {d : Nat} {M : XM} {mc ms : Nat} {Q : Option Value → va_W → Prop} {pc : Nat} {ls : List (Option Value)} {rest : List Value} {k j : Nat} {w : va_W} {x y : Int32} {off : Int} (pct : Nat) (ht : (pc : Int) + off = (pct : Int)) (hd : decode M.2.1 pc = .ok (.if_icmp .le off, 3)) (hc : x ≤ y) (kt : Runs X d M mc ms Q pct ls rest k j w) : Runs X d M mc ms Q pc ls (.int y :: .int x :: rest) k j w := r_icmp_le (pc + 3) pct rfl ht hd (fun _ => kt) (fun h => absurd hc (by simpa using h))
theorem r_icmp_le_f {X : Xn} {d : Nat} {M : XM} {mc ms : Nat} {Q : Option Value → va_W → Prop} {pc : Nat} {ls : List (Option Value)} {rest : List Value} {k j : Nat} {w : va_W} {x y : Int32} {off : Int} (pc2 : Nat) (hp : pc + 3 = pc2) (pct : Nat) (ht : (pc : Int) + off = (pct : Int)) (hd : decode M.2.1 pc = .ok (.if_icmp .le off, 3)) (hc : ¬ x ≤ y) (kf : Runs X d M mc ms Q pc2 ls rest k j w) : Runs X d M mc ms Q pc ls (.int y :: .int x :: rest) k j w := r_icmp_le pc2 pct hp ht hd (fun h => absurd hc (by simpa using h)) (fun _ => kf)
theorem r_goto {X : Xn} {d : Nat} {M : XM} {mc ms : Nat} {Q : Option Value → va_W → Prop} {pc : Nat} {ls : List (Option Value)} {rest : List Value} {k j : Nat} {w : va_W} {off : Int} (pct : Nat) (ht : (pc : Int) + off = (pct : Int)) (hd : decode M.2.1 pc = .ok (.goto off, 3)) (kt : Runs X d M mc ms Q pct ls rest k j w) : Runs X d M mc ms Q pc ls rest k j w := fun p e s m args below meth c A H locs la C P L => lv_goto C.1 C.2.1 hd ht (kt p e s m args below meth c A H locs la C P L)
theorem r_ifnonnull {X : Xn} {d : Nat} {M : XM} {mc ms : Nat} {Q : Option Value → va_W → Prop} {pc : Nat} {ls : List (Option Value)} {rest : List Value} {k j : Nat} {w : va_W} {x : Nat} {off : Int} (pct : Nat) (ht : (pc : Int) + off = (pct : Int)) (hd : decode M.2.1 pc = .ok (.ifnonnull off, 3)) (kt : Runs X d M mc ms Q pct ls rest k j w) : Runs X d M mc ms Q pc ls (.ref x :: rest) k j w := fun p e s m args below meth c A H locs la C P L => lv_ifnonnull C.1 C.2.1 hd ht (kt p e s m args below meth c A H locs la C P L)
theorem r_ifnull {X : Xn} {d : Nat} {M : XM} {mc ms : Nat} {Q : Option Value → va_W → Prop} {pc : Nat} {ls : List (Option Value)} {rest : List Value} {k j : Nat} {w : va_W} {x : Nat} {off : Int} (pc2 : Nat) (hp : pc + 3 = pc2) (hd : decode M.2.1 pc = .ok (.ifnull off, 3)) (kt : Runs X d M mc ms Q pc2 ls rest k j w) : Runs X d M mc ms Q pc ls (.ref x :: rest) k j w := by
  subst hp
  exact fun p e s m args below meth c A H locs la C P L => lv_ifnull C.1 C.2.1 hd (kt p e s m args below meth c A H locs la C P L)
theorem r_ifnullN {X : Xn} {d : Nat} {M : XM} {mc ms : Nat} {Q : Option Value → va_W → Prop} {pc : Nat} {ls : List (Option Value)} {rest : List Value} {k j : Nat} {w : va_W} {off : Int} (pct : Nat) (ht : (pc : Int) + off = (pct : Int)) (hd : decode M.2.1 pc = .ok (.ifnull off, 3)) (kt : Runs X d M mc ms Q pct ls rest k j w) : Runs X d M mc ms Q pc ls (.null :: rest) k j w := fun p e s m args below meth c A H locs la C P L => lv_ifnullN C.1 C.2.1 hd ht (kt p e s m args below meth c A H locs la C P L)
theorem r_ifnonnullN {X : Xn} {d : Nat} {M : XM} {mc ms : Nat} {Q : Option Value → va_W → Prop} {pc : Nat} {ls : List (Option Value)} {rest : List Value} {k j : Nat} {w : va_W} {off : Int} (pc2 : Nat) (hp : pc + 3 = pc2) (hd : decode M.2.1 pc = .ok (.ifnonnull off, 3)) (kt : Runs X d M mc ms Q pc2 ls rest k j w) : Runs X d M mc ms Q pc ls (.null :: rest) k j w := by
  subst hp
  exact fun p e s m args below meth c A H locs la C P L => lv_ifnonnullN C.1 C.2.1 hd (kt p e s m args below meth c A H locs la C P L)
theorem r_tableIn {X : Xn} {d : Nat} {M : XM} {mc ms : Nat} {Q : Option Value → va_W → Prop} {pc : Nat} {ls : List (Option Value)} {rest : List Value} {k j : Nat} {w : va_W} {dflt lo hi : Int} {offs : Array Int} {len : Nat} {x : Int32} {off : Int} (pct : Nat) (hd : decode M.2.1 pc = .ok (.tableswitch dflt lo hi offs, len)) (h1 : ¬ x.toInt < lo) (h2 : ¬ hi < x.toInt) (ho : offs[(x.toInt - lo).toNat]? = some off) (ht : (pc : Int) + off = (pct : Int)) (kt : Runs X d M mc ms Q pct ls rest k j w) : Runs X d M mc ms Q pc ls (.int x :: rest) k j w := fun p e s m args below meth c A H locs la C P L => lv_tableIn C.1 C.2.1 hd h1 h2 ho ht (kt p e s m args below meth c A H locs la C P L)
theorem r_tableOut {X : Xn} {d : Nat} {M : XM} {mc ms : Nat} {Q : Option Value → va_W → Prop} {pc : Nat} {ls : List (Option Value)} {rest : List Value} {k j : Nat} {w : va_W} {dflt lo hi : Int} {offs : Array Int} {len : Nat} {x : Int32} (pct : Nat) (hd : decode M.2.1 pc = .ok (.tableswitch dflt lo hi offs, len)) (h : x.toInt < lo ∨ hi < x.toInt) (ht : (pc : Int) + dflt = (pct : Int)) (kt : Runs X d M mc ms Q pct ls rest k j w) : Runs X d M mc ms Q pc ls (.int x :: rest) k j w := fun p e s m args below meth c A H locs la C P L => lv_tableOut C.1 C.2.1 hd h ht (kt p e s m args below meth c A H locs la C P L)
theorem r_lookup {X : Xn} {d : Nat} {M : XM} {mc ms : Nat} {Q : Option Value → va_W → Prop} {pc : Nat} {ls : List (Option Value)} {rest : List Value} {k j : Nat} {w : va_W} {dflt : Int} {ps : Array (Int × Int)} {len : Nat} {x : Int32} {off : Int} (pct : Nat) (hd : decode M.2.1 pc = .ok (.lookupswitch dflt ps, len)) (hq : (ps.toList.zip (ps.toList.drop 1)).all (fun (a, next) => a.1 < next.1) = true) (ho : Op.lookupswitch.offset ps.toList dflt x.toInt = off) (ht : (pc : Int) + off = (pct : Int)) (kt : Runs X d M mc ms Q pct ls rest k j w) : Runs X d M mc ms Q pc ls (.int x :: rest) k j w := fun p e s m args below meth c A H locs la C P L => lv_lookup C.1 C.2.1 hd hq ho ht (kt p e s m args below meth c A H locs la C P L)
theorem r_topi {X : Xn} {d : Nat} {M : XM} {mc ms : Nat} {Q : Option Value → va_W → Prop} {pc : Nat} {ls : List (Option Value)} {rest : List Value} {k j : Nat} {w : va_W} {x : Int32} (y : Int32) (h : x = y) (kk : Runs X d M mc ms Q pc ls (.int y :: rest) k j w) : Runs X d M mc ms Q pc ls (.int x :: rest) k j w := by subst h; exact kk
theorem r_topl {X : Xn} {d : Nat} {M : XM} {mc ms : Nat} {Q : Option Value → va_W → Prop} {pc : Nat} {ls : List (Option Value)} {rest : List Value} {k j : Nat} {w : va_W} {x : Int64} (y : Int64) (h : x = y) (kk : Runs X d M mc ms Q pc ls (.long y :: rest) k j w) : Runs X d M mc ms Q pc ls (.long x :: rest) k j w := by subst h; exact kk
/-- getfield ix in own: field k of class ci -/
def GF (own : String) (ix ci kf : Nat) : Prop := ∃ (C : String) (T : u_T) (N : Nat), CLS[ci]? = some (C, T, N) ∧ kf < N ∧ (∀ w ∈ u_ws C T N, w ∈ TB) ∧ Cond.fieldLink own ix (T kf).1 (T kf).2.1 (T kf).2.2.1 ∈ TB
def GFn (own : String) (ix ci kf : Nat) : Prop := ∃ (C : String) (T : u_T) (N : Nat), CLS[ci]? = some (C, T, N) ∧ kf < N ∧ (∀ w ∈ u_ws C T N, w ∈ TB) ∧ Cond.fieldLinkNest own ix (T kf).1 (T kf).2.1 (T kf).2.2.1 "HandshakeBinds" ∈ NW
def PF (own : String) (ix ci kf : Nat) (ty : FieldType) (fin : Bool) : Prop := ∃ (C : String) (T : u_T) (N : Nat) (ty0 : Nat → FieldType), CLS[ci]? = some (C, T, N) ∧ kf < N ∧ (∀ w ∈ u_ws C T N, w ∈ TB) ∧ (∀ q, q < N → parseFieldDescriptor (T q).2.2.1 = some (ty0 q)) ∧ (∀ a, a < N → ∀ b, b < N → a ≠ b → (T a).2.1 ≠ (T b).2.1) ∧ Cond.fieldLink own ix (T kf).1 (T kf).2.1 (T kf).2.2.1 ∈ TB ∧ (T kf).2.2.2 = fin ∧ parseFieldDescriptor (T kf).2.2.1 = some ty ∧ (fin = true → (T kf).1 = own)
def PFn (own : String) (ix ci kf : Nat) (ty : FieldType) : Prop := ∃ (C : String) (T : u_T) (N : Nat) (ty0 : Nat → FieldType), CLS[ci]? = some (C, T, N) ∧ kf < N ∧ (∀ w ∈ u_ws C T N, w ∈ TB) ∧ (∀ q, q < N → parseFieldDescriptor (T q).2.2.1 = some (ty0 q)) ∧ (∀ a, a < N → ∀ b, b < N → a ≠ b → (T a).2.1 ≠ (T b).2.1) ∧ Cond.fieldLinkNest own ix (T kf).1 (T kf).2.1 (T kf).2.2.1 "HandshakeBinds" ∈ NW ∧ (T kf).2.2.2 = false ∧ parseFieldDescriptor (T kf).2.2.1 = some ty
theorem Cx.use {X : Xn} {M : XM} {p : Program} {s : State} {m : MethodId} {args : Array Value} {meth : Method} {c : Code} {A : Nat → Prop} (C : Cx X M p s m args meth c A) {q : Cond} (h : q ∈ TB) : q.before args s = true := C.2.2.2.2.1 q (List.mem_cons_of_mem _ h)
theorem Cx.ins {X : Xn} {M : XM} {p : Program} {s : State} {m : MethodId} {args : Array Value} {meth : Method} {c : Code} {A : Nat → Prop} (C : Cx X M p s m args meth c A) {l : List Cond} (h : ∀ q ∈ l, q ∈ TB) : ∀ q ∈ l, q ∈ Xws M := fun q hq => List.mem_cons_of_mem _ (h q hq)
theorem Cx.own {X : Xn} {M : XM} {p : Program} {s : State} {m : MethodId} {args : Array Value} {meth : Method} {c : Code} {A : Nat → Prop} (C : Cx X M p s m args meth c A) : s.vm.findClass M.1.cls = some m.cls := C.2.2.2.2.2.1
theorem Cx.K {X : Xn} {M : XM} {p : Program} {s : State} {m : MethodId} {args : Array Value} {meth : Method} {c : Code} {A : Nat → Prop} (C : Cx X M p s m args meth c A) : va_K X.2.1 CLS (Xtys X) s := C.2.2.2.2.2.2.2.2.1
theorem Cx.st {X : Xn} {M : XM} {p : Program} {s : State} {m : MethodId} {args : Array Value} {meth : Method} {c : Code} {A : Nat → Prop} (C : Cx X M p s m args meth c A) : Xst X A s s.heap := C.2.2.2.2.2.2.2.2.2.1
theorem Cx.nw {X : Xn} {M : XM} {p : Program} {s : State} {m : MethodId} {args : Array Value} {meth : Method} {c : Code} {A : Nat → Prop} (C : Cx X M p s m args meth c A) {q : Cond} (h : q ∈ NW) : va_Nw q s := C.st.2.2.2.2.2.2.2.2.2.2 q h
theorem Cx.new {X : Xn} {M : XM} {p : Program} {s : State} {m : MethodId} {args : Array Value} {meth : Method} {c : Code} {A : Nat → Prop} (C : Cx X M p s m args meth c A) : ∀ q, s.heap.size ≤ q → A q := C.2.2.2.2.2.2.2.2.2.2
theorem r_getf {X : Xn} {d : Nat} {M : XM} {mc ms : Nat} {Q : Option Value → va_W → Prop} {pc : Nat} {ls : List (Option Value)} {rest : List Value} {k j : Nat} {w : va_W} {ix ci kf a : Nat} {fs : List Value} {v : Value} (hf : GF M.1.cls ix ci kf) (q0 : Nat) (he : w[q0]? = some (a, .inr (ci, fs))) (hv : fs[kf]? = some v) (pc2 : Nat) (hp : pc + 3 = pc2) (hd : decode M.2.1 pc = .ok (.getfield ix, 3)) (kk : Runs X d M mc ms Q pc2 ls (v :: rest) k j w) : Runs X d M mc ms Q pc ls (.ref a :: rest) k j w := by
  subst hp
  obtain ⟨C0, T0, N0, h1, h2, h3, h4⟩ := hf
  exact fun p e s m args below meth c A H locs la C P L => va_get C.1 C.2.1 C.2.2.2.2.1 (C.ins h3) C.own C.K P.1 q0 he h1 kf h2 (C.use h4) (fun _ h9 => h9) hv hd (kk p e s m args below meth c A H locs la C P L)
theorem r_getfn {X : Xn} {d : Nat} {M : XM} {mc ms : Nat} {Q : Option Value → va_W → Prop} {pc : Nat} {ls : List (Option Value)} {rest : List Value} {k j : Nat} {w : va_W} {ix ci kf a : Nat} {fs : List Value} {v : Value} (hf : GFn M.1.cls ix ci kf) (q0 : Nat) (he : w[q0]? = some (a, .inr (ci, fs))) (hv : fs[kf]? = some v) (pc2 : Nat) (hp : pc + 3 = pc2) (hd : decode M.2.1 pc = .ok (.getfield ix, 3)) (kk : Runs X d M mc ms Q pc2 ls (v :: rest) k j w) : Runs X d M mc ms Q pc ls (.ref a :: rest) k j w := by
  subst hp
  obtain ⟨C0, T0, N0, h1, h2, h3, h4⟩ := hf
  exact fun p e s m args below meth c A H locs la C P L => va_getN C.1 C.2.1 C.2.2.2.2.1 (C.ins h3) C.own C.K P.1 q0 he h1 kf h2 (va_Nw.use rfl (C.nw h4)) (fun _ h9 => h9) hv hd (kk p e s m args below meth c A H locs la C P L)
theorem r_putf {X : Xn} {d : Nat} {M : XM} {mc ms : Nat} {Q : Option Value → va_W → Prop} {pc : Nat} {ls : List (Option Value)} {rest : List Value} {k j : Nat} {w : va_W} {ix ci kf a : Nat} {fs : List Value} {v : Value} {ty : FieldType} {w2 : va_W} (hf : PF M.1.cls ix ci kf ty false) (q0 : Nat) (he : w[q0]? = some (a, .inr (ci, fs))) (hn : narrow ty v = v) (hfit : fits ty v = true) (hl : kf < fs.length) (hw : w.set q0 (a, .inr (ci, fs.set kf v)) = w2) (pc2 : Nat) (hp : pc + 3 = pc2) (hd : decode M.2.1 pc = .ok (.putfield ix, 3)) (kk : Runs X d M mc ms Q pc2 ls rest k j w2) : Runs X d M mc ms Q pc ls (v :: .ref a :: rest) k j w := by
  subst hp
  subst hw
  obtain ⟨C0, T0, N0, ty0, h1, h2, h3, h4, h5, h6, h7, h8, -⟩ := hf
  exact fun p e s m args below meth c A H locs la C P L => va_put C.1 C.2.1 C.2.2.2.2.1 (C.ins h3) ty0 h4 h5 C.own C.K P.1 P.2.1 P.2.2 q0 he h1 kf h2 (C.use h6) (fun _ h9 => h9) h7 h8 hn hfit hl hd (fun H1 locs1 g1 g2 g3 => kk p e s m args below meth c A H1 locs1 la C ⟨g1, g2, g3⟩ L)
theorem r_putF {X : Xn} {d : Nat} {M : XM} {mc ms : Nat} {Q : Option Value → va_W → Prop} {pc : Nat} {ls : List (Option Value)} {rest : List Value} {k j : Nat} {w : va_W} {ix ci kf a : Nat} {fs : List Value} {v : Value} {ty : FieldType} {w2 : va_W} (hin : M.1.name = "<init>") (hf : PF M.1.cls ix ci kf ty true) (q0 : Nat) (he : w[q0]? = some (a, .inr (ci, fs))) (hn : narrow ty v = v) (hfit : fits ty v = true) (hl : kf < fs.length) (hw : w.set q0 (a, .inr (ci, fs.set kf v)) = w2) (pc2 : Nat) (hp : pc + 3 = pc2) (hd : decode M.2.1 pc = .ok (.putfield ix, 3)) (kk : Runs X d M mc ms Q pc2 ls rest k j w2) : Runs X d M mc ms Q pc ls (v :: .ref a :: rest) k j w := by
  subst hp
  subst hw
  obtain ⟨C0, T0, N0, ty0, h1, h2, h3, h4, h5, h6, h7, h8, h9⟩ := hf
  exact fun p e s m args below meth c A H locs la C P L => va_putF C.1 C.2.1 C.2.2.2.2.1 (C.ins h3) ty0 h4 h5 C.own C.K P.1 P.2.1 P.2.2 q0 he h1 kf h2 (C.use h6) (fun _ h9 => h9) h7 (C.2.2.2.2.2.2.2.1.trans hin) (h9 rfl) h8 hn hfit hl hd (fun H1 locs1 g1 g2 g3 => kk p e s m args below meth c A H1 locs1 la C ⟨g1, g2, g3⟩ L)
theorem r_putfn {X : Xn} {d : Nat} {M : XM} {mc ms : Nat} {Q : Option Value → va_W → Prop} {pc : Nat} {ls : List (Option Value)} {rest : List Value} {k j : Nat} {w : va_W} {ix ci kf a : Nat} {fs : List Value} {v : Value} {ty : FieldType} {w2 : va_W} (hf : PFn M.1.cls ix ci kf ty) (q0 : Nat) (he : w[q0]? = some (a, .inr (ci, fs))) (hn : narrow ty v = v) (hfit : fits ty v = true) (hl : kf < fs.length) (hw : w.set q0 (a, .inr (ci, fs.set kf v)) = w2) (pc2 : Nat) (hp : pc + 3 = pc2) (hd : decode M.2.1 pc = .ok (.putfield ix, 3)) (kk : Runs X d M mc ms Q pc2 ls rest k j w2) : Runs X d M mc ms Q pc ls (v :: .ref a :: rest) k j w := by
  subst hp
  subst hw
  obtain ⟨C0, T0, N0, ty0, h1, h2, h3, h4, h5, h6, h7, h8⟩ := hf
  exact fun p e s m args below meth c A H locs la C P L => va_putN C.1 C.2.1 C.2.2.2.2.1 (C.ins h3) ty0 h4 h5 C.own C.K P.1 P.2.1 P.2.2 q0 he h1 kf h2 (va_Nw.use rfl (C.nw h6)) (fun _ h9 => h9) h7 h8 hn hfit hl hd (fun H1 locs1 g1 g2 g3 => kk p e s m args below meth c A H1 locs1 la C ⟨g1, g2, g3⟩ L)
theorem r_iald {X : Xn} {d : Nat} {M : XM} {mc ms : Nat} {Q : Option Value → va_W → Prop} {pc : Nat} {ls : List (Option Value)} {rest : List Value} {k j : Nat} {w : va_W} {a n : Nat} {i : Int32} {f : Nat → Int32} (q0 : Nat) (he : w[q0]? = some (a, .inl (X.2.2.1 0, n, .inl f))) (x : Nat) (hi : i = nI x) (hx : x < n) (hn : n < 2 ^ 31) (pc2 : Nat) (hp : pc + 1 = pc2) (hd : decode M.2.1 pc = .ok (.iaload, 1)) (kk : Runs X d M mc ms Q pc2 ls (.int (f x) :: rest) k j w) : Runs X d M mc ms Q pc ls (.int i :: .ref a :: rest) k j w := by
  subst hp; subst hi
  intro p e s m args below meth c A H locs la C P L
  refine va_iald C.1 C.2.1 C.K P.1 q0 0 he rfl (vp_in_nI hx hn) hd ?_
  rw [nI_clamp (by omega)]
  exact kk p e s m args below meth c A H locs la C P L
theorem r_lald {X : Xn} {d : Nat} {M : XM} {mc ms : Nat} {Q : Option Value → va_W → Prop} {pc : Nat} {ls : List (Option Value)} {rest : List Value} {k j : Nat} {w : va_W} {a n : Nat} {i : Int32} {f : Nat → Int64} (q0 : Nat) (he : w[q0]? = some (a, .inl (X.2.2.1 1, n, .inr (.inl f)))) (x : Nat) (hi : i = nI x) (hx : x < n) (hn : n < 2 ^ 31) (pc2 : Nat) (hp : pc + 1 = pc2) (hd : decode M.2.1 pc = .ok (.laload, 1)) (kk : Runs X d M mc ms Q pc2 ls (.long (f x) :: rest) k j w) : Runs X d M mc ms Q pc ls (.int i :: .ref a :: rest) k j w := by
  subst hp; subst hi
  intro p e s m args below meth c A H locs la C P L
  refine va_lald C.1 C.2.1 C.K P.1 q0 1 he rfl (vp_in_nI hx hn) hd ?_
  rw [nI_clamp (by omega)]
  exact kk p e s m args below meth c A H locs la C P L
theorem r_zald {X : Xn} {d : Nat} {M : XM} {mc ms : Nat} {Q : Option Value → va_W → Prop} {pc : Nat} {ls : List (Option Value)} {rest : List Value} {k j : Nat} {w : va_W} {a n : Nat} {i : Int32} {f : Nat → Int32} (q0 : Nat) (he : w[q0]? = some (a, .inl (X.2.2.1 2, n, .inl f))) (x : Nat) (hi : i = nI x) (hx : x < n) (hn : n < 2 ^ 31) (pc2 : Nat) (hp : pc + 1 = pc2) (hd : decode M.2.1 pc = .ok (.baload, 1)) (kk : Runs X d M mc ms Q pc2 ls (.int (f x) :: rest) k j w) : Runs X d M mc ms Q pc ls (.int i :: .ref a :: rest) k j w := by
  subst hp; subst hi
  intro p e s m args below meth c A H locs la C P L
  refine va_zald C.1 C.2.1 C.K P.1 q0 2 he rfl (vp_in_nI hx hn) hd ?_
  rw [nI_clamp (by omega)]
  exact kk p e s m args below meth c A H locs la C P L
theorem r_iast {X : Xn} {d : Nat} {M : XM} {mc ms : Nat} {Q : Option Value → va_W → Prop} {pc : Nat} {ls : List (Option Value)} {rest : List Value} {k j : Nat} {w : va_W} {a n : Nat} {i : Int32} {f : Nat → Int32} {y : Int32} {w2 : va_W} (q0 : Nat) (he : w[q0]? = some (a, .inl (X.2.2.1 0, n, .inl f))) (x : Nat) (hi : i = nI x) (hx : x < n) (hn : n < 2 ^ 31) (hw : w.set q0 (a, .inl (X.2.2.1 0, n, .inl (upd f x y))) = w2) (pc2 : Nat) (hp : pc + 1 = pc2) (hd : decode M.2.1 pc = .ok (.iastore, 1)) (kk : Runs X d M mc ms Q pc2 ls rest k j w2) : Runs X d M mc ms Q pc ls (.int y :: .int i :: .ref a :: rest) k j w := by
  subst hp; subst hi; subst hw
  intro p e s m args below meth c A H locs la C P L
  refine va_iast C.1 C.2.1 C.K P.1 P.2.1 P.2.2 q0 0 he rfl (vp_in_nI hx hn) hd ?_
  rw [nI_clamp (by omega)]
  exact fun H1 locs1 g1 g2 g3 => kk p e s m args below meth c A H1 locs1 la C ⟨g1, g2, g3⟩ L
theorem r_last {X : Xn} {d : Nat} {M : XM} {mc ms : Nat} {Q : Option Value → va_W → Prop} {pc : Nat} {ls : List (Option Value)} {rest : List Value} {k j : Nat} {w : va_W} {a n : Nat} {i : Int32} {f : Nat → Int64} {y : Int64} {w2 : va_W} (q0 : Nat) (he : w[q0]? = some (a, .inl (X.2.2.1 1, n, .inr (.inl f)))) (x : Nat) (hi : i = nI x) (hx : x < n) (hn : n < 2 ^ 31) (hw : w.set q0 (a, .inl (X.2.2.1 1, n, .inr (.inl (vp_updL f x y)))) = w2) (pc2 : Nat) (hp : pc + 1 = pc2) (hd : decode M.2.1 pc = .ok (.lastore, 1)) (kk : Runs X d M mc ms Q pc2 ls rest k j w2) : Runs X d M mc ms Q pc ls (.long y :: .int i :: .ref a :: rest) k j w := by
  subst hp; subst hi; subst hw
  intro p e s m args below meth c A H locs la C P L
  refine va_last C.1 C.2.1 C.K P.1 P.2.1 P.2.2 q0 1 he rfl (vp_in_nI hx hn) hd ?_
  rw [nI_clamp (by omega)]
  exact fun H1 locs1 g1 g2 g3 => kk p e s m args below meth c A H1 locs1 la C ⟨g1, g2, g3⟩ L
theorem r_zast {X : Xn} {d : Nat} {M : XM} {mc ms : Nat} {Q : Option Value → va_W → Prop} {pc : Nat} {ls : List (Option Value)} {rest : List Value} {k j : Nat} {w : va_W} {a n : Nat} {i : Int32} {f : Nat → Int32} {y : Int32} {w2 : va_W} (q0 : Nat) (he : w[q0]? = some (a, .inl (X.2.2.1 2, n, .inl f))) (x : Nat) (hi : i = nI x) (hx : x < n) (hn : n < 2 ^ 31) (hy : y = 0 ∨ y = 1) (hw : w.set q0 (a, .inl (X.2.2.1 2, n, .inl (upd f x y))) = w2) (pc2 : Nat) (hp : pc + 1 = pc2) (hd : decode M.2.1 pc = .ok (.bastore, 1)) (kk : Runs X d M mc ms Q pc2 ls rest k j w2) : Runs X d M mc ms Q pc ls (.int y :: .int i :: .ref a :: rest) k j w := by
  subst hp; subst hi; subst hw
  intro p e s m args below meth c A H locs la C P L
  refine va_zast C.1 C.2.1 C.K P.1 P.2.1 P.2.2 q0 2 he rfl (vp_in_nI hx hn) hd ?_
  have hz : vp_nar .boolean y = y := by rcases hy with rfl | rfl <;> decide
  rw [nI_clamp (by omega), hz]
  exact fun H1 locs1 g1 g2 g3 => kk p e s m args below meth c A H1 locs1 la C ⟨g1, g2, g3⟩ L
theorem r_alenI {X : Xn} {d : Nat} {M : XM} {mc ms : Nat} {Q : Option Value → va_W → Prop} {pc : Nat} {ls : List (Option Value)} {rest : List Value} {k j : Nat} {w : va_W} {a n : Nat} {f : Nat → Int32} (q0 : Nat) (he : w[q0]? = some (a, .inl (X.2.2.1 0, n, .inl f))) (pc2 : Nat) (hp : pc + 1 = pc2) (hd : decode M.2.1 pc = .ok (.arraylength, 1)) (kk : Runs X d M mc ms Q pc2 ls (.int (nI n) :: rest) k j w) : Runs X d M mc ms Q pc ls (.ref a :: rest) k j w := by
  subst hp
  exact fun p e s m args below meth c A H locs la C P L => va_alen C.1 C.2.1 C.K P.1 q0 0 he rfl rfl hd (kk p e s m args below meth c A H locs la C P L)
theorem r_alenJ {X : Xn} {d : Nat} {M : XM} {mc ms : Nat} {Q : Option Value → va_W → Prop} {pc : Nat} {ls : List (Option Value)} {rest : List Value} {k j : Nat} {w : va_W} {a n : Nat} {f : Nat → Int64} (q0 : Nat) (he : w[q0]? = some (a, .inl (X.2.2.1 1, n, .inr (.inl f)))) (pc2 : Nat) (hp : pc + 1 = pc2) (hd : decode M.2.1 pc = .ok (.arraylength, 1)) (kk : Runs X d M mc ms Q pc2 ls (.int (nI n) :: rest) k j w) : Runs X d M mc ms Q pc ls (.ref a :: rest) k j w := by
  subst hp
  exact fun p e s m args below meth c A H locs la C P L => va_alen C.1 C.2.1 C.K P.1 q0 1 he rfl rfl hd (kk p e s m args below meth c A H locs la C P L)
theorem r_alenZ {X : Xn} {d : Nat} {M : XM} {mc ms : Nat} {Q : Option Value → va_W → Prop} {pc : Nat} {ls : List (Option Value)} {rest : List Value} {k j : Nat} {w : va_W} {a n : Nat} {f : Nat → Int32} (q0 : Nat) (he : w[q0]? = some (a, .inl (X.2.2.1 2, n, .inl f))) (pc2 : Nat) (hp : pc + 1 = pc2) (hd : decode M.2.1 pc = .ok (.arraylength, 1)) (kk : Runs X d M mc ms Q pc2 ls (.int (nI n) :: rest) k j w) : Runs X d M mc ms Q pc ls (.ref a :: rest) k j w := by
  subst hp
  exact fun p e s m args below meth c A H locs la C P L => va_alen C.1 C.2.1 C.K P.1 q0 2 he rfl rfl hd (kk p e s m args below meth c A H locs la C P L)
theorem r_alenE {X : Xn} {d : Nat} {M : XM} {mc ms : Nat} {Q : Option Value → va_W → Prop} {pc : Nat} {ls : List (Option Value)} {rest : List Value} {k j : Nat} {w : va_W} {a n : Nat} {f : Nat → Option Nat} (q0 : Nat) (he : w[q0]? = some (a, .inl (X.2.2.1 3, n, .inr (.inr (.inr (.inr f)))))) (pc2 : Nat) (hp : pc + 1 = pc2) (hd : decode M.2.1 pc = .ok (.arraylength, 1)) (kk : Runs X d M mc ms Q pc2 ls (.int (nI n) :: rest) k j w) : Runs X d M mc ms Q pc ls (.ref a :: rest) k j w := by
  subst hp
  exact fun p e s m args below meth c A H locs la C P L => va_alen C.1 C.2.1 C.K P.1 q0 3 he rfl rfl hd (kk p e s m args below meth c A H locs la C P L)
theorem r_aaldE {X : Xn} {d : Nat} {M : XM} {mc ms : Nat} {Q : Option Value → va_W → Prop} {pc : Nat} {ls : List (Option Value)} {rest : List Value} {k j : Nat} {w : va_W} {a n : Nat} {i : Int32} {f : Nat → Option Nat} (q0 : Nat) (he : w[q0]? = some (a, .inl (X.2.2.1 3, n, .inr (.inr (.inr (.inr f)))))) (x y : Nat) (hi : i = nI x) (hx : x < n) (hn : n < 2 ^ 31) (hy : f x = some y) (pc2 : Nat) (hp : pc + 1 = pc2) (hd : decode M.2.1 pc = .ok (.aaload, 1)) (kk : Runs X d M mc ms Q pc2 ls (.ref y :: rest) k j w) : Runs X d M mc ms Q pc ls (.int i :: .ref a :: rest) k j w := by
  subst hp; subst hi
  intro p e s m args below meth c A H locs la C P L
  refine va_aldq C.1 C.2.1 C.K P.1 q0 3 (C := "HandshakeBinds$Exchange") he rfl (vp_in_nI hx hn) hd ?_
  rw [nI_clamp (by omega), hy]
  exact kk p e s m args below meth c A H locs la C P L
theorem r_alenT {X : Xn} {d : Nat} {M : XM} {mc ms : Nat} {Q : Option Value → va_W → Prop} {pc : Nat} {ls : List (Option Value)} {rest : List Value} {k j : Nat} {w : va_W} {a n : Nat} {f : Nat → Option Nat} (q0 : Nat) (he : w[q0]? = some (a, .inl (X.2.2.1 4, n, .inr (.inr (.inr (.inr f)))))) (pc2 : Nat) (hp : pc + 1 = pc2) (hd : decode M.2.1 pc = .ok (.arraylength, 1)) (kk : Runs X d M mc ms Q pc2 ls (.int (nI n) :: rest) k j w) : Runs X d M mc ms Q pc ls (.ref a :: rest) k j w := by
  subst hp
  exact fun p e s m args below meth c A H locs la C P L => va_alen C.1 C.2.1 C.K P.1 q0 4 he rfl rfl hd (kk p e s m args below meth c A H locs la C P L)
theorem r_aaldT {X : Xn} {d : Nat} {M : XM} {mc ms : Nat} {Q : Option Value → va_W → Prop} {pc : Nat} {ls : List (Option Value)} {rest : List Value} {k j : Nat} {w : va_W} {a n : Nat} {i : Int32} {f : Nat → Option Nat} (q0 : Nat) (he : w[q0]? = some (a, .inl (X.2.2.1 4, n, .inr (.inr (.inr (.inr f)))))) (x y : Nat) (hi : i = nI x) (hx : x < n) (hn : n < 2 ^ 31) (hy : f x = some y) (pc2 : Nat) (hp : pc + 1 = pc2) (hd : decode M.2.1 pc = .ok (.aaload, 1)) (kk : Runs X d M mc ms Q pc2 ls (.ref y :: rest) k j w) : Runs X d M mc ms Q pc ls (.int i :: .ref a :: rest) k j w := by
  subst hp; subst hi
  intro p e s m args below meth c A H locs la C P L
  refine va_aldq C.1 C.2.1 C.K P.1 q0 4 (C := "HandshakeBinds$Tape") he rfl (vp_in_nI hx hn) hd ?_
  rw [nI_clamp (by omega), hy]
  exact kk p e s m args below meth c A H locs la C P L
