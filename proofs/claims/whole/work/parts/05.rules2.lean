/-! ROWS of calls and returns over Runs, by program -/
theorem Xfm {w wc : va_W} : ∀ {is : List Nat}, is.map (fun i => w[i]?) = wc.map some → is.filterMap (fun i => w[i]?) = wc := by
  have h2 : ∀ (l : List Nat) (l2 : va_W), l.map (fun i => w[i]?) = l2.map some → l.filterMap (fun i => w[i]?) = l2 := by
    intro l
    induction l with
    | nil => intro l2 h; cases l2 with
      | nil => rfl
      | cons _ _ => cases h
    | cons a l ih => intro l2 h; cases l2 with
      | nil => cases h
      | cons b l2 =>
        simp only [List.map_cons, List.cons.injEq] at h
        rw [List.filterMap_cons, h.1]
        simp only [ih l2 h.2]
  exact fun {is} h => h2 is wc h
theorem r_callV {X : Xn} {d : Nat} {M : XM} {mc ms : Nat} {Q : Option Value → va_W → Prop} {pc : Nat} {ls : List (Option Value)} {rest : List Value} {k j : Nat} {w : va_W} {M2 : XM} {ix np d2 mc2 ms2 : Nat} {Q2 : Option Value → va_W → Prop} {wc : va_W} {As : List Value} {st : List Value} {b : Nat} (hlk : LVt M2 np) (hln : Cond.methodLink M.1.cls ix M2.1 ∈ TB) (hM : Does X d2 M2 (.ref b :: As) wc mc2 ms2 Q2) (hd2 : d2 + 1 ≤ d) (hnp : As.length = np) (hst : As.reverse ++ .ref b :: rest = st) (hcat : (rest.map fun v => v.category).sum ≤ 8) (hk : k + mc2 ≤ mc) (hj : j + ms2 ≤ ms) (is : List Nat) (hC : is.map (fun i => w[i]?) = wc.map some) (hnd : va_nd is = true) {ci q0 : Nat} {fs : List Value} {T0 : u_T} {N0 : Nat} (hci : CLS[ci]? = some (M2.1.cls, T0, N0)) (hrc : wc[q0]? = some (b, .inr (ci, fs))) (pc2 : Nat) (hp : pc + 3 = pc2) (hd : decode M.2.1 pc = .ok (.invokevirtual ix, 3))
    (kk : ∀ v w', Q2 v w' → ∃ w1 w2, w' = w1 ++ w2 ∧ w1.map Prod.fst = wc.map Prod.fst ∧ Runs X d M mc ms Q pc2 ls (v.toList ++ rest) (k + mc2) (j + ms2) (Xput w is w1 ++ w2)) : Runs X d M mc ms Q pc ls st k j w := by
  subst hp; subst hst
  intro p e s m args below meth c A H locs la C P L
  have hsz := L.1
  have fixed : CallFix p m c M.2.1 M.2.2.1 s args (Xws M) M.1.cls := ⟨C.1, C.2.1, C.2.2.1, C.own, C.2.2.2.2.1⟩
  exact X_call C P L is hC hnd (va_runV (As := As) (rest := rest) fixed (hM H.size) (cwV np C.2.2.2.2.1 (Xgood (pre := [.methodLink M.1.cls ix M2.1, .instanceMethod M2.1, .selects M2.1.cls M2.1 M2.1, .initialized M2.1.cls]) hlk.1 (fun q hq => by rcases List.mem_cons.mp hq with rfl | hq; exact hln; rcases List.mem_cons.mp hq with rfl | hq; exact hlk.2.1; rcases List.mem_cons.mp hq with rfl | hq; exact hlk.2.2; rcases List.mem_cons.mp hq with rfl | hq; exact hlk.1.1; exact absurd hq List.not_mem_nil)) rfl rfl rfl ⟨rfl, hlk.1.2.2.1⟩ (Xroom hd2 hlk.1.2.2.2)) ⟨Xblind, by obtain ⟨cell, g1, g2, g3⟩ := va_recv (C.K) (P.1.sub is (Xfm hC)) hci hrc; exact ⟨cell, g1, g2, g3⟩, Xgive C P is hC hnd (.ref b :: As)⟩ rfl hnp (by show la.size = _; exact hsz) rfl (lv_room hcat) hd ⟨hk, hj⟩) kk
theorem r_callVn {X : Xn} {d : Nat} {M : XM} {mc ms : Nat} {Q : Option Value → va_W → Prop} {pc : Nat} {ls : List (Option Value)} {rest : List Value} {k j : Nat} {w : va_W} {M2 : XM} {ix np d2 mc2 ms2 : Nat} {Q2 : Option Value → va_W → Prop} {wc : va_W} {As : List Value} {st : List Value} {b : Nat} (hlk : LVt M2 np) (hln : Cond.methodLinkNest M.1.cls ix M2.1 "HandshakeBinds" ∈ NW) (hM : Does X d2 M2 (.ref b :: As) wc mc2 ms2 Q2) (hd2 : d2 + 1 ≤ d) (hnp : As.length = np) (hst : As.reverse ++ .ref b :: rest = st) (hcat : (rest.map fun v => v.category).sum ≤ 8) (hk : k + mc2 ≤ mc) (hj : j + ms2 ≤ ms) (is : List Nat) (hC : is.map (fun i => w[i]?) = wc.map some) (hnd : va_nd is = true) {ci q0 : Nat} {fs : List Value} {T0 : u_T} {N0 : Nat} (hci : CLS[ci]? = some (M2.1.cls, T0, N0)) (hrc : wc[q0]? = some (b, .inr (ci, fs))) (pc2 : Nat) (hp : pc + 3 = pc2) (hd : decode M.2.1 pc = .ok (.invokevirtual ix, 3))
    (kk : ∀ v w', Q2 v w' → ∃ w1 w2, w' = w1 ++ w2 ∧ w1.map Prod.fst = wc.map Prod.fst ∧ Runs X d M mc ms Q pc2 ls (v.toList ++ rest) (k + mc2) (j + ms2) (Xput w is w1 ++ w2)) : Runs X d M mc ms Q pc ls st k j w := by
  subst hp; subst hst
  intro p e s m args below meth c A H locs la C P L
  have hsz := L.1
  have fixed : CallFix p m c M.2.1 M.2.2.1 s args (Xws M) M.1.cls := ⟨C.1, C.2.1, C.2.2.1, C.own, C.2.2.2.2.1⟩
  exact X_call C P L is hC hnd (va_runVN (As := As) (rest := rest) fixed (hM H.size) (⟨va_cnB np C.2.2.2.2.1 (Xgood0 hlk.1) rfl rfl rfl (C.nw hln) (C.use hlk.1.1) hlk.1.2.2.1 (Xroom hd2 hlk.1.2.2.2), C.use hlk.2.1, C.use hlk.2.2⟩) ⟨Xblind, by obtain ⟨cell, g1, g2, g3⟩ := va_recv (C.K) (P.1.sub is (Xfm hC)) hci hrc; exact ⟨cell, g1, g2, g3⟩, Xgive C P is hC hnd (.ref b :: As)⟩ rfl hnp (by show la.size = _; exact hsz) rfl (lv_room hcat) hd ⟨hk, hj⟩) kk
theorem r_callS {X : Xn} {d : Nat} {M : XM} {mc ms : Nat} {Q : Option Value → va_W → Prop} {pc : Nat} {ls : List (Option Value)} {rest : List Value} {k j : Nat} {w : va_W} {M2 : XM} {ix np d2 mc2 ms2 : Nat} {Q2 : Option Value → va_W → Prop} {wc : va_W} {As : List Value} {st : List Value}  (hlk : LSt M2 np) (hln : Cond.methodLink M.1.cls ix M2.1 ∈ TB) (hM : Does X d2 M2 As wc mc2 ms2 Q2) (hd2 : d2 + 1 ≤ d) (hnp : As.length = np) (hst : As.reverse ++ rest = st) (hcat : (rest.map fun v => v.category).sum ≤ 8) (hk : k + mc2 ≤ mc) (hj : j + ms2 ≤ ms) (is : List Nat) (hC : is.map (fun i => w[i]?) = wc.map some) (hnd : va_nd is = true)  (pc2 : Nat) (hp : pc + 3 = pc2) (hd : decode M.2.1 pc = .ok (.invokestatic ix, 3))
    (kk : ∀ v w', Q2 v w' → ∃ w1 w2, w' = w1 ++ w2 ∧ w1.map Prod.fst = wc.map Prod.fst ∧ Runs X d M mc ms Q pc2 ls (v.toList ++ rest) (k + mc2) (j + ms2) (Xput w is w1 ++ w2)) : Runs X d M mc ms Q pc ls st k j w := by
  subst hp; subst hst
  intro p e s m args below meth c A H locs la C P L
  have hsz := L.1
  have fixed : CallFix p m c M.2.1 M.2.2.1 s args (Xws M) M.1.cls := ⟨C.1, C.2.1, C.2.2.1, C.own, C.2.2.2.2.1⟩
  exact X_call C P L is hC hnd (va_runS (As := As) (rest := rest) fixed (hM H.size) (va_cwS np C.2.2.2.2.1 (Xgood (pre := [.methodLink M.1.cls ix M2.1, .static M2.1, .initialized M2.1.cls]) hlk.1 (fun q hq => by rcases List.mem_cons.mp hq with rfl | hq; exact hln; rcases List.mem_cons.mp hq with rfl | hq; exact hlk.2; rcases List.mem_cons.mp hq with rfl | hq; exact hlk.1.1; exact absurd hq List.not_mem_nil)) rfl rfl rfl hlk.1.2.2.1 (Xroom hd2 hlk.1.2.2.2)) ⟨Xblind, Xgive C P is hC hnd As⟩ rfl hnp (by show la.size = _; exact hsz) rfl (lv_room hcat) hd ⟨hk, hj⟩) kk
theorem r_callSn {X : Xn} {d : Nat} {M : XM} {mc ms : Nat} {Q : Option Value → va_W → Prop} {pc : Nat} {ls : List (Option Value)} {rest : List Value} {k j : Nat} {w : va_W} {M2 : XM} {ix np d2 mc2 ms2 : Nat} {Q2 : Option Value → va_W → Prop} {wc : va_W} {As : List Value} {st : List Value}  (hlk : LSt M2 np) (hln : Cond.methodLinkNest M.1.cls ix M2.1 "HandshakeBinds" ∈ NW) (hM : Does X d2 M2 As wc mc2 ms2 Q2) (hd2 : d2 + 1 ≤ d) (hnp : As.length = np) (hst : As.reverse ++ rest = st) (hcat : (rest.map fun v => v.category).sum ≤ 8) (hk : k + mc2 ≤ mc) (hj : j + ms2 ≤ ms) (is : List Nat) (hC : is.map (fun i => w[i]?) = wc.map some) (hnd : va_nd is = true)  (pc2 : Nat) (hp : pc + 3 = pc2) (hd : decode M.2.1 pc = .ok (.invokestatic ix, 3))
    (kk : ∀ v w', Q2 v w' → ∃ w1 w2, w' = w1 ++ w2 ∧ w1.map Prod.fst = wc.map Prod.fst ∧ Runs X d M mc ms Q pc2 ls (v.toList ++ rest) (k + mc2) (j + ms2) (Xput w is w1 ++ w2)) : Runs X d M mc ms Q pc ls st k j w := by
  subst hp; subst hst
  intro p e s m args below meth c A H locs la C P L
  have hsz := L.1
  have fixed : CallFix p m c M.2.1 M.2.2.1 s args (Xws M) M.1.cls := ⟨C.1, C.2.1, C.2.2.1, C.own, C.2.2.2.2.1⟩
  exact X_call C P L is hC hnd (va_runSN (As := As) (rest := rest) fixed (hM H.size) (⟨va_cnB np C.2.2.2.2.1 (Xgood0 hlk.1) rfl rfl rfl (C.nw hln) (C.use hlk.1.1) hlk.1.2.2.1 (Xroom hd2 hlk.1.2.2.2), C.use hlk.2, trivial⟩) ⟨Xblind, Xgive C P is hC hnd As⟩ rfl hnp (by show la.size = _; exact hsz) rfl (lv_room hcat) hd ⟨hk, hj⟩) kk
theorem r_callI {X : Xn} {d : Nat} {M : XM} {mc ms : Nat} {Q : Option Value → va_W → Prop} {pc : Nat} {ls : List (Option Value)} {rest : List Value} {k j : Nat} {w : va_W} {M2 : XM} {ix np d2 mc2 ms2 : Nat} {Q2 : Option Value → va_W → Prop} {wc : va_W} {As : List Value} {st : List Value} {b : Nat} (hlk : LIn M2 np) (hln : Cond.methodLink M.1.cls ix M2.1 ∈ TB) (hM : Does X d2 M2 (.ref b :: As) wc mc2 ms2 Q2) (hd2 : d2 + 1 ≤ d) (hnp : As.length = np) (hst : As.reverse ++ .ref b :: rest = st) (hcat : (rest.map fun v => v.category).sum ≤ 8) (hk : k + mc2 ≤ mc) (hj : j + ms2 ≤ ms) (is : List Nat) (hC : is.map (fun i => w[i]?) = wc.map some) (hnd : va_nd is = true)  (pc2 : Nat) (hp : pc + 3 = pc2) (hd : decode M.2.1 pc = .ok (.invokespecial ix, 3))
    (kk : ∀ v w', Q2 v w' → ∃ w1 w2, w' = w1 ++ w2 ∧ w1.map Prod.fst = wc.map Prod.fst ∧ Runs X d M mc ms Q pc2 ls (v.toList ++ rest) (k + mc2) (j + ms2) (Xput w is w1 ++ w2)) : Runs X d M mc ms Q pc ls st k j w := by
  subst hp; subst hst
  intro p e s m args below meth c A H locs la C P L
  have hsz := L.1
  have fixed : CallFix p m c M.2.1 M.2.2.1 s args (Xws M) M.1.cls := ⟨C.1, C.2.1, C.2.2.1, C.own, C.2.2.2.2.1⟩
  exact X_call C P L is hC hnd (va_runI (As := As) (rest := rest) fixed (hM H.size) (cwI np C.2.2.2.2.1 (Xgood0 hlk.1) (show Xws M2 = Cond.code M2.1 M2.2.1 M2.2.2.1 none :: TB by show Cond.code M2.1 M2.2.1 M2.2.2.1 M2.2.2.2 :: TB = _; rw [hlk.2.2.2]) rfl rfl (C.use hlk.1.1) (C.use hln) (C.use hlk.2.1) hlk.2.2.1 hlk.1.2.2.1 (Xroom hd2 hlk.1.2.2.2)) ⟨Xblind, Xgive C P is hC hnd (.ref b :: As)⟩ rfl hnp (by show la.size = _; exact hsz) rfl (lv_room hcat) hd ⟨hk, hj⟩) kk
theorem r_callIn {X : Xn} {d : Nat} {M : XM} {mc ms : Nat} {Q : Option Value → va_W → Prop} {pc : Nat} {ls : List (Option Value)} {rest : List Value} {k j : Nat} {w : va_W} {M2 : XM} {ix np d2 mc2 ms2 : Nat} {Q2 : Option Value → va_W → Prop} {wc : va_W} {As : List Value} {st : List Value} {b : Nat} (hlk : LIn M2 np) (hln : Cond.methodLinkNest M.1.cls ix M2.1 "HandshakeBinds" ∈ NW) (hM : Does X d2 M2 (.ref b :: As) wc mc2 ms2 Q2) (hd2 : d2 + 1 ≤ d) (hnp : As.length = np) (hst : As.reverse ++ .ref b :: rest = st) (hcat : (rest.map fun v => v.category).sum ≤ 8) (hk : k + mc2 ≤ mc) (hj : j + ms2 ≤ ms) (is : List Nat) (hC : is.map (fun i => w[i]?) = wc.map some) (hnd : va_nd is = true)  (pc2 : Nat) (hp : pc + 3 = pc2) (hd : decode M.2.1 pc = .ok (.invokespecial ix, 3))
    (kk : ∀ v w', Q2 v w' → ∃ w1 w2, w' = w1 ++ w2 ∧ w1.map Prod.fst = wc.map Prod.fst ∧ Runs X d M mc ms Q pc2 ls (v.toList ++ rest) (k + mc2) (j + ms2) (Xput w is w1 ++ w2)) : Runs X d M mc ms Q pc ls st k j w := by
  subst hp; subst hst
  intro p e s m args below meth c A H locs la C P L
  have hsz := L.1
  have fixed : CallFix p m c M.2.1 M.2.2.1 s args (Xws M) M.1.cls := ⟨C.1, C.2.1, C.2.2.1, C.own, C.2.2.2.2.1⟩
  exact X_call C P L is hC hnd (va_runIN (As := As) (rest := rest) fixed (hM H.size) (⟨va_cnB np C.2.2.2.2.1 (Xgood0 hlk.1) (show Xws M2 = Cond.code M2.1 M2.2.1 M2.2.2.1 none :: TB by show Cond.code M2.1 M2.2.1 M2.2.2.1 M2.2.2.2 :: TB = _; rw [hlk.2.2.2]) rfl rfl (C.nw hln) (C.use hlk.1.1) hlk.1.2.2.1 (Xroom hd2 hlk.1.2.2.2), hlk.2.2.1, C.use hlk.2.1⟩) ⟨Xblind, Xgive C P is hC hnd (.ref b :: As)⟩ rfl hnp (by show la.size = _; exact hsz) rfl (lv_room hcat) hd ⟨hk, hj⟩) kk
theorem r_iret {X : Xn} {d : Nat} {M : XM} {mc ms : Nat} {Q : Option Value → va_W → Prop} {pc : Nat} {ls : List (Option Value)} {k j : Nat} {w : va_W} {x : Int32} (hr : M.2.2.2 = some .int) (hk : k ≤ mc) (hj : j ≤ ms) (hd : decode M.2.1 pc = .ok (.ireturn, 1)) (hq : Q (some (.int x)) w) : Runs X d M mc ms Q pc ls [.int x] k j w := fun p e s m args below meth c A H locs la C P L => W.widen hk hj (W.iret C.1 C.2.1 (C.2.2.2.1.trans hr) (fun t ht hW => ⟨⟨_, w, rfl, hq, by rw [ht]; exact P.1, P.2.1⟩, P.2.2.F ht⟩) P.2.2.2.2 hd C.2.2.2.2.2.2.1)
theorem r_zret {X : Xn} {d : Nat} {M : XM} {mc ms : Nat} {Q : Option Value → va_W → Prop} {pc : Nat} {ls : List (Option Value)} {k j : Nat} {w : va_W} {x : Int32} {ty : FieldType} (hr : M.2.2.2 = some ty) (hn : narrow ty (.int x) = .int x) (hk : k ≤ mc) (hj : j ≤ ms) (hd : decode M.2.1 pc = .ok (.ireturn, 1)) (hq : Q (some (.int x)) w) : Runs X d M mc ms Q pc ls [.int x] k j w := fun p e s m args below meth c A H locs la C P L => W.widen hk hj (W.zret C.1 C.2.1 (C.2.2.2.1.trans hr) hn (fun t ht hW => ⟨⟨_, w, rfl, hq, by rw [ht]; exact P.1, P.2.1⟩, P.2.2.F ht⟩) P.2.2.2.2 hd C.2.2.2.2.2.2.1)
theorem r_lret {X : Xn} {d : Nat} {M : XM} {mc ms : Nat} {Q : Option Value → va_W → Prop} {pc : Nat} {ls : List (Option Value)} {k j : Nat} {w : va_W} {x : Int64} (hr : M.2.2.2 = some .long) (hk : k ≤ mc) (hj : j ≤ ms) (hd : decode M.2.1 pc = .ok (.lreturn, 1)) (hq : Q (some (.long x)) w) : Runs X d M mc ms Q pc ls [.long x] k j w := fun p e s m args below meth c A H locs la C P L => W.widen hk hj (W.lret C.1 C.2.1 (C.2.2.2.1.trans hr) (fun t ht hW => ⟨⟨_, w, rfl, hq, by rw [ht]; exact P.1, P.2.1⟩, P.2.2.F ht⟩) P.2.2.2.2 hd C.2.2.2.2.2.2.1)
theorem r_vret {X : Xn} {d : Nat} {M : XM} {mc ms : Nat} {Q : Option Value → va_W → Prop} {pc : Nat} {ls : List (Option Value)} {k j : Nat} {w : va_W} (hr : M.2.2.2 = none) (hk : k ≤ mc) (hj : j ≤ ms) (hd : decode M.2.1 pc = .ok (.return_, 1)) (hq : Q none w) : Runs X d M mc ms Q pc ls [] k j w := fun p e s m args below meth c A H locs la C P L => W.widen hk hj (W.vret C.1 C.2.1 (C.2.2.2.1.trans hr) (fun t ht hW => ⟨⟨_, w, rfl, hq, by rw [ht]; exact P.1, P.2.1⟩, P.2.2.F ht⟩) P.2.2.2.2 hd C.2.2.2.2.2.2.1)
theorem r_aret {X : Xn} {d : Nat} {M : XM} {mc ms : Nat} {Q : Option Value → va_W → Prop} {pc : Nat} {ls : List (Option Value)} {k j : Nat} {w : va_W} {x : Value} {n : String} (hr : M.2.2.2 = some (.object n)) (hx : x = .null ∨ ∃ a, x = .ref a) (hk : k ≤ mc) (hj : j ≤ ms) (hd : decode M.2.1 pc = .ok (.areturn, 1)) (hq : Q (some x) w) : Runs X d M mc ms Q pc ls [x] k j w := fun p e s m args below meth c A H locs la C P L => W.widen hk hj (W.aret C.1 C.2.1 (C.2.2.2.1.trans hr) (Or.inl ⟨n, rfl⟩) hx (fun t ht hW => ⟨⟨_, w, rfl, hq, by rw [ht]; exact P.1, P.2.1⟩, P.2.2.F ht⟩) P.2.2.2.2 hd C.2.2.2.2.2.2.1)
theorem r_mmax {X : Xn} {d : Nat} {M : XM} {mc ms : Nat} {Q : Option Value → va_W → Prop} {pc : Nat} {ls : List (Option Value)} {rest : List Value} {k j : Nat} {w : va_W} {ix : Nat} {x y : Int32} (hln : Cond.methodLink M.1.cls ix Lib.Math.max.name ∈ TB) (hdd : 1 ≤ d) (hk : k ≤ mc) (hj : j ≤ ms) (hcat : (rest.map fun v => v.category).sum ≤ 8) (pc2 : Nat) (hp : pc + 3 = pc2) (hd : decode M.2.1 pc = .ok (.invokestatic ix, 3)) (kk : Runs X d M mc ms Q pc2 ls (.int (if x < y then y else x) :: rest) k j w) : Runs X d M mc ms Q pc ls (.int y :: .int x :: rest) k j w := by
  subst hp
  intro p e s m args below meth c A H locs la C P L
  exact va_mmax C.1 C.2.1 (C.2.2.1.trans L.1.symm) C.own (C.use hln) (C.use (inTB 124 (by decide +kernel) rfl)) (C.use (inTB 66 (by decide +kernel) rfl)) (C.use (inTB 125 (by decide +kernel) rfl)) hdd (by show _ ≤ 40 * d; omega) hk hj hd (kk p e s m args below meth c A H locs la C P L)
theorem r_mmin {X : Xn} {d : Nat} {M : XM} {mc ms : Nat} {Q : Option Value → va_W → Prop} {pc : Nat} {ls : List (Option Value)} {rest : List Value} {k j : Nat} {w : va_W} {ix : Nat} {x y : Int32} (hln : Cond.methodLink M.1.cls ix Lib.Math.min.name ∈ TB) (hdd : 1 ≤ d) (hk : k ≤ mc) (hj : j ≤ ms) (hcat : (rest.map fun v => v.category).sum ≤ 8) (pc2 : Nat) (hp : pc + 3 = pc2) (hd : decode M.2.1 pc = .ok (.invokestatic ix, 3)) (kk : Runs X d M mc ms Q pc2 ls (.int (if y < x then y else x) :: rest) k j w) : Runs X d M mc ms Q pc ls (.int y :: .int x :: rest) k j w := by
  subst hp
  intro p e s m args below meth c A H locs la C P L
  exact va_mmin C.1 C.2.1 (C.2.2.1.trans L.1.symm) C.own (C.use hln) (C.use (inTB 469 (by decide +kernel) rfl)) (C.use (inTB 66 (by decide +kernel) rfl)) (C.use (inTB 470 (by decide +kernel) rfl)) hdd (by show _ ≤ 40 * d; omega) hk hj hd (kk p e s m args below meth c A H locs la C P L)
theorem r_mabs {X : Xn} {d : Nat} {M : XM} {mc ms : Nat} {Q : Option Value → va_W → Prop} {pc : Nat} {ls : List (Option Value)} {rest : List Value} {k j : Nat} {w : va_W} {ix : Nat} {x : Int32} (hln : Cond.methodLink M.1.cls ix Lib.Math.abs.name ∈ TB) (hdd : 1 ≤ d) (hk : k ≤ mc) (hj : j ≤ ms) (hcat : (rest.map fun v => v.category).sum ≤ 8) (pc2 : Nat) (hp : pc + 3 = pc2) (hd : decode M.2.1 pc = .ok (.invokestatic ix, 3)) (kk : Runs X d M mc ms Q pc2 ls (.int (if 0 ≤ x then x else 0 - x) :: rest) k j w) : Runs X d M mc ms Q pc ls (.int x :: rest) k j w := by
  subst hp
  intro p e s m args below meth c A H locs la C P L
  exact va_mabs C.1 C.2.1 (C.2.2.1.trans L.1.symm) C.own (C.use hln) (C.use (inTB 643 (by decide +kernel) rfl)) (C.use (inTB 66 (by decide +kernel) rfl)) (C.use (inTB 644 (by decide +kernel) rfl)) hdd (by show _ ≤ 40 * d; omega) hk hj hd (kk p e s m args below meth c A H locs la C P L)
theorem r_copyi {X : Xn} {d : Nat} {M : XM} {mc ms : Nat} {Q : Option Value → va_W → Prop} {pc : Nat} {ls : List (Option Value)} {rest : List Value} {k j : Nat} {w : va_W} {ix a0 a1 n0 n1 : Nat} {f g : Nat → Int32} {sp dp n : Int32} {w2 : va_W} (hln : Cond.methodLink M.1.cls ix arraycopyName ∈ TB) (hdd : 1 ≤ d) (hcat : (rest.map fun v => v.category).sum ≤ 8) (q0 q1 : Nat) (h0 : w[q0]? = some (a0, .inl (X.2.2.1 0, n0, .inl f))) (h1 : w[q1]? = some (a1, .inl (X.2.2.1 0, n1, .inl g))) (x y z : Nat) (hx : sp = nI x) (hy : dp = nI y) (hz : n = nI z) (l0 : x + z ≤ n0) (l1 : y + z ≤ n1) (hb0 : n0 < 2 ^ 31) (hb1 : n1 < 2 ^ 31) (hw : w.set q1 (a1, .inl (X.2.2.1 0, n1, .inl (va_cpy f g x y z))) = w2) (pc2 : Nat) (hp : pc + 3 = pc2) (hd : decode M.2.1 pc = .ok (.invokestatic ix, 3)) (kk : Runs X d M mc ms Q pc2 ls rest k j w2) : Runs X d M mc ms Q pc ls (.int n :: .int dp :: .ref a1 :: .int sp :: .ref a0 :: rest) k j w := by
  subst hp; subst hx; subst hy; subst hz; subst hw
  intro p e s m args below meth c A H locs la C P L
  have e1 := nI_clamp (n := x) (by omega)
  have e2 := nI_clamp (n := y) (by omega)
  have e3 := nI_clamp (n := z) (by omega)
  refine va_copyi C.1 C.2.1 (C.2.2.1.trans L.1.symm) C.own (C.use hln) (C.use (inTB 718 (by decide +kernel) rfl)) (C.use (inTB 717 (by decide +kernel) rfl)) (C.use (inTB 79 (by decide +kernel) rfl)) C.K P.1 P.2.1 P.2.2 q0 q1 0 0 h0 h1 rfl rfl rfl (nI_pos (by omega)) (nI_pos (by omega)) (nI_pos (by omega)) (by rw [e1, e3]; exact l0) (by rw [e2, e3]; exact l1) (fun _ _ => rfl) hdd (by show _ + (7 + 11) ≤ 40 * d; omega) hd ?_
  rw [e1, e2, e3]
  exact fun H1 locs1 g1 g2 g3 => kk p e s m args below meth c A H1 locs1 la C ⟨g1, g2, g3⟩ L
theorem r_copyl {X : Xn} {d : Nat} {M : XM} {mc ms : Nat} {Q : Option Value → va_W → Prop} {pc : Nat} {ls : List (Option Value)} {rest : List Value} {k j : Nat} {w : va_W} {ix a0 a1 n0 n1 : Nat} {f g : Nat → Int64} {sp dp n : Int32} {w2 : va_W} (hln : Cond.methodLink M.1.cls ix arraycopyName ∈ TB) (hdd : 1 ≤ d) (hcat : (rest.map fun v => v.category).sum ≤ 8) (q0 q1 : Nat) (h0 : w[q0]? = some (a0, .inl (X.2.2.1 1, n0, .inr (.inl f)))) (h1 : w[q1]? = some (a1, .inl (X.2.2.1 1, n1, .inr (.inl g)))) (x y z : Nat) (hx : sp = nI x) (hy : dp = nI y) (hz : n = nI z) (l0 : x + z ≤ n0) (l1 : y + z ≤ n1) (hb0 : n0 < 2 ^ 31) (hb1 : n1 < 2 ^ 31) (hw : w.set q1 (a1, .inl (X.2.2.1 1, n1, .inr (.inl (va_cpy f g x y z)))) = w2) (pc2 : Nat) (hp : pc + 3 = pc2) (hd : decode M.2.1 pc = .ok (.invokestatic ix, 3)) (kk : Runs X d M mc ms Q pc2 ls rest k j w2) : Runs X d M mc ms Q pc ls (.int n :: .int dp :: .ref a1 :: .int sp :: .ref a0 :: rest) k j w := by
  subst hp; subst hx; subst hy; subst hz; subst hw
  intro p e s m args below meth c A H locs la C P L
  have e1 := nI_clamp (n := x) (by omega)
  have e2 := nI_clamp (n := y) (by omega)
  have e3 := nI_clamp (n := z) (by omega)
  refine va_copyl C.1 C.2.1 (C.2.2.1.trans L.1.symm) C.own (C.use hln) (C.use (inTB 718 (by decide +kernel) rfl)) (C.use (inTB 717 (by decide +kernel) rfl)) (C.use (inTB 79 (by decide +kernel) rfl)) C.K P.1 P.2.1 P.2.2 q0 q1 1 1 h0 h1 rfl rfl rfl (nI_pos (by omega)) (nI_pos (by omega)) (nI_pos (by omega)) (by rw [e1, e3]; exact l0) (by rw [e2, e3]; exact l1) (fun _ _ => rfl) hdd (by show _ + (7 + 11) ≤ 40 * d; omega) hd ?_
  rw [e1, e2, e3]
  exact fun H1 locs1 g1 g2 g3 => kk p e s m args below meth c A H1 locs1 la C ⟨g1, g2, g3⟩ L
def NF (own : String) (ix ci N : Nat) (fs : List Value) : Prop := ∃ (C : String) (T : u_T) (ty : Nat → FieldType), CLS[ci]? = some (C, T, N) ∧ (∀ w ∈ u_ws C T N, w ∈ TB) ∧ (∀ q, q < N → parseFieldDescriptor (T q).2.2.1 = some (ty q)) ∧ Cond.classLink own ix C ∈ TB ∧ Cond.instantiable C N ∈ TB ∧ Cond.initialized C ∈ TB ∧ ∀ q, q < N → defaultValue (ty q) = vp_V fs q
theorem r_new {X : Xn} {d : Nat} {M : XM} {mc ms : Nat} {Q : Option Value → va_W → Prop} {pc : Nat} {ls : List (Option Value)} {rest : List Value} {k j : Nat} {w : va_W} {ix ci N : Nat} {fs : List Value} (hf : NF M.1.cls ix ci N fs) (hk : k + 1 ≤ mc) (hj : j + N ≤ ms) (pc2 : Nat) (hp : pc + 3 = pc2) (hd : decode M.2.1 pc = .ok (.new ix, 3)) (kk : ∀ q : Nat, Runs X d M mc ms Q pc2 ls (.ref q :: rest) (k + 1) (j + N) (w ++ [(q, .inr (ci, fs))])) : Runs X d M mc ms Q pc ls rest k j w := by
  subst hp
  obtain ⟨C0, T0, ty, h1, h2, h3, h4, h5, h6, h7⟩ := hf
  exact fun p e s m args below meth c A H locs la C P L => va_new C.1 C.2.1 C.2.2.2.2.1 (C.ins h2) ty h3 C.own (C.use h4) (C.use h5) (C.use h6) C.K P.1 P.2.1 P.2.2 C.new h1 h7 hk hj hd (fun q H1 g1 g2 g3 => kk q p e s m args below meth c A H1 locs la C ⟨g1, g2, g3⟩ L)
theorem r_newaI {X : Xn} {d : Nat} {M : XM} {mc ms : Nat} {Q : Option Value → va_W → Prop} {pc : Nat} {ls : List (Option Value)} {rest : List Value} {k j : Nat} {w : va_W} {n : Int32} (N : Nat) (hn : n = nI N) (hN : N < 10000) (hk : k + 1 ≤ mc) (hj : j + N ≤ ms) (pc2 : Nat) (hp : pc + 2 = pc2) (hd : decode M.2.1 pc = .ok (.newarray .int, 2)) (kk : ∀ q : Nat, Runs X d M mc ms Q pc2 ls (.ref q :: rest) (k + 1) (j + N) (w ++ [(q, .inl (X.2.2.1 0, N, .inl (fun _ => 0)))])) : Runs X d M mc ms Q pc ls (.int n :: rest) k j w := by
  subst hp; subst hn
  intro p e s m args below meth c A H locs la C P L
  refine va_newa C.1 C.2.1 (atype := .int) (C.use (inTB 116 (by decide +kernel) rfl)) (ty := .int) rfl C.K P.1 P.2.1 P.2.2 C.new (N' := N) (a0 := (N, .inl (fun _ => 0))) (fun _ => rfl) (nI_pos (by omega)) (nI_clamp (by omega)) (by show N * 4 ≤ _; omega) hk hj hd (fun q cA H1 g0 g1 g2 g3 => ?_)
  have ha := (g0.2 5 _ rfl).2
  have hb := (C.K.2 0 _ rfl).2
  have hc : cA = X.2.2.1 0 := Option.some.inj ((show s.vm.findClass _ = some cA from ha).symm.trans (show s.vm.findClass _ = some (X.2.2.1 0) from hb))
  subst hc
  exact kk q p e s m args below meth c A H1 locs la C ⟨g1, g2, g3⟩ L
theorem r_newaJ {X : Xn} {d : Nat} {M : XM} {mc ms : Nat} {Q : Option Value → va_W → Prop} {pc : Nat} {ls : List (Option Value)} {rest : List Value} {k j : Nat} {w : va_W} {n : Int32} (N : Nat) (hn : n = nI N) (hN : N < 10000) (hk : k + 1 ≤ mc) (hj : j + N ≤ ms) (pc2 : Nat) (hp : pc + 2 = pc2) (hd : decode M.2.1 pc = .ok (.newarray .long, 2)) (kk : ∀ q : Nat, Runs X d M mc ms Q pc2 ls (.ref q :: rest) (k + 1) (j + N) (w ++ [(q, .inl (X.2.2.1 1, N, .inr (.inl (fun _ => 0))))])) : Runs X d M mc ms Q pc ls (.int n :: rest) k j w := by
  subst hp; subst hn
  intro p e s m args below meth c A H locs la C P L
  refine va_newa C.1 C.2.1 (atype := .long) (C.use (inTB 316 (by decide +kernel) rfl)) (ty := .long) rfl C.K P.1 P.2.1 P.2.2 C.new (N' := N) (a0 := (N, .inr (.inl (fun _ => 0)))) (fun _ => rfl) (nI_pos (by omega)) (nI_clamp (by omega)) (by show N * 8 ≤ _; omega) hk hj hd (fun q cA H1 g0 g1 g2 g3 => ?_)
  have ha := (g0.2 5 _ rfl).2
  have hb := (C.K.2 1 _ rfl).2
  have hc : cA = X.2.2.1 1 := Option.some.inj ((show s.vm.findClass _ = some cA from ha).symm.trans (show s.vm.findClass _ = some (X.2.2.1 1) from hb))
  subst hc
  exact kk q p e s m args below meth c A H1 locs la C ⟨g1, g2, g3⟩ L
theorem r_newaZ {X : Xn} {d : Nat} {M : XM} {mc ms : Nat} {Q : Option Value → va_W → Prop} {pc : Nat} {ls : List (Option Value)} {rest : List Value} {k j : Nat} {w : va_W} {n : Int32} (N : Nat) (hn : n = nI N) (hN : N < 10000) (hk : k + 1 ≤ mc) (hj : j + N ≤ ms) (pc2 : Nat) (hp : pc + 2 = pc2) (hd : decode M.2.1 pc = .ok (.newarray .boolean, 2)) (kk : ∀ q : Nat, Runs X d M mc ms Q pc2 ls (.ref q :: rest) (k + 1) (j + N) (w ++ [(q, .inl (X.2.2.1 2, N, .inl (fun _ => 0)))])) : Runs X d M mc ms Q pc ls (.int n :: rest) k j w := by
  subst hp; subst hn
  intro p e s m args below meth c A H locs la C P L
  refine va_newa C.1 C.2.1 (atype := .boolean) (C.use (inTB 989 (by decide +kernel) rfl)) (ty := .boolean) rfl C.K P.1 P.2.1 P.2.2 C.new (N' := N) (a0 := (N, .inl (fun _ => 0))) (fun _ => rfl) (nI_pos (by omega)) (nI_clamp (by omega)) (by show N * 1 ≤ _; omega) hk hj hd (fun q cA H1 g0 g1 g2 g3 => ?_)
  have ha := (g0.2 5 _ rfl).2
  have hb := (C.K.2 2 _ rfl).2
  have hc : cA = X.2.2.1 2 := Option.some.inj ((show s.vm.findClass _ = some cA from ha).symm.trans (show s.vm.findClass _ = some (X.2.2.1 2) from hb))
  subst hc
  exact kk q p e s m args below meth c A H1 locs la C ⟨g1, g2, g3⟩ L
theorem r_newqE {X : Xn} {d : Nat} {M : XM} {mc ms : Nat} {Q : Option Value → va_W → Prop} {pc : Nat} {ls : List (Option Value)} {rest : List Value} {k j : Nat} {w : va_W} {ix : Nat} {n : Int32} (hln : Cond.classLink M.1.cls ix "HandshakeBinds$Exchange" ∈ TB) (N : Nat) (hn : n = nI N) (hN : N < 10000) (hk : k + 1 ≤ mc) (hj : j + N ≤ ms) (pc2 : Nat) (hp : pc + 3 = pc2) (hd : decode M.2.1 pc = .ok (.anewarray ix, 3)) (kk : ∀ q : Nat, Runs X d M mc ms Q pc2 ls (.ref q :: rest) (k + 1) (j + N) (w ++ [(q, .inl (X.2.2.1 3, N, .inr (.inr (.inr (.inr (fun _ => none))))))])) : Runs X d M mc ms Q pc ls (.int n :: rest) k j w := by
  subst hp; subst hn
  intro p e s m args below meth c A H locs la C P L
  refine va_newq C.1 C.2.1 C.own (C.use hln) C.st.2.2.2.2.2.2.2.2.1 C.K P.1 P.2.1 P.2.2 C.new (N' := N) (nI_pos (by omega)) (nI_clamp (by omega)) (by omega) hk hj hd (fun q cA H1 g0 g1 g2 g3 => ?_)
  obtain ⟨kA, cp, a1, a2, a3, ha⟩ := (show va_RA s cA (.object "HandshakeBinds$Exchange") from (g0.2 5 _ rfl).2)
  obtain ⟨kB, cq, b1, b2, b3, hb⟩ := (show va_RA s (X.2.2.1 3) (.object "HandshakeBinds$Exchange") from (C.K.2 3 _ rfl).2)
  have hc : cA = X.2.2.1 3 := Option.some.inj (ha.symm.trans hb)
  subst hc
  exact kk q p e s m args below meth c A H1 locs la C ⟨g1, g2, g3⟩ L
theorem r_aastE {X : Xn} {d : Nat} {M : XM} {mc ms : Nat} {Q : Option Value → va_W → Prop} {pc : Nat} {ls : List (Option Value)} {rest : List Value} {k j : Nat} {w : va_W} {a n y : Nat} {i : Int32} {f : Nat → Option Nat} {vs : List Value} {ci : Nat} {T0 : u_T} {N0 : Nat} {w2 : va_W} (q0 qk : Nat) (he : w[q0]? = some (a, .inl (X.2.2.1 3, n, .inr (.inr (.inr (.inr f)))))) (hv : w[qk]? = some (y, .inr (ci, vs))) (hci : CLS[ci]? = some ("HandshakeBinds$Exchange", T0, N0)) (x : Nat) (hi : i = nI x) (hx : x < n) (hn : n < 2 ^ 31) (hw : w.set q0 (a, .inl (X.2.2.1 3, n, .inr (.inr (.inr (.inr (va_up f x (some y))))))) = w2) (pc2 : Nat) (hp : pc + 1 = pc2) (hd : decode M.2.1 pc = .ok (.aastore, 1)) (kk : Runs X d M mc ms Q pc2 ls rest k j w2) : Runs X d M mc ms Q pc ls (.ref y :: .int i :: .ref a :: rest) k j w := by
  subst hp; subst hi; subst hw
  intro p e s m args below meth c A H locs la C P L
  refine va_astq C.1 C.2.1 C.K P.1 P.2.1 P.2.2 q0 3 qk ci he rfl hv hci (vp_in_nI hx hn) hd ?_
  rw [nI_clamp (by omega)]
  exact fun H1 locs1 g1 g2 g3 => kk p e s m args below meth c A H1 locs1 la C ⟨g1, g2, g3⟩ L
theorem r_newqT {X : Xn} {d : Nat} {M : XM} {mc ms : Nat} {Q : Option Value → va_W → Prop} {pc : Nat} {ls : List (Option Value)} {rest : List Value} {k j : Nat} {w : va_W} {ix : Nat} {n : Int32} (hln : Cond.classLink M.1.cls ix "HandshakeBinds$Tape" ∈ TB) (N : Nat) (hn : n = nI N) (hN : N < 10000) (hk : k + 1 ≤ mc) (hj : j + N ≤ ms) (pc2 : Nat) (hp : pc + 3 = pc2) (hd : decode M.2.1 pc = .ok (.anewarray ix, 3)) (kk : ∀ q : Nat, Runs X d M mc ms Q pc2 ls (.ref q :: rest) (k + 1) (j + N) (w ++ [(q, .inl (X.2.2.1 4, N, .inr (.inr (.inr (.inr (fun _ => none))))))])) : Runs X d M mc ms Q pc ls (.int n :: rest) k j w := by
  subst hp; subst hn
  intro p e s m args below meth c A H locs la C P L
  refine va_newq C.1 C.2.1 C.own (C.use hln) C.st.2.2.2.2.2.2.2.2.2.1 C.K P.1 P.2.1 P.2.2 C.new (N' := N) (nI_pos (by omega)) (nI_clamp (by omega)) (by omega) hk hj hd (fun q cA H1 g0 g1 g2 g3 => ?_)
  obtain ⟨kA, cp, a1, a2, a3, ha⟩ := (show va_RA s cA (.object "HandshakeBinds$Tape") from (g0.2 5 _ rfl).2)
  obtain ⟨kB, cq, b1, b2, b3, hb⟩ := (show va_RA s (X.2.2.1 4) (.object "HandshakeBinds$Tape") from (C.K.2 4 _ rfl).2)
  have hc : cA = X.2.2.1 4 := Option.some.inj (ha.symm.trans hb)
  subst hc
  exact kk q p e s m args below meth c A H1 locs la C ⟨g1, g2, g3⟩ L
theorem r_aastT {X : Xn} {d : Nat} {M : XM} {mc ms : Nat} {Q : Option Value → va_W → Prop} {pc : Nat} {ls : List (Option Value)} {rest : List Value} {k j : Nat} {w : va_W} {a n y : Nat} {i : Int32} {f : Nat → Option Nat} {vs : List Value} {ci : Nat} {T0 : u_T} {N0 : Nat} {w2 : va_W} (q0 qk : Nat) (he : w[q0]? = some (a, .inl (X.2.2.1 4, n, .inr (.inr (.inr (.inr f)))))) (hv : w[qk]? = some (y, .inr (ci, vs))) (hci : CLS[ci]? = some ("HandshakeBinds$Tape", T0, N0)) (x : Nat) (hi : i = nI x) (hx : x < n) (hn : n < 2 ^ 31) (hw : w.set q0 (a, .inl (X.2.2.1 4, n, .inr (.inr (.inr (.inr (va_up f x (some y))))))) = w2) (pc2 : Nat) (hp : pc + 1 = pc2) (hd : decode M.2.1 pc = .ok (.aastore, 1)) (kk : Runs X d M mc ms Q pc2 ls rest k j w2) : Runs X d M mc ms Q pc ls (.ref y :: .int i :: .ref a :: rest) k j w := by
  subst hp; subst hi; subst hw
  intro p e s m args below meth c A H locs la C P L
  refine va_astq C.1 C.2.1 C.K P.1 P.2.1 P.2.2 q0 4 qk ci he rfl hv hci (vp_in_nI hx hn) hd ?_
  rw [nI_clamp (by omega)]
  exact fun H1 locs1 g1 g2 g3 => kk p e s m args below meth c A H1 locs1 la C ⟨g1, g2, g3⟩ L
theorem r_objInit {X : Xn} {d : Nat} {M : XM} {mc ms : Nat} {Q : Option Value → va_W → Prop} {pc : Nat} {ls : List (Option Value)} {rest : List Value} {k j : Nat} {w : va_W} {ix a : Nat} (hln : Cond.methodLink M.1.cls ix objectInit ∈ TB) (hdd : 1 ≤ d) (hcat : (rest.map fun v => v.category).sum ≤ 8) (pc2 : Nat) (hp : pc + 3 = pc2) (hd : decode M.2.1 pc = .ok (.invokespecial ix, 3)) (kk : Runs X d M mc ms Q pc2 ls rest k j w) : Runs X d M mc ms Q pc ls (.ref a :: rest) k j w := by
  subst hp
  intro p e s m args below meth c A H locs la C P L
  refine W.objInit C.1 C.2.1 C.own (C.use hln) (C.use (inTB 86 (by decide +kernel) rfl)) (C.use (inTB 87 (by decide +kernel) rfl)) rfl (by rw [C.2.2.1]; exact L.1) rfl hd hdd ?_ (kk p e s m args below meth c A H locs la C P L)
  show 2 * 0 + _ + 12 ≤ 40 * d
  omega
theorem r_getsN {X : Xn} {d : Nat} {M : XM} {mc ms : Nat} {Q : Option Value → va_W → Prop} {pc : Nat} {ls : List (Option Value)} {rest : List Value} {k j : Nat} {w : va_W} {ix : Nat} {n dd : String} {v : Value} (hZ : ∀ A U H, Xst X A U H → va_Z "HandshakeBinds" n dd v A U H) (hln : Cond.fieldLinkNest M.1.cls ix "HandshakeBinds" n dd "HandshakeBinds" ∈ NW) (pc2 : Nat) (hp : pc + 3 = pc2) (hd : decode M.2.1 pc = .ok (.getstatic ix, 3)) (kk : Runs X d M mc ms Q pc2 ls (v :: rest) k j w) : Runs X d M mc ms Q pc ls rest k j w := by
  subst hp
  exact fun p e s m args below meth c A H locs la C P L => va_getsN C.1 C.2.1 (hZ A s s.heap C.st) P.2.2 C.own (va_Nw.use rfl (C.nw hln)) (fun _ h9 => h9) hd (kk p e s m args below meth c A H locs la C P L)
theorem r_gets {X : Xn} {d : Nat} {M : XM} {mc ms : Nat} {Q : Option Value → va_W → Prop} {pc : Nat} {ls : List (Option Value)} {rest : List Value} {k j : Nat} {w : va_W} {ix : Nat} {cn n dd : String} {v : Value} (hZ : ∀ A U H, Xst X A U H → va_Z cn n dd v A U H) (hln : Cond.fieldLink M.1.cls ix cn n dd ∈ TB) (pc2 : Nat) (hp : pc + 3 = pc2) (hd : decode M.2.1 pc = .ok (.getstatic ix, 3)) (kk : Runs X d M mc ms Q pc2 ls (v :: rest) k j w) : Runs X d M mc ms Q pc ls rest k j w := by
  subst hp
  exact fun p e s m args below meth c A H locs la C P L => va_gets C.1 C.2.1 (hZ A s s.heap C.st) P.2.2 C.own (C.use hln) (fun _ h9 => h9) hd (kk p e s m args below meth c A H locs la C P L)
theorem r_tald {X : Xn} {d : Nat} {M : XM} {mc ms : Nat} {Q : Option Value → va_W → Prop} {pc : Nat} {ls : List (Option Value)} {rest : List Value} {k j : Nat} {w : va_W} {t N : Nat} {g : Nat → Int32} {i : Int32} (hT : ∀ A U H, Xst X A U H → va_T .int t N (fun q => .int (g q)) A U H) (x : Nat) (hi : i = nI x) (hx : x < N) (hn : N < 2 ^ 31) (pc2 : Nat) (hp : pc + 1 = pc2) (hd : decode M.2.1 pc = .ok (.iaload, 1)) (kk : Runs X d M mc ms Q pc2 ls (.int (g x) :: rest) k j w) : Runs X d M mc ms Q pc ls (.int i :: .ref t :: rest) k j w := by
  subst hp; subst hi
  exact fun p e s m args below meth c A H locs la C P L => va_ti C.1 C.2.1 (hT A s s.heap C.st) P.2.2 (vp_in_nI hx hn) (v := .int (g x)) (by rw [nI_clamp (by omega)]) hd (kk p e s m args below meth c A H locs la C P L)
theorem r_talen {X : Xn} {d : Nat} {M : XM} {mc ms : Nat} {Q : Option Value → va_W → Prop} {pc : Nat} {ls : List (Option Value)} {rest : List Value} {k j : Nat} {w : va_W} {t N : Nat} {g : Nat → Int32} (hT : ∀ A U H, Xst X A U H → va_T .int t N (fun q => .int (g q)) A U H) (pc2 : Nat) (hp : pc + 1 = pc2) (hd : decode M.2.1 pc = .ok (.arraylength, 1)) (kk : Runs X d M mc ms Q pc2 ls (.int (nI N) :: rest) k j w) : Runs X d M mc ms Q pc ls (.ref t :: rest) k j w := by
  subst hp
  exact fun p e s m args below meth c A H locs la C P L => va_tlen C.1 C.2.1 (hT A s s.heap C.st) P.2.2 (v := nI N) rfl hd (kk p e s m args below meth c A H locs la C P L)
theorem r_ldcS {X : Xn} {d : Nat} {M : XM} {mc ms : Nat} {Q : Option Value → va_W → Prop} {pc : Nat} {ls : List (Option Value)} {rest : List Value} {k j : Nat} {w : va_W} (i : Nat) (h8 : i < 8) (hc : M.1.cls = (litN i).1) {ix : Nat} (hix : ix = (litN i).2.1) (pc2 : Nat) (hp : pc + 2 = pc2) (hd : decode M.2.1 pc = .ok (.ldc ix, 2)) (kk : Runs X d M mc ms Q pc2 ls (.ref (X.2.2.2 (10 + i)) :: rest) k j w) : Runs X d M mc ms Q pc ls rest k j w := by
  subst hp; subst hix
  exact fun p e s m args below meth c A H locs la C P L => va_ldcS C.1 C.2.1 (hc ▸ C.own) (C.st.2.2.2.2.2.2.2.1 i h8) hd (kk p e s m args below meth c A H locs la C P L)
