/-! ROWS over text constants, by program -/
theorem Xs {X : Xn} {A : Nat → Prop} {U : State} {H : Heap} (h : Xst X A U H) (i : Nat) (hi : i < 8) : va_O "java/lang/String" (X.2.2.2 (10 + i)) A U H ∧ va_OF "java/lang/String" "coder" "B" (.int 0) (X.2.2.2 (10 + i)) A U H ∧ va_OF "java/lang/String" "value" "[B" (.ref (X.2.2.2 (30 + i))) (X.2.2.2 (10 + i)) A U H ∧ va_T .byte (X.2.2.2 (30 + i)) (litL.getD i 0) (fun j => .int ((litB.getD i []).getD j 0)) A U H := h.2.2.2.2.2.2.1.1 i hi
theorem r_getfS {X : Xn} {d : Nat} {M : XM} {mc ms : Nat} {Q : Option Value → va_W → Prop} {pc : Nat} {ls : List (Option Value)} {rest : List Value} {k j : Nat} {w : va_W} {ix a : Nat} {nm dd : String} {v : Value} (hO : ∀ (A : Nat → Prop) (U : State) (H : Heap), Xst X A U H → va_OF "java/lang/String" nm dd v a A U H) (hln : Cond.fieldLink M.1.cls ix "java/lang/String" nm dd ∈ TB) (pc2 : Nat) (hp : pc + 3 = pc2) (hd : decode M.2.1 pc = .ok (.getfield ix, 3)) (kk : Runs X d M mc ms Q pc2 ls (v :: rest) k j w) : Runs X d M mc ms Q pc ls (.ref a :: rest) k j w := by
  subst hp
  exact fun p e s m args below meth c A H locs la C P L => vk_getf C.1 C.2.1 (hO A s s.heap C.st) P.2.2 C.own (C.use hln) (fun _ h9 => h9) hd (kk p e s m args below meth c A H locs la C P L)
theorem r_baldS {X : Xn} {d : Nat} {M : XM} {mc ms : Nat} {Q : Option Value → va_W → Prop} {pc : Nat} {ls : List (Option Value)} {rest : List Value} {k j : Nat} {w : va_W} {i : Int32} (q : Nat) (hq : q < 8) (x : Nat) (hi : i = nI x) (hx : x < litL.getD q 0) (hn : litL.getD q 0 < 2 ^ 31) (pc2 : Nat) (hp : pc + 1 = pc2) (hd : decode M.2.1 pc = .ok (.baload, 1)) (kk : Runs X d M mc ms Q pc2 ls (.int ((litB.getD q []).getD x 0) :: rest) k j w) : Runs X d M mc ms Q pc ls (.int i :: .ref (X.2.2.2 (30 + q)) :: rest) k j w := by
  subst hp; subst hi
  exact fun p e s m args below meth c A H locs la C P L => va_tb C.1 C.2.1 (Xs C.st q hq).2.2.2 P.2.2 (vp_in_nI hx hn) (v := .int ((litB.getD q []).getD x 0)) (by rw [nI_clamp (by omega)]) hd (kk p e s m args below meth c A H locs la C P L)
theorem r_alenS {X : Xn} {d : Nat} {M : XM} {mc ms : Nat} {Q : Option Value → va_W → Prop} {pc : Nat} {ls : List (Option Value)} {rest : List Value} {k j : Nat} {w : va_W} (q : Nat) (hq : q < 8) (pc2 : Nat) (hp : pc + 1 = pc2) (hd : decode M.2.1 pc = .ok (.arraylength, 1)) (kk : Runs X d M mc ms Q pc2 ls (.int (nI (litL.getD q 0)) :: rest) k j w) : Runs X d M mc ms Q pc ls (.ref (X.2.2.2 (30 + q)) :: rest) k j w := by
  subst hp
  exact fun p e s m args below meth c A H locs la C P L => va_tlen C.1 C.2.1 (Xs C.st q hq).2.2.2 P.2.2 (v := nI (litL.getD q 0)) rfl hd (kk p e s m args below meth c A H locs la C P L)
theorem r_callVs1 {X : Xn} {d : Nat} {M : XM} {mc ms : Nat} {Q : Option Value → va_W → Prop} {pc : Nat} {ls : List (Option Value)} {rest : List Value} {k j : Nat} {w : va_W} {M2 : XM} {ix np d2 : Nat} {As : List Value} {st st2 : List Value} {v0 : Option Value} (q : Nat) (hq : q < 8) (hcl : M2.1.cls = "java/lang/String") (hlk : LVt M2 np) (hln : Cond.methodLink M.1.cls ix M2.1 ∈ TB) (hM : Does X d2 M2 (.ref (X.2.2.2 (10 + q)) :: As) [] 0 0 (fun v w' => v = v0 ∧ w' = [])) (hd2 : d2 + 1 ≤ d) (hnp : As.length = np) (hst : As.reverse ++ .ref (X.2.2.2 (10 + q)) :: rest = st) (hcat : (rest.map fun v => v.category).sum ≤ 8) (hk : k ≤ mc) (hj : j ≤ ms) (hs2 : v0.toList ++ rest = st2) (pc2 : Nat) (hp : pc + 3 = pc2) (hd : decode M.2.1 pc = .ok (.invokevirtual ix, 3)) (kk : Runs X d M mc ms Q pc2 ls st2 k j w) : Runs X d M mc ms Q pc ls st k j w := by
  subst hp; subst hst; subst hs2
  intro p e s m args below meth c A H locs la C P L
  have hsz := L.1
  have fixed : CallFix p m c M.2.1 M.2.2.1 s args (Xws M) M.1.cls := ⟨C.1, C.2.1, C.2.2.1, C.own, C.2.2.2.2.1⟩
  have hC : ([] : List Nat).map (fun i => w[i]?) = ([] : va_W).map some := rfl
  exact X_call C P L (wc := []) [] hC rfl (va_runV (As := As) (rest := rest) fixed (hM H.size) (cwV np C.2.2.2.2.1 (Xgood (pre := [.methodLink M.1.cls ix M2.1, .instanceMethod M2.1, .selects M2.1.cls M2.1 M2.1, .initialized M2.1.cls]) hlk.1 (fun q hq => by rcases List.mem_cons.mp hq with rfl | hq; exact hln; rcases List.mem_cons.mp hq with rfl | hq; exact hlk.2.1; rcases List.mem_cons.mp hq with rfl | hq; exact hlk.2.2; rcases List.mem_cons.mp hq with rfl | hq; exact hlk.1.1; exact absurd hq List.not_mem_nil)) rfl rfl rfl ⟨rfl, hlk.1.2.2.1⟩ (Xroom hd2 hlk.1.2.2.2)) ⟨Xblind, by rw [hcl]; exact vk_recv (adK := fun i => X.2.2.2 (10 + i)) (adV := fun i => X.2.2.2 (30 + i)) (i := q) C.st.2.2.2.2.2.2.1 hq P.2.2, Xgive C P [] hC rfl (.ref (X.2.2.2 (10 + q)) :: As)⟩ rfl hnp (by show la.size = _; exact hsz) rfl (lv_room hcat) hd ⟨hk, hj⟩)
    (fun v w' hq => ⟨[], [], hq.2, rfl, by rw [hq.1, List.append_nil]; exact kk⟩)
theorem r_getsQ {X : Xn} {d : Nat} {M : XM} {mc ms : Nat} {Q : Option Value → va_W → Prop} {pc : Nat} {ls : List (Option Value)} {rest : List Value} {k j : Nat} {w : va_W} {ix : Nat} {cn n dd : String} (hZ : ∀ (A : Nat → Prop) (U : State) (H : Heap), Xst X A U H → va_Zq cn n dd A U H) (hln : Cond.fieldLink M.1.cls ix cn n dd ∈ TB) (pc2 : Nat) (hp : pc + 3 = pc2) (hd : decode M.2.1 pc = .ok (.getstatic ix, 3)) (kk : ∀ v : Value, v = .null ∨ (∃ a, v = .ref a) → Runs X d M mc ms Q pc2 ls (v :: rest) k j w) : Runs X d M mc ms Q pc ls rest k j w := by
  subst hp
  intro p e s m args below meth c A H locs la C P L
  rcases hZ A s s.heap C.st with hz | ⟨t, hz⟩
  · exact va_gets C.1 C.2.1 hz P.2.2 C.own (C.use hln) (fun _ h9 => h9) hd (kk _ (Or.inl rfl) p e s m args below meth c A H locs la C P L)
  · exact va_gets C.1 C.2.1 hz P.2.2 C.own (C.use hln) (fun _ h9 => h9) hd (kk _ (Or.inr ⟨t, rfl⟩) p e s m args below meth c A H locs la C P L)
/-- the char at k of a text constant; where a char stands in it -/
def chS (i k : Nat) : Int32 := (((litB.getD i []).getD k 0 &&& nI 255).toUInt32 % 65536).toInt32
def ixF (c : Nat) : List Int32 → Nat → Int32
  | [], _ => -1
  | b :: l, k => if b = nI c then nI k else ixF c l (k + 1)
def ixS (i c : Nat) : Int32 := ixF c (litB.getD i []) 0
theorem lit_len : ∀ i : Fin 8, litL.getD i.val 0 = (litB.getD i.val []).length ∧ litL.getD i.val 0 < 10 := by decide +kernel
theorem chS_nar : ∀ i : Fin 8, ∀ k : Fin 6, narrow .char (.int (chS i.val k.val)) = .int (chS i.val k.val) := by decide +kernel
theorem ixF_s {c : Nat} {l : List Int32} {k : Nat} (h : k < l.length) : ixF c (l.drop k) k = if l.getD k 0 = nI c then nI k else ixF c (l.drop (k + 1)) (k + 1) := by
  rw [List.drop_eq_getElem_cons h, ixF]
  rw [show l.getD k 0 = l[k] from by simp [h]]
theorem i8 : ∀ c : Fin 128, (nI c.val).toInt8.toInt32 = nI c.val := by decide +kernel
