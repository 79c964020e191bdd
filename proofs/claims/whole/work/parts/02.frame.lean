/-! THE FRAME: a method's run over a world, with all that never changes in one place. -/
abbrev Xn : Type := Launch × va_G × (Nat → ClassId) × (Nat → Nat)
abbrev Xtys (X : Xn) : List (ClassId × FieldType) := [(X.2.2.1 0, .int), (X.2.2.1 1, .long), (X.2.2.1 2, .boolean), (X.2.2.1 3, .object "HandshakeBinds$Exchange"), (X.2.2.1 4, .object "HandshakeBinds$Tape")]
def aboveV : List Int32 := [-1, 0, 0, 0, 1, 2, 3]
def bodyV : List Int32 := [10, 11, 12, 0, 20, 0, 30, 0, 0, 0, 0, 40, 50, 51, 0, 0, 0, 60, 71, 70, 0]
def litN : Nat → String × Nat × String := fun i => match i with
  | 0 => ("HandshakeBinds$Scribe", 62, "firm")
  | 1 => ("HandshakeBinds$Scribe", 64, "limp")
  | 2 => ("HandshakeBinds$Scribe", 66, "bind")
  | 3 => ("HandshakeBindsModel", 206, "firm ")
  | 4 => ("HandshakeBindsModel", 212, "limp ")
  | 5 => ("HandshakeBindsModel", 214, "bind ")
  | 6 => ("HandshakeBindsModel", 175, "pqkvsd")
  | _ => ("HandshakeBindsModel", 180, "<=>")
def litB : List (List Int32) := [[102, 105, 114, 109], [108, 105, 109, 112], [98, 105, 110, 100], [102, 105, 114, 109, 32], [108, 105, 109, 112, 32], [98, 105, 110, 100, 32], [112, 113, 107, 118, 115, 100], [60, 61, 62]]
def litL : List Nat := [4, 4, 4, 5, 5, 5, 6, 3]
def Xst (X : Xn) (A : Nat → Prop) (U : State) (H : Heap) : Prop :=
  va_Z "HandshakeBinds" "ABOVE" "[I" (.ref (X.2.2.2 0)) A U H ∧ va_T .int (X.2.2.2 0) 7 (fun j => .int (aboveV.getD j 0)) A U H ∧
  va_Z "HandshakeBinds" "BODIES" "[I" (.ref (X.2.2.2 1)) A U H ∧ va_T .int (X.2.2.2 1) 21 (fun j => .int (bodyV.getD j 0)) A U H ∧
  va_Z "java/lang/String" "COMPACT_STRINGS" "Z" (.int 1) A U H ∧ va_Zq "jdk/internal/util/Preconditions" "SIOOBE_FORMATTER" "Ljava/util/function/BiFunction;" A U H ∧
  vk_S 8 litL litB (fun i => X.2.2.2 (10 + i)) (fun i => X.2.2.2 (30 + i)) A U H ∧
  (∀ i : Nat, i < 8 → vk_R (litN i).1 (litN i).2.1 (litN i).2.2 (X.2.2.2 (10 + i)) U) ∧
  va_AO "HandshakeBinds$Exchange" U ∧ va_AO "HandshakeBinds$Tape" U ∧ ∀ w ∈ NW, va_Nw w U
theorem NW_warm {s U : State} (hW : s.WarmedH U.vm) (h : ∀ w ∈ NW, va_Nw w s) : ∀ w ∈ NW, va_Nw w U := by
  intro w hw
  have h1 := h w hw
  have h2 : isNest w = true := (List.mem_filter.mp hw).2
  cases w <;> first | exact va_Nw.warmF hW h1 | exact va_Nw.warmM hW h1 | exact absurd h2 (by simp [isNest])
theorem NW_same {s U : State} (hv : s.vm = U.vm) (h : ∀ w ∈ NW, va_Nw w s) : ∀ w ∈ NW, va_Nw w U := by
  intro w hw
  have h1 := h w hw
  have h2 : isNest w = true := (List.mem_filter.mp hw).2
  cases w <;> first | exact va_Nw.same rfl hv h1 | exact absurd h2 (by simp [isNest])
theorem Xst.kept {X : Xn} {A : Nat → Prop} {U : State} {H H1 : Heap} (h : Xst X A U H) (hq : ∀ a : Nat, a < H.size → ¬ A a → H1[a]? = H[a]?) : Xst X A U H1 := by
  obtain ⟨h1, h2, h3, h4, h5, h6, h7, h8, h9, h10, h11⟩ := h
  exact ⟨h1.kept hq, h2.kept hq, h3.kept hq, h4.kept hq, h5.kept hq, h6.kept hq, h7.kept hq, h8, h9, h10, h11⟩
theorem Xst.narrow {X : Xn} {A B : Nat → Prop} {U : State} {H : Heap} (h : Xst X A U H) (hq : ∀ q, B q → A q) : Xst X B U H := by
  obtain ⟨h1, h2, h3, h4, h5, h6, h7, h8, h9, h10, h11⟩ := h
  exact ⟨h1.narrow hq, h2.narrow hq, h3.narrow hq, h4.narrow hq, h5.narrow hq, h6.narrow hq, h7.narrow hq, h8, h9, h10, h11⟩
theorem Xst.warm {X : Xn} {A : Nat → Prop} {s U : State} {H : Heap} (hW : s.WarmedH U.vm) (h : Xst X A s H) : Xst X A U H := by
  obtain ⟨h1, h2, h3, h4, h5, h6, h7, h8, h9, h10, h11⟩ := h
  have a := hW.alike
  exact ⟨h1.moved a, h2.moved a, h3.moved a, h4.moved a, h5.moved a, h6.moved a, h7.moved a, fun i hi => (h8 i hi).warm hW, h9.moved a, h10.moved a, NW_warm hW h11⟩
theorem Xst.same {X : Xn} {A : Nat → Prop} {s U : State} {H : Heap} (hv : s.vm = U.vm) (h : Xst X A s H) : Xst X A U H := by
  obtain ⟨h1, h2, h3, h4, h5, h6, h7, h8, h9, h10, h11⟩ := h
  have a : s.vm.Alike U.vm := by rw [hv]; exact Vm.Alike.refl U.vm
  exact ⟨h1.moved a, h2.moved a, h3.moved a, h4.moved a, h5.moved a, h6.moved a, h7.moved a, fun i hi => (h8 i hi).same hv.symm, h9.moved a, h10.moved a, NW_same hv h11⟩
/-- a method: its name, bytes, locals, result -/
abbrev XM : Type := MethodName × ByteArray × Nat × Option FieldType
abbrev Xws (M : XM) : List Cond := .code M.1 M.2.1 M.2.2.1 M.2.2.2 :: TB
abbrev Xrm (d mc ms : Nat) : Room := { frames := d, cells := mc, slots := ms, locals := 40 * d }
def Xpre (X : Xn) (w : va_W) (U : State) : Prop := va_P X.2.1 CLS w U.heap ∧ va_K X.2.1 CLS (Xtys X) U ∧ va_D (fun _ => True) w ∧ Xst X (va_A w U.heap.size) U U.heap
def Xpost (X : Xn) (A : Nat → Prop) (Q : Option Value → va_W → Prop) : Array Value → State → Outcome → State → Prop := fun _ st oc t => (∃ (v : Option Value) (w : va_W), oc = .returned v ∧ Q v w ∧ va_P X.2.1 CLS w t.heap ∧ va_D A w) ∧ va_F A st t
/-- THE CONTRACT: from any state that holds the world w, the method returns v with a world w' so that Q v w' -/
def Does (X : Xn) (d : Nat) (M : XM) (av : List Value) (w : va_W) (mc ms : Nat) (Q : Option Value → va_W → Prop) : Prop :=
  ∀ sz : Nat, Met X.1 M.1 (Xws M) (Xrm d mc ms) (va_Pc av (fun U => U.heap.size = sz ∧ Xpre X w U)) (Xpost X (va_A w sz) Q) mc ms (va_A w sz)
/-- locals by place -/
def Xhas (la : Array Slot) (n : Nat) (ls : List (Option Value)) : Prop := la.size = n ∧ lv_wf la ∧ ∀ (i : Nat) (v : Value), ls[i]? = some (some v) → la[i]? = some (.val v)
def Cx (X : Xn) (M : XM) (p : Program) (s : State) (m : MethodId) (args : Array Value) (meth : Method) (c : Code) (A : Nat → Prop) : Prop :=
  p.tables.exec = Jvm.exec ∧ c.code = M.2.1 ∧ c.maxLocals = M.2.2.1 ∧ meth.sig.returnType = M.2.2.2 ∧ (∀ q ∈ Xws M, q.before args s = true) ∧ s.vm.findClass M.1.cls = some m.cls ∧ meth.locks = false ∧ meth.name = M.1.name ∧ va_K X.2.1 CLS (Xtys X) s ∧ Xst X A s s.heap ∧ ∀ q, s.heap.size ≤ q → A q
def Ch (X : Xn) (s : State) (A : Nat → Prop) (H : Heap) (locs : List Loc) (w : va_W) : Prop := va_P X.2.1 CLS w H ∧ va_D A w ∧ va_S A s.heap H locs
/-- from here (place pc, locals ls, stack st, k cells of j slots made) the method comes to its end with Q -/
def Runs (X : Xn) (d : Nat) (M : XM) (mc ms : Nat) (Q : Option Value → va_W → Prop) (pc : Nat) (ls : List (Option Value)) (st : List Value) (k j : Nat) (w : va_W) : Prop :=
  ∀ (p : Program) (e : Env) (s : State) (m : MethodId) (args : Array Value) (below : List Frame) (meth : Method) (c : Code) (A : Nat → Prop) (H : Heap) (locs : List Loc) (la : Array Slot),
    Cx X M p s m args meth c A → Ch X s A H locs w → Xhas la M.2.2.1 ls → W p X.1 e (Xrm d mc ms) s m args below meth c H locs k j (MQ below (Xpost X A Q) args s mc ms A) (F0 m pc la st)
/-- what the rows below take at their end -/
theorem Does.of {X : Xn} {d : Nat} {M : XM} {av : List Value} {w : va_W} {mc ms : Nat} {Q : Option Value → va_W → Prop} (hpl : plainName M.1.cls = true) (hn : (lg_sl av).length ≤ M.2.2.1) (ls : List (Option Value)) (hls : ∀ (i : Nat) (v : Value), ls[i]? = some (some v) → (i, v) ∈ lv_args 0 av) (h : Runs X d M mc ms Q 0 ls [] 0 0 w) : Does X d M av w mc ms Q := by
  intro sz
  refine Met.ofW (cc := M.2.1) (maxL := M.2.2.1) (ret := M.2.2.2) hpl rfl ?_
  intro p e s m args below meth c s₁ B hml hv
  obtain ⟨rfl, hsz, hP, hK, hD0, hSt⟩ := hv
  subst hsz
  rw [lg_entry_eq]
  have hl := lv_entry av hn
  exact h p e s m _ below meth c (va_A w s.heap.size) s.heap [] _
    ⟨B.exec, B.bytes, hml, B.returns, atoms_spec (ws := Xws M) B.pre, findClass_of_methodNamed B.named, B.notSynchronized, (name_of_methodNamed B.named B.method).1, hK, hSt, fun q hq => Or.inr hq⟩
    ⟨hP, hD0.self, va_S.rf⟩ ⟨hl.1, hl.2.1, fun i v hi => hl.2.2 (i, v) (hls i v hi)⟩
theorem Runs.cast {X : Xn} {d : Nat} {M : XM} {mc ms : Nat} {Q : Option Value → va_W → Prop} {pc : Nat} {ls ls' : List (Option Value)} {st st' : List Value} {k j : Nat} {w w' : va_W} (h : Runs X d M mc ms Q pc ls' st' k j w') (h1 : ls = ls') (h2 : st = st') (h3 : w = w') : Runs X d M mc ms Q pc ls st k j w := by subst h1; subst h2; subst h3; exact h
/-- fewer locals are known -/
theorem Runs.less {X : Xn} {d : Nat} {M : XM} {mc ms : Nat} {Q : Option Value → va_W → Prop} {pc : Nat} {ls ls' : List (Option Value)} {st : List Value} {k j : Nat} {w : va_W} (h : Runs X d M mc ms Q pc ls' st k j w) (h1 : ∀ (i : Nat) (v : Value), ls'[i]? = some (some v) → ls[i]? = some (some v)) : Runs X d M mc ms Q pc ls st k j w :=
  fun p e s m args below meth c A H locs la C P L => h p e s m args below meth c A H locs la C P ⟨L.1, L.2.1, fun i v hi => L.2.2 i v (h1 i v hi)⟩
theorem Does.mono {X : Xn} {d : Nat} {M : XM} {av : List Value} {w : va_W} {mc ms : Nat} {Q Q' : Option Value → va_W → Prop} (h : Does X d M av w mc ms Q) (hq : ∀ v w', Q v w' → Q' v w') : Does X d M av w mc ms Q' := by
  intro sz p e a1 a2 a3 s m args below hf happ hP hK
  obtain ⟨k, o, h1, h2, h3, ⟨⟨v, w', hv, hQ, hr⟩, hF⟩, hL⟩ := h sz p e a1 a2 a3 s m args below hf happ hP hK
  exact ⟨k, o, h1, h2, h3, ⟨⟨v, w', hv, hq v w' hQ, hr⟩, hF⟩, hL⟩
