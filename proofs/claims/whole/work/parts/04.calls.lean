/-! CALLS: a part of the world goes to the callee, and comes back to its places -/
def Xput : va_W → List Nat → va_W → va_W
  | w, i :: is, q :: qs => Xput (w.set i q) is qs
  | w, _, _ => w
theorem Xput_len : ∀ (is : List Nat) (qs w : va_W), (Xput w is qs).length = w.length
  | [], qs, w => by cases qs <;> rfl
  | i :: is, [], w => rfl
  | i :: is, q :: qs, w => by rw [Xput, Xput_len is qs (w.set i q), List.length_set]
theorem Xput_get : ∀ (is : List Nat) (qs w : va_W), va_nd is = true → qs.length = is.length → ∀ (k : Nat) (q : Nat × va_E), (Xput w is qs)[k]? = some q → (k ∉ is ∧ w[k]? = some q) ∨ ∃ j : Nat, is[j]? = some k ∧ qs[j]? = some q
  | [], qs, w, _, _, k, q, h => Or.inl ⟨List.not_mem_nil, by cases qs <;> exact h⟩
  | i :: is, [], w, _, hl, _, _, _ => by simp at hl
  | i :: is, q0 :: qs, w, hn, hl, k, q, h => by
    simp only [va_nd, Bool.and_eq_true, decide_eq_true_eq] at hn
    rcases Xput_get is qs (w.set i q0) hn.2 (by simpa using hl) k q h with ⟨h1, h2⟩ | ⟨j, h1, h2⟩
    · by_cases hk : k = i
      · subst hk
        by_cases hlt : k < w.length
        · rw [List.getElem?_set_self hlt] at h2
          exact Or.inr ⟨0, rfl, h2⟩
        · rw [List.getElem?_eq_none (by rw [List.length_set]; omega)] at h2
          cases h2
      · rw [List.getElem?_set_ne (Ne.symm hk)] at h2
        refine Or.inl ⟨fun hm => ?_, h2⟩
        rcases List.mem_cons.mp hm with h3 | h3
        · exact hk h3
        · exact h1 h3
    · exact Or.inr ⟨j + 1, h1, h2⟩
theorem Xjoin {A0 : Nat → Prop} {D : va_G} {ws wc w1 w2 : va_W} {H H1 : Heap} (hP : va_P D CLS ws H) (hD : va_D A0 ws) (is : List Nat) (hC : is.map (fun i => ws[i]?) = wc.map some) (hn : va_nd is = true) (hk : ∀ q : Nat, q < H.size → ¬ va_A wc H.size q → H1[q]? = H[q]?) (hF : ∀ q, va_A wc H.size q → A0 q) (hP1 : va_P D CLS (w1 ++ w2) H1) (hD1 : va_D (va_A wc H.size) (w1 ++ w2)) (ha : w1.map Prod.fst = wc.map Prod.fst) : va_P D CLS (Xput ws is w1 ++ w2) H1 ∧ va_D A0 (Xput ws is w1 ++ w2) := by
  have hlw : w1.length = wc.length := by have := congrArg List.length ha; simpa using this
  have hli : is.length = wc.length := by have := congrArg List.length hC; simpa using this
  have at1 : ∀ (j kk : Nat), is[j]? = some kk → ∃ q, wc[j]? = some q ∧ ws[kk]? = some q := by
    intro j kk hj
    have h1 : (wc.map some)[j]? = some (ws[kk]?) := by rw [← hC, List.getElem?_map, hj]; rfl
    rw [List.getElem?_map] at h1
    cases hw : wc[j]? with
    | none => rw [hw] at h1; cases h1
    | some q => rw [hw] at h1; exact ⟨q, rfl, (Option.some.inj h1).symm⟩
  have at2 : ∀ (j : Nat) (q : Nat × va_E), wc[j]? = some q → ∃ kk, is[j]? = some kk ∧ ws[kk]? = some q := by
    intro j q hq
    have h1 : (is.map (fun i => ws[i]?))[j]? = some (some q) := by rw [hC, List.getElem?_map, hq]; rfl
    rw [List.getElem?_map] at h1
    cases hi : is[j]? with
    | none => rw [hi] at h1; cases h1
    | some i => rw [hi] at h1; exact ⟨i, rfl, Option.some.inj h1⟩
  have fst1 : ∀ (j : Nat) (q : Nat × va_E), w1[j]? = some q → ∃ q0, wc[j]? = some q0 ∧ q0.1 = q.1 := by
    intro j q hq
    have h1 : (wc.map Prod.fst)[j]? = some q.1 := by rw [← ha, List.getElem?_map, hq]; rfl
    rw [List.getElem?_map] at h1
    cases hw : wc[j]? with
    | none => rw [hw] at h1; cases h1
    | some q0 => rw [hw] at h1; exact ⟨q0, rfl, Option.some.inj h1⟩
  have hlen : (Xput ws is w1).length = ws.length := Xput_len is w1 ws
  have key : ∀ (kk : Nat) (q : Nat × va_E), (Xput ws is w1 ++ w2)[kk]? = some q → (kk < ws.length ∧ (∃ q0, ws[kk]? = some q0 ∧ q0.1 = q.1) ∧ ((¬ va_A wc H.size q.1 ∧ ws[kk]? = some q) ∨ ∃ j : Nat, (w1 ++ w2)[j]? = some q)) ∨ (ws.length ≤ kk ∧ H.size ≤ q.1 ∧ (w1 ++ w2)[w1.length + (kk - ws.length)]? = some q) := by
    intro kk q hq
    by_cases hl : kk < ws.length
    · rw [List.getElem?_append_left (by rw [hlen]; exact hl)] at hq
      refine Or.inl ⟨hl, ?_⟩
      rcases Xput_get is w1 ws hn (by omega) kk q hq with ⟨h1, h2⟩ | ⟨j, h1, h2⟩
      · refine ⟨⟨q, h2, rfl⟩, Or.inl ⟨fun h => ?_, h2⟩⟩
        have hlt := (hP kk q h2).lt
        rcases h with ⟨k2, e, h⟩ | h
        · obtain ⟨j, h3, h4⟩ := at2 k2 (q.1, e) h
          have hij := hD.1 kk j q (q.1, e) h2 h4 rfl
          subst hij
          exact h1 (List.mem_of_getElem? h3)
        · omega
      · obtain ⟨q0, h3, h4⟩ := fst1 j q h2
        obtain ⟨q1, h5, h6⟩ := at1 j kk h1
        rw [h3] at h5; cases h5
        have hj : j < w1.length := (List.getElem?_eq_some_iff.mp h2).1
        exact ⟨⟨q0, h6, h4⟩, Or.inr ⟨j, by rw [List.getElem?_append_left hj]; exact h2⟩⟩
    · rw [List.getElem?_append_right (by omega), hlen] at hq
      have hq' : (w1 ++ w2)[w1.length + (kk - ws.length)]? = some q := by rw [List.getElem?_append_right (by omega)]; simpa using hq
      refine Or.inr ⟨by omega, ?_, hq'⟩
      rcases hD1.2 _ _ hq' with ⟨k2, e, h⟩ | h
      · exfalso
        have hk2 : k2 < wc.length := (List.getElem?_eq_some_iff.mp h).1
        have h3 : w1[k2]? = some (w1[k2]'(by omega)) := List.getElem?_eq_getElem (by omega)
        obtain ⟨q0, h4, h5⟩ := fst1 k2 _ h3
        rw [h] at h4; cases h4
        have h6 := hD1.1 k2 (w1.length + (kk - ws.length)) _ q (by rw [List.getElem?_append_left (by omega)]; exact h3) hq' h5.symm
        omega
      · exact h
  refine ⟨fun kk q hq => ?_, fun i j x y hx hy hxy => ?_, fun kk q hq => ?_⟩
  · rcases key kk q hq with ⟨h1, ⟨q0, h2, h3⟩, ⟨h4, h5⟩ | ⟨jj, h4⟩⟩ | ⟨h1, h2, h3⟩
    · exact (hP kk q h5).kept (hk q.1 (hP kk q h5).lt h4)
    · exact hP1 jj q h4
    · exact hP1 _ q h3
  · rcases key i x hx with ⟨h1, ⟨q0, h2, h3⟩, -⟩ | ⟨h1, h2, h3⟩ <;> rcases key j y hy with ⟨g1, ⟨q1, g2, g3⟩, -⟩ | ⟨g1, g2, g3⟩
    · exact hD.1 i j q0 q1 h2 g2 (h3.trans (hxy.trans g3.symm))
    · have := (hP i q0 h2).lt; omega
    · have := (hP j q1 g2).lt; omega
    · have := hD1.1 _ _ x y h3 g3 hxy; omega
  · rcases key kk q hq with ⟨h1, ⟨q0, h2, h3⟩, -⟩ | ⟨h1, h2, h3⟩
    · rw [← h3]; exact hD.2 kk q0 h2
    · exact hF q.1 (hD1.2 _ _ h3)
section CALLC
variable {X : Xn} {d : Nat} {M : XM} {mc ms : Nat} {Q : Option Value → va_W → Prop} {pc : Nat} {ls : List (Option Value)} {rest st0 : List Value} {k j : Nat} {w : va_W}
variable {p : Program} {e : Env} {s : State} {m : MethodId} {args : Array Value} {below : List Frame} {meth : Method} {c : Code} {A : Nat → Prop} {H : Heap} {locs : List Loc} {la : Array Slot}
theorem X_call (C : Cx X M p s m args meth c A) (P : Ch X s A H locs w) (L : Xhas la M.2.2.1 ls) {wc : va_W} (is : List Nat) (hC : is.map (fun i => w[i]?) = wc.map some) (hn : va_nd is = true) {Q2 : Option Value → va_W → Prop} {mc2 ms2 : Nat} {av : Array Value}
    (hr : va_Run p X.1 e (Xrm d mc ms) s m args below meth c H locs k j mc2 ms2 (F0 m pc la st0) rest (Xpost X (va_A wc H.size) Q2 av) (va_A wc H.size))
    (kk : ∀ v w', Q2 v w' → ∃ w1 w2, w' = w1 ++ w2 ∧ w1.map Prod.fst = wc.map Prod.fst ∧ Runs X d M mc ms Q (pc + 3) ls (v.toList ++ rest) (k + mc2) (j + ms2) (Xput w is w1 ++ w2)) :
    W p X.1 e (Xrm d mc ms) s m args below meth c H locs k j (MQ below (Xpost X A Q) args s mc ms A) (F0 m pc la st0) := by
  intro T hT XX
  obtain ⟨v, st₀, t, T', L1, h0, X', hL, e1, e2, ⟨⟨v2, w', hv, hq, hP1, hD1⟩, hz, hk⟩, stp⟩ := hr T hT XX
  cases hv
  rw [h0] at hz hk
  obtain ⟨w1, w2, rfl, ha, kk⟩ := kk v w' hq
  have hF := va_free P.2.1 P.2.2 C.new is hC
  obtain ⟨g1, g2⟩ := Xjoin (w1 := w1) (w2 := w2) P.1 P.2.1 is hC hn hk hF hP1 hD1 ha
  have hS := P.2.2
  have hT1 : T'.heap = t.heap := e1
  have hS2 : va_S A s.heap T'.heap (locs ++ L1) := ⟨Nat.le_trans hS.1 (by rw [e1]; exact hz), fun q h1 h2 => by
      rw [e1, hk q (Nat.lt_of_lt_of_le h1 hS.1) (fun z => h2 (hF q z))]; exact hS.2.1 q h1 h2, fun q hq => by
      rcases List.mem_append.mp hq with h | h
      · exact hS.2.2 q h
      · exact hF _ (hL q h)⟩
  obtain ⟨t2, a1, b1⟩ := kk p e s m args below meth c A T'.heap (locs ++ L1) la C ⟨by rw [e1]; exact g1, g2, hS2⟩ L T' rfl X'
  exact ⟨t2, stp t2 a1, b1⟩
theorem Xblind {av : List Value} {sz : Nat} {wc : va_W} : FrameBlind (va_Pc av (fun U => U.heap.size = sz ∧ Xpre X wc U)) := by
  intro a U g mk ⟨h1, h2, hP, hK, hD, hSt⟩
  exact ⟨h1, h2, hP, va_K.moved (u := U) (U := U.calling g mk a) (Vm.Alike.refl U.vm) hK, hD, Xst.same (s := U) (U := U.calling g mk a) rfl hSt⟩
theorem Xgive (C : Cx X M p s m args meth c A) (P : Ch X s A H locs w) {wc : va_W} (is : List Nat) (hC : is.map (fun i => w[i]?) = wc.map some) (hn : va_nd is = true) (av : List Value) : ∀ U : State, U.heap = H → s.WarmedH U.vm → va_Pc av (fun U => U.heap.size = H.size ∧ Xpre X wc U) av.toArray U := by
  intro U hU hW
  have hf : is.filterMap (fun i => w[i]?) = wc := by
    have h2 : ∀ (l : List Nat) (l2 : va_W), l.map (fun i => w[i]?) = l2.map some → l.filterMap (fun i => w[i]?) = l2 := by
      intro l
      induction l with
      | nil => intro l2 h; cases l2 with
        | nil => rfl
        | cons _ _ => cases h
      | cons a l ih => intro l2 h; cases l2 with
        | nil => cases h
        | cons b l2 =>
          simp only [List.map_cons, List.cons.injEq] at h
          rw [List.filterMap_cons, h.1]
          simp only [ih l2 h.2]
    exact h2 is wc hC
  refine ⟨rfl, by rw [hU], by rw [hU]; exact P.1.sub is hf, C.K.moved hW.alike, (P.2.1.sub is hn hC).weaken (fun _ _ _ _ => trivial), ?_⟩
  rw [hU]
  exact ((C.st.kept P.2.2.2.1).narrow (va_free P.2.1 P.2.2 C.new is hC)).warm hW
end CALLC
/-- the links of a call -/
def LCm (M2 : XM) (np : Nat) : Prop := Cond.initialized M2.1.cls ∈ TB ∧ Cond.code M2.1 M2.2.1 M2.2.2.1 M2.2.2.2 ∈ TB ∧ (M2.1.cls ≠ "java/lang/invoke/MethodHandle" ∧ M2.1.cls ≠ "java/lang/invoke/VarHandle" ∧ (parseMethodDescriptor M2.1.desc).map (fun d => d.parameters.length) = some np) ∧ M2.2.2.1 ≤ 21
def LVt (M2 : XM) (np : Nat) : Prop := LCm M2 np ∧ Cond.instanceMethod M2.1 ∈ TB ∧ Cond.selects M2.1.cls M2.1 M2.1 ∈ TB
def LSt (M2 : XM) (np : Nat) : Prop := LCm M2 np ∧ Cond.static M2.1 ∈ TB
def LIn (M2 : XM) (np : Nat) : Prop := LCm M2 np ∧ Cond.instanceMethod M2.1 ∈ TB ∧ M2.1.name = "<init>" ∧ M2.2.2.2 = none
theorem Xgood {M M2 : XM} {np : Nat} (h : LCm M2 np) {pre : List Cond} (hp : ∀ q ∈ pre, q ∈ TB) : GoodIn (Xws M) (pre ++ Xws M2) := by
  intro q hq
  rcases List.mem_append.mp hq with h1 | h1
  · exact ⟨List.mem_cons_of_mem _ (hp q h1), good_of_word (TB_good q (hp q h1))⟩
  · rcases List.mem_cons.mp h1 with h2 | h2
    · subst h2; exact ⟨List.mem_cons_of_mem _ h.2.1, good_of_word (TB_good _ h.2.1)⟩
    · exact ⟨List.mem_cons_of_mem _ h2, good_of_word (TB_good q h2)⟩
theorem Xgood0 {M M2 : XM} {np : Nat} (h : LCm M2 np) : GoodIn (Xws M) (Xws M2) := Xgood (pre := []) h (fun _ h => absurd h List.not_mem_nil)
theorem Xroom {d d2 mc ms mc2 ms2 n : Nat} (h : d2 + 1 ≤ d) (hn : n ≤ 21) : (Xrm d2 mc2 ms2).frames + 1 ≤ (Xrm d mc ms).frames ∧ 8 + (n + 11) + (Xrm d2 mc2 ms2).locals ≤ (Xrm d mc ms).locals := ⟨h, by show 8 + (n + 11) + 40 * d2 ≤ 40 * d; omega⟩
