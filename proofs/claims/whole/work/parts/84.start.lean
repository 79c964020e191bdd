/-! WHAT HOLDS AT THE LAW'S ENTRY -/
theorem in_tbl {w : Cond} (i : Nat) (h : lw_tbl[i]? = some w) : w ∈ lw_tbl := List.mem_of_getElem? h
theorem law_K {s : State} {args : Array Value} (hts : ∀ w ∈ lw_tbl, w.before args s = true) : ∃ (D : va_G) (ty : Nat → ClassId), va_K D CLS [(ty 0, .int), (ty 1, .long), (ty 2, .boolean), (ty 3, .object "HandshakeBinds$Exchange"), (ty 4, .object "HandshakeBinds$Tape")] s := by
  have tb : ∀ w ∈ TB, w.before args s = true := fun w hw => hts w (List.mem_filter.mp hw).1
  obtain ⟨c0, f0, k0⟩ := u_known tb i_HB (n := 7) (hts (.instantiable "HandshakeBinds" 7) (in_tbl 81 (by decide +kernel)))
  obtain ⟨c1, f1, k1⟩ := u_known tb i_Mkt (n := 11) (hts (.instantiable "HandshakeBinds$Market" 11) (in_tbl 89 (by decide +kernel)))
  obtain ⟨c2, f2, k2⟩ := u_known tb i_Led (n := 4) (hts (.instantiable "HandshakeBinds$Ledger" 4) (in_tbl 95 (by decide +kernel)))
  obtain ⟨c3, f3, k3⟩ := u_known tb i_Rws (n := 2) (hts (.instantiable "HandshakeBinds$Rows" 2) (in_tbl 118 (by decide +kernel)))
  obtain ⟨c4, f4, k4⟩ := u_known tb i_Fac (n := 6) (hts (.instantiable "HandshakeBinds$Facts" 6) (in_tbl 136 (by decide +kernel)))
  obtain ⟨c5, f5, k5⟩ := u_known tb i_Exc (n := 6) (hts (.instantiable "HandshakeBinds$Exchange" 6) (in_tbl 220 (by decide +kernel)))
  obtain ⟨c6, f6, k6⟩ := u_known tb i_Scr (n := 7) (hts (.instantiable "HandshakeBinds$Scribe" 7) (in_tbl 213 (by decide +kernel)))
  obtain ⟨c7, f7, k7⟩ := u_known tb i_Act (n := 5) (hts (.instantiable "HandshakeBinds$Actor" 5) (in_tbl 272 (by decide +kernel)))
  obtain ⟨c8, f8, k8⟩ := u_known tb i_Tap (n := 3) (hts (.instantiable "HandshakeBinds$Tape" 3) (in_tbl 298 (by decide +kernel)))
  obtain ⟨c9, f9, k9⟩ := u_known tb i_Mod (n := 46) (hts (.instantiable "HandshakeBindsModel" 46) (in_tbl 845 (by decide +kernel)))
  obtain ⟨t0, r0, p0, a0, b0, d0⟩ := Cond.arrayClass_spec (hts (.arrayClass .int) (in_tbl 116 (by decide +kernel)))
  obtain ⟨t1, r1, p1, a1, b1, d1⟩ := Cond.arrayClass_spec (hts (.arrayClass .long) (in_tbl 316 (by decide +kernel)))
  obtain ⟨t2, r2, p2, a2, b2, d2⟩ := Cond.arrayClass_spec (hts (.arrayClass .boolean) (in_tbl 989 (by decide +kernel)))
  obtain ⟨p3, t3, r3, g3, -, b3, d3, a3⟩ := Cond.arrayOver_spec (hts (.arrayOver (.object "HandshakeBinds$Exchange")) (in_tbl 219 (by decide +kernel)))
  obtain ⟨p4, t4, r4, g4, -, b4, d4, a4⟩ := Cond.arrayOver_spec (hts (.arrayOver (.object "HandshakeBinds$Tape")) (in_tbl 297 (by decide +kernel)))
  refine ⟨(fun c => match c with | 0 => c0 | 1 => c1 | 2 => c2 | 3 => c3 | 4 => c4 | 5 => c5 | 6 => c6 | 7 => c7 | 8 => c8 | _ => c9, fun c => match c with | 0 => f0 | 1 => f1 | 2 => f2 | 3 => f3 | 4 => f4 | 5 => f5 | 6 => f6 | 7 => f7 | 8 => f8 | _ => f9), fun k => match k with | 0 => t0 | 1 => t1 | 2 => t2 | 3 => t3 | _ => t4, fun c q hq => ?_, fun k q hq => ?_⟩
  · match c, hq with
    | 0, hq => have e := Option.some.inj hq; subst e; exact k0
    | 1, hq => have e := Option.some.inj hq; subst e; exact k1
    | 2, hq => have e := Option.some.inj hq; subst e; exact k2
    | 3, hq => have e := Option.some.inj hq; subst e; exact k3
    | 4, hq => have e := Option.some.inj hq; subst e; exact k4
    | 5, hq => have e := Option.some.inj hq; subst e; exact k5
    | 6, hq => have e := Option.some.inj hq; subst e; exact k6
    | 7, hq => have e := Option.some.inj hq; subst e; exact k7
    | 8, hq => have e := Option.some.inj hq; subst e; exact k8
    | 9, hq => have e := Option.some.inj hq; subst e; exact k9
    | c + 10, hq => exact absurd hq (by rw [List.getElem?_eq_none (by show 10 ≤ c + 10; omega)]; exact fun z => by cases z)
  · match k, hq with
    | 0, hq => have e := Option.some.inj hq; subst e; exact ⟨fun n z => ⟨(fun k h => by cases h), r0, b0, p0, d0⟩, a0⟩
    | 1, hq => have e := Option.some.inj hq; subst e; exact ⟨fun n z => ⟨(fun k h => by cases h), r1, b1, p1, d1⟩, a1⟩
    | 2, hq => have e := Option.some.inj hq; subst e; exact ⟨fun n z => ⟨(fun k h => by cases h), r2, b2, p2, d2⟩, a2⟩
    | 3, hq => have e := Option.some.inj hq; subst e; exact ⟨fun n z => ⟨(fun k h => by cases h), r3, b3, p3, d3⟩, r3, p3, b3, d3, g3, a3⟩
    | 4, hq => have e := Option.some.inj hq; subst e; exact ⟨fun n z => ⟨(fun k h => by cases h), r4, b4, p4, d4⟩, r4, p4, b4, d4, g4, a4⟩
    | k + 5, hq => exact absurd hq (by rw [List.getElem?_eq_none (by show 5 ≤ k + 5; omega)]; exact fun z => by cases z)
theorem str_cg {N : Nat} {len : List Nat} {byt : List (List Int32)} {adK adV aK aV : Nat → Nat} {A : Nat → Prop} {U : State} {H : Heap} (h : vk_S N len byt adK adV A U H) (e1 : ∀ i, i < N → aK i = adK i) (e2 : ∀ i, i < N → aV i = adV i) : vk_S N len byt aK aV A U H :=
  ⟨fun i hi => by rw [e1 i hi, e2 i hi]; exact h.1 i hi, fun i j hi hj e => h.2 i j hi hj (by rw [← e1 i hi, ← e1 j hj]; exact e)⟩
def strT (i : Nat) : Term := .string (litN i).1 (litN i).2.1
abbrev startL : List Cond := flatC (Jvm.Cond.and given_1 narrow_1)
theorem st_1 : ∀ i, i < 8 → Cond.exactly (strT i) "java/lang/String" ∈ startL := by decide +kernel
theorem st_2 : ∀ i, i < 8 → Cond.eq (.field (strT i) "java/lang/String" "coder" "B") (.int 0) ∈ startL := by decide +kernel
theorem st_3 : ∀ i, i < 8 → Cond.arrayOf (.field (strT i) "java/lang/String" "value" "[B") .byte ∈ startL := by decide +kernel
theorem st_4 : ∀ i, i < 8 → Cond.eq (.length (.field (strT i) "java/lang/String" "value" "[B")) (.int (Int32.ofNat (litL.getD i 0))) ∈ startL := by decide +kernel
theorem st_5 : ∀ i, i < 8 → ∀ j, j < litL.getD i 0 → Cond.eq (.elem (.field (strT i) "java/lang/String" "value" "[B") (.int (Int32.ofNat j))) (.int ((litB.getD i []).getD j 0)) ∈ startL := by decide +kernel
theorem st_6 : ∀ i, i < 8 → ∀ j, j < 8 → i ≠ j → (Cond.not (Cond.eq (strT i) (strT j)) ∈ startL ∨ Cond.not (Cond.eq (strT j) (strT i)) ∈ startL) := by decide +kernel
theorem st_7 : ∀ i, i < 8 → Cond.stringRef (litN i).1 (litN i).2.1 (litN i).2.2 ∈ lw_tbl := by decide +kernel
theorem st_a : ∀ j, j < 7 → Cond.eq (.elem (.static "HandshakeBinds" "ABOVE" "[I") (.int (Int32.ofNat j))) (.int (aboveV.getD j 0)) ∈ startL := by decide +kernel
theorem st_b : ∀ j, j < 21 → Cond.eq (.elem (.static "HandshakeBinds" "BODIES" "[I") (.int (Int32.ofNat j))) (.int (bodyV.getD j 0)) ∈ startL := by decide +kernel
theorem law_St {s : State} {b : Nat} (hts : ∀ w ∈ lw_tbl, w.before #[Value.ref b] s = true) (hg : (Jvm.Cond.and given_1 narrow_1).before #[Value.ref b] s = true) : ∃ ad : Nat → Nat, ∀ X : Xn, X.2.2.2 = ad → Xst X (fun q => s.heap.size ≤ q) s s.heap := by
  have hs := flat_of_before _ hg
  have hA : ∀ a : Nat, a < s.heap.size → ¬ s.heap.size ≤ a := fun a h => by omega
  obtain ⟨t0, e0, T0⟩ := va_Tof (tm := .static "HandshakeBinds" "ABOVE" "[I") (ty := .int) (N := 7) (f := fun j => .int (aboveV.getD j 0)) (A := fun q => s.heap.size ≤ q) (by decide) (hs _ (by decide +kernel)) (va_eqt (hs (.eq (.length (.static "HandshakeBinds" "ABOVE" "[I")) (.int (Int32.ofNat 7))) (by decide +kernel))) (fun j hj => va_eqt (hs _ (st_a j hj))) hA
  obtain ⟨t1, e1, T1⟩ := va_Tof (tm := .static "HandshakeBinds" "BODIES" "[I") (ty := .int) (N := 21) (f := fun j => .int (bodyV.getD j 0)) (A := fun q => s.heap.size ≤ q) (by decide) (hs _ (by decide +kernel)) (va_eqt (hs (.eq (.length (.static "HandshakeBinds" "BODIES" "[I")) (.int (Int32.ofNat 21))) (by decide +kernel))) (fun j hj => va_eqt (hs _ (st_b j hj))) hA
  obtain ⟨aK, aV, S1, S2⟩ := vk_Sof (N := 8) (tm := strT) (len := litL) (byt := litB) (A := fun q => s.heap.size ≤ q) (by decide) (fun i hi => hs _ (st_1 i hi)) (fun i hi => hs _ (st_2 i hi)) (fun i hi => hs _ (st_3 i hi)) (fun i hi => hs _ (st_4 i hi)) (fun i hi j hj => hs _ (st_5 i hi j hj)) (fun i j hi hj hij => (st_6 i hi j hj hij).imp (hs _) (hs _)) hA
  refine ⟨fun n => if n = 0 then t0 else if n = 1 then t1 else if n < 30 then aK (n - 10) else aV (n - 30), fun X hX => ?_⟩
  have x0 : X.2.2.2 0 = t0 := by rw [hX]; rfl
  have x1 : X.2.2.2 1 = t1 := by rw [hX]; rfl
  have xK : ∀ i, i < 8 → X.2.2.2 (10 + i) = aK i := fun i hi => by
    rw [hX]; show (if 10 + i = 0 then t0 else if 10 + i = 1 then t1 else if 10 + i < 30 then aK (10 + i - 10) else aV (10 + i - 30)) = aK i
    rw [if_neg (by omega), if_neg (by omega), if_pos (by omega), Nat.add_sub_cancel_left]
  have xV : ∀ i, i < 8 → X.2.2.2 (30 + i) = aV i := fun i hi => by
    rw [hX]; show (if 30 + i = 0 then t0 else if 30 + i = 1 then t1 else if 30 + i < 30 then aK (30 + i - 10) else aV (30 + i - 30)) = aV i
    rw [if_neg (by omega), if_neg (by omega), if_neg (by omega), Nat.add_sub_cancel_left]
  refine ⟨?_, ?_, ?_, ?_, ?_, ?_, str_cg S1 xK xV, fun i hi => ?_, va_AO.of (hts _ (in_tbl 219 (by decide +kernel))), va_AO.of (hts _ (in_tbl 297 (by decide +kernel))), fun w hw => ?_⟩
  · rw [x0]; exact va_Zref (hts _ (in_tbl 792 (by decide +kernel))) (hts _ (in_tbl 62 (by decide +kernel))) e0 hA
  · rw [x0]; exact T0
  · rw [x1]; exact va_Zref (hts _ (in_tbl 789 (by decide +kernel))) (hts _ (in_tbl 62 (by decide +kernel))) e1 hA
  · rw [x1]; exact T1
  · exact va_Zof (hts _ (in_tbl 543 (by decide +kernel))) (hts _ (in_tbl 73 (by decide +kernel))) (va_eqt (hs (.eq (.static "java/lang/String" "COMPACT_STRINGS" "Z") (.int 1)) (by decide +kernel))) hA
  · exact va_Zqof (hts _ (in_tbl 559 (by decide +kernel))) (hts _ (in_tbl 75 (by decide +kernel))) (hs _ (by decide +kernel)) hA
  · rw [xK i hi]; exact vk_R.of (hts _ (st_7 i hi)) (S2 i hi)
  · have h1 := hts w (List.mem_filter.mp hw).1
    have h2 : isNest w = true := (List.mem_filter.mp hw).2
    cases w <;> first | exact va_Nw.of rfl h1 | exact absurd h2 (by simp [isNest])
