/-! a clause and an exchange by positions -/
def aAll (n : Nat) (tx : Nat → Nat) : List Nat → Nat → Bool × Nat
  | [], p => (true, p)
  | c :: l, p => if aIs n tx c p = true then aAll n tx l (p + 1) else (false, p)
theorem tAll_a {n : Nat} {tx : Nat → Nat} : ∀ (l : List Nat) (s : TS), (tAll n tx l s).1 = (aAll n tx l s.ax).1 ∧ (tAll n tx l s).2.ax = (aAll n tx l s.ax).2
  | [], s => ⟨rfl, rfl⟩
  | c :: l, s => by
    rw [tAll, aAll, tIs_a]
    by_cases h : aIs n tx c s.ax = true
    · rw [if_pos h, if_pos h, if_pos rfl]; exact tAll_a l (TSm (s.ax + 1) s.dg s.op s.cd s.vl s.c)
    · rw [if_neg h, if_neg h, if_neg Bool.false_ne_true]; exact ⟨rfl, rfl⟩
def aKd (n : Nat) (tx : Nat → Nat) (p : Nat) : Nat := if p < n then (if tx p = 102 then 0 else if tx p = 108 then 1 else if tx p = 98 then 2 else 3) else 3
/-- kind, number, tokens -/
def aCk (n : Nat) (tx : Nat → Nat) (k p : Nat) : Bool × Nat × Nat × List Nat :=
  if (aAll n tx (litC (3 + k)) p).1 = true then
    (if (aNum n tx (aAll n tx (litC (3 + k)) p).2).1 = true then
      (if k < 2 then
        (if aIs n tx 32 (aNum n tx (aAll n tx (litC (3 + k)) p).2).2.1 = true then ((aEx n tx ((aNum n tx (aAll n tx (litC (3 + k)) p).2).2.1 + 1)).1, (aEx n tx ((aNum n tx (aAll n tx (litC (3 + k)) p).2).2.1 + 1)).2.1, (aNum n tx (aAll n tx (litC (3 + k)) p).2).2.2, (aEx n tx ((aNum n tx (aAll n tx (litC (3 + k)) p).2).2.1 + 1)).2.2)
         else (false, (aNum n tx (aAll n tx (litC (3 + k)) p).2).2.1, (aNum n tx (aAll n tx (litC (3 + k)) p).2).2.2, []))
      else (true, (aNum n tx (aAll n tx (litC (3 + k)) p).2).2.1, (aNum n tx (aAll n tx (litC (3 + k)) p).2).2.2, []))
    else (false, (aNum n tx (aAll n tx (litC (3 + k)) p).2).2.1, (aNum n tx (aAll n tx (litC (3 + k)) p).2).2.2, []))
  else (false, (aAll n tx (litC (3 + k)) p).2, (aNum n tx (aAll n tx (litC (3 + k)) p).2).2.2, [])
def aCl (n : Nat) (tx : Nat → Nat) (p : Nat) : Bool × Nat × Nat × List Nat := if aKd n tx p < 3 then aCk n tx (aKd n tx p) p else (false, p, 0, [])
theorem tCk_a {n : Nat} {tx : Nat → Nat} (k : Nat) (s : TS) (h : s.ax ≤ n) : (tCk n tx k s).1 = (aCk n tx k s.ax).1 ∧ (tCk n tx k s).2.ax = (aCk n tx k s.ax).2.1 ∧ tVl n tx k s = (aCk n tx k s.ax).2.2.1 ∧ AS s (tCk n tx k s).2 (aCk n tx k s.ax).2.2.2 := by
  unfold tCk aCk tVl
  obtain ⟨l1, l2⟩ := tAll_a (n := n) (tx := tx) (litC (3 + k)) s
  obtain ⟨l3, l4, l5⟩ := tAll_g (n := n) (tx := tx) (litC (3 + k)) s h
  have l6 := l3.2.1 h
  generalize tAll n tx (litC (3 + k)) s = A at l1 l2 l3 l4 l5 l6 ⊢
  generalize aAll n tx (litC (3 + k)) s.ax = B at l1 l2 l3 ⊢
  obtain ⟨m1, m2, m3⟩ := tNum_a (n := n) (tx := tx) A.2
  obtain ⟨m4, m5, m6, _⟩ := tNum_g (n := n) (tx := tx) A.2
  have m7 := m4.2.1 l6
  rw [l2] at m1 m2 m3
  generalize tNum n tx A.2 = C at m1 m2 m3 m4 m5 m6 m7 ⊢
  generalize aNum n tx B.2 = D at m1 m2 m3 ⊢
  by_cases hA : B.1 = true
  · rw [if_pos hA, if_pos (l1.trans hA)]
    by_cases hC : D.1 = true
    · rw [if_pos hC, if_pos (m1.trans hC)]
      by_cases hk : k < 2
      · rw [if_pos hk, if_pos hk, tIs_a]
        have e1 : (tO C.2).ax = D.2.1 := m2
        rw [e1]
        by_cases hI : aIs n tx 32 D.2.1 = true
        · rw [if_pos hI, if_pos hI, if_pos rfl]
          have hn : D.2.1 ≠ n := (of_decide_eq_true hI).1
          obtain ⟨x1, x2, x3⟩ := tEx_a (n := n) (tx := tx) (TSm (D.2.1 + 1) (tO C.2).dg (tO C.2).op (tO C.2).cd (tO C.2).vl (tO C.2).c) (by show D.2.1 + 1 ≤ n; have : C.2.ax ≤ n := m7; omega) rfl
          exact ⟨x1, x2, m3, AS_eq x3 (m5.trans l4) (m6.trans l5)⟩
        · rw [if_neg hI, if_neg hI, if_neg Bool.false_ne_true]; exact ⟨rfl, m2, m3, AS_0 _ _ (m5.trans l4) (m6.trans l5)⟩
      · rw [if_neg hk, if_neg hk]; exact ⟨rfl, m2, m3, AS_0 _ _ (m5.trans l4) (m6.trans l5)⟩
    · rw [if_neg hC, if_neg (fun z => hC (m1.symm.trans z))]; exact ⟨rfl, m2, m3, AS_0 _ _ (m5.trans l4) (m6.trans l5)⟩
  · rw [if_neg hA, if_neg (fun z => hA (l1.symm.trans z))]; exact ⟨rfl, l2, m3, AS_0 _ _ l4 l5⟩
theorem tCl_a {n : Nat} {tx : Nat → Nat} (s : TS) (h : s.ax ≤ n) : (tCl n tx s).1 = (aCl n tx s.ax).1 ∧ (tCl n tx s).2.ax = (aCl n tx s.ax).2.1 ∧ AS s (tCl n tx s).2 (aCl n tx s.ax).2.2.2 ∧ ((tCl n tx s).1 = true → tKd n tx s < 3 ∧ tKd n tx s = aKd n tx s.ax ∧ tVl n tx (tKd n tx s) s = (aCl n tx s.ax).2.2.1) := by
  have e : tKd n tx s = aKd n tx s.ax := rfl
  unfold tCl aCl
  by_cases hk : aKd n tx s.ax < 3
  · rw [if_pos hk, e, if_pos hk]; obtain ⟨a, b, c, d⟩ := tCk_a (n := n) (tx := tx) (aKd n tx s.ax) s h
    exact ⟨a, b, d, fun _ => ⟨hk, rfl, c⟩⟩
  · rw [if_neg hk, e, if_neg hk]; exact ⟨rfl, rfl, AS_0 _ _ rfl rfl, fun z => by cases z⟩
/-- the clauses from p on, at most f -/
def aXs (n : Nat) (tx : Nat → Nat) : Nat → Nat → List (Nat × Nat × List Nat) → Bool × Nat × List (Nat × Nat × List Nat)
  | 0, p, cs => (false, p, cs)
  | f + 1, p, cs =>
    if (aCl n tx p).1 = true then
      (if (aCl n tx p).2.1 = n then (true, (aCl n tx p).2.1, cs ++ [(aKd n tx p, (aCl n tx p).2.2.1, (aCl n tx p).2.2.2)])
       else if f = 0 then (false, (aCl n tx p).2.1, cs ++ [(aKd n tx p, (aCl n tx p).2.2.1, (aCl n tx p).2.2.2)])
       else if aIs n tx 59 (aCl n tx p).2.1 = true then aXs n tx f ((aCl n tx p).2.1 + 1) (cs ++ [(aKd n tx p, (aCl n tx p).2.2.1, (aCl n tx p).2.2.2)])
       else (false, (aCl n tx p).2.1, cs ++ [(aKd n tx p, (aCl n tx p).2.2.1, (aCl n tx p).2.2.2)]))
    else (false, (aCl n tx p).2.1, cs)
def exR (n : Nat) (tx : Nat → Nat) : Bool × Nat × List (Nat × Nat × List Nat) := aXs n tx 10 0 []
def exX (cs : List (Nat × Nat × List Nat)) : EX := (cs.length, fun i => (cs.getD i (0, 0, [])).1, fun i => (cs.getD i (0, 0, [])).2.1, fun i => (cs.getD i (0, 0, [])).2.2.length, fun i j => (cs.getD i (0, 0, [])).2.2.getD j 0)
