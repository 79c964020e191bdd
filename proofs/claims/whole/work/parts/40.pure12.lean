/-! the text's grammar by positions: what is read, where it stops, the tokens in their order -/
def putL (c : Nat → Int32) (k : Nat) (l : List Nat) : Nat → Int32 := fun j => if k ≤ j ∧ j < k + l.length then nI (l.getD (j - k) 0) else c j
theorem putL_nil (c : Nat → Int32) (k : Nat) : putL c k [] = c := by
  funext j; unfold putL; rw [if_neg]; intro h; simp at h; omega
theorem putL_one (c : Nat → Int32) (k t : Nat) : upd c k (nI t) = putL c k [t] := by
  funext j; unfold putL
  by_cases h : j = k
  · subst h; rw [pk_us, if_pos ⟨Nat.le_refl _, Nat.lt_succ_self _⟩, Nat.sub_self]; rfl
  · rw [pk_un h, if_neg]; intro z; simp at z; omega
theorem putL_app (c : Nat → Int32) (k : Nat) (l m : List Nat) : putL (putL c k l) (k + l.length) m = putL c k (l ++ m) := by
  funext j; unfold putL; rw [List.length_append]
  by_cases h : k + l.length ≤ j ∧ j < k + l.length + m.length
  · rw [if_pos h, if_pos ⟨by omega, by omega⟩]
    rw [List.getD_eq_getElem?_getD, List.getD_eq_getElem?_getD, List.getElem?_append_right (by omega), show j - (k + l.length) = j - k - l.length by omega]
  · rw [if_neg h]
    by_cases h2 : k ≤ j ∧ j < k + l.length
    · rw [if_pos h2, if_pos ⟨by omega, by omega⟩, List.getD_eq_getElem?_getD, List.getD_eq_getElem?_getD, List.getElem?_append_left (by omega)]
    · rw [if_neg h2, if_neg (fun z => by omega)]
def aIs (n : Nat) (tx : Nat → Nat) (c p : Nat) : Bool := decide (p ≠ n ∧ tx p = c)
def aDg (n : Nat) (tx : Nat → Nat) (p : Nat) : Bool := decide (p < n ∧ 48 ≤ tx p ∧ tx p ≤ 57)
def aNum (n : Nat) (tx : Nat → Nat) (p : Nat) : Bool × Nat × Nat := if aDg n tx p = true then (if aDg n tx (p + 1) = true then (true, p + 1 + 1, 10 * (10 * 0 + tx p - 48) + tx (p + 1) - 48) else (true, p + 1, 10 * 0 + tx p - 48)) else (false, p, 0)
def aTest (n : Nat) (tx : Nat → Nat) (p : Nat) : Bool × Nat × List Nat :=
  if p < n then
    match tLet (litC 6) (tx p) with
    | none => (false, p, [])
    | some l =>
      if p + 1 < n then
        match tLet (litC 7) (tx (p + 1)) with
        | none => (false, p + 1, [])
        | some g => if (aNum n tx (p + 1 + 1)).1 = true then (true, (aNum n tx (p + 1 + 1)).2.1, [3 + 300 * l + 100 * g + (aNum n tx (p + 1 + 1)).2.2]) else (false, (aNum n tx (p + 1 + 1)).2.1, [])
      else (false, p + 1, [])
  else (false, p, [])
def aLoop (n : Nat) (tx : Nat → Nat) (g : Nat → Bool × Nat × List Nat) (c t : Nat) : Nat → Nat → Bool × Nat × List Nat
  | 0, p => (false, p, [])
  | f + 1, p => if aIs n tx c p = true then (if (g (p + 1)).1 = true then ((aLoop n tx g c t f (g (p + 1)).2.1).1, (aLoop n tx g c t f (g (p + 1)).2.1).2.1, ((g (p + 1)).2.2 ++ [t]) ++ (aLoop n tx g c t f (g (p + 1)).2.1).2.2) else (false, (g (p + 1)).2.1, (g (p + 1)).2.2)) else (true, p, [])
def aRow (n : Nat) (tx : Nat → Nat) (g : Nat → Bool × Nat × List Nat) (c t p : Nat) : Bool × Nat × List Nat := if (g p).1 = true then ((aLoop n tx g c t 101 (g p).2.1).1, (aLoop n tx g c t 101 (g p).2.1).2.1, (g p).2.2 ++ (aLoop n tx g c t 101 (g p).2.1).2.2) else (false, (g p).2.1, (g p).2.2)
def aF (n : Nat) (tx : Nat → Nat) : Nat → Nat → Bool × Nat × List Nat
  | 0, p => aTest n tx p
  | r + 1, p =>
    if aIs n tx 33 p = true then (if (aF n tx r (p + 1)).1 = true then (true, (aF n tx r (p + 1)).2.1, (aF n tx r (p + 1)).2.2 ++ [0]) else (false, (aF n tx r (p + 1)).2.1, (aF n tx r (p + 1)).2.2))
    else if aIs n tx 40 p = true then
      (if (aRow n tx (aRow n tx (aF n tx r) 38 1) 124 2 (p + 1)).1 = true then
        (if aIs n tx 41 (aRow n tx (aRow n tx (aF n tx r) 38 1) 124 2 (p + 1)).2.1 = true then (true, (aRow n tx (aRow n tx (aF n tx r) 38 1) 124 2 (p + 1)).2.1 + 1, (aRow n tx (aRow n tx (aF n tx r) 38 1) 124 2 (p + 1)).2.2)
         else (false, (aRow n tx (aRow n tx (aF n tx r) 38 1) 124 2 (p + 1)).2.1, (aRow n tx (aRow n tx (aF n tx r) 38 1) 124 2 (p + 1)).2.2))
      else (false, (aRow n tx (aRow n tx (aF n tx r) 38 1) 124 2 (p + 1)).2.1, (aRow n tx (aRow n tx (aF n tx r) 38 1) 124 2 (p + 1)).2.2))
    else aTest n tx p
/-- the model's reading q from s is the reading b -/
def AR (s : TS) (q : Bool × TS) (b : Bool × Nat × List Nat) : Prop := q.1 = b.1 ∧ q.2.ax = b.2.1 ∧ q.2.cd = s.cd + b.2.2.length ∧ q.2.c = putL s.c s.cd b.2.2
theorem AR_0 {s s2 : TS} {b : Bool} {p : Nat} (h : s2.ax = p) (h2 : s2.cd = s.cd) (h3 : s2.c = s.c) : AR s (b, s2) (b, p, []) := ⟨rfl, h, h2, h3.trans (putL_nil _ _).symm⟩
theorem tIs_a {n c : Nat} {tx : Nat → Nat} (s : TS) : tIs n tx c s = if aIs n tx c s.ax = true then (true, TSm (s.ax + 1) s.dg s.op s.cd s.vl s.c) else (false, s) := by
  unfold tIs aIs
  by_cases h : s.ax = n
  · rw [if_pos h, if_neg]; intro z; exact (of_decide_eq_true z).1 h
  · by_cases h2 : tx s.ax = c
    · rw [if_neg h, if_pos h2, if_pos (decide_eq_true ⟨h, h2⟩)]
    · rw [if_neg h, if_neg h2, if_neg]; intro z; exact h2 (of_decide_eq_true z).2
theorem tNumL_1 {n f : Nat} {tx : Nat → Nat} {s : TS} (h : tDg n tx s = true) : tNumL n tx (f + 1) s = tNumL n tx f (TSm (s.ax + 1) (s.dg + 1) s.op s.cd (10 * s.vl + tx s.ax - 48) s.c) := if_pos h
theorem tNumL_0 {n f : Nat} {tx : Nat → Nat} {s : TS} (h : ¬ tDg n tx s = true) : tNumL n tx (f + 1) s = s := if_neg h
theorem tNum_a {n : Nat} {tx : Nat → Nat} (s : TS) : (tNum n tx s).1 = (aNum n tx s.ax).1 ∧ (tNum n tx s).2.ax = (aNum n tx s.ax).2.1 ∧ (tNum n tx s).2.vl = (aNum n tx s.ax).2.2 := by
  unfold tNum aNum
  by_cases h : aDg n tx s.ax = true
  · by_cases h2 : aDg n tx (s.ax + 1) = true
    · have e : tNumL n tx 2 (TSm s.ax 0 s.op s.cd 0 s.c) = TSm (s.ax + 1 + 1) 2 s.op s.cd (10 * (10 * 0 + tx s.ax - 48) + tx (s.ax + 1) - 48) s.c := by
        exact (tNumL_1 (f := 1) (s := TSm s.ax 0 s.op s.cd 0 s.c) h).trans (tNumL_1 (f := 0) (s := TSm (s.ax + 1) (0 + 1) s.op s.cd (10 * 0 + tx s.ax - 48) s.c) h2)
      rw [e, if_pos h, if_pos h2]; exact ⟨rfl, rfl, rfl⟩
    · have e : tNumL n tx 2 (TSm s.ax 0 s.op s.cd 0 s.c) = TSm (s.ax + 1) 1 s.op s.cd (10 * 0 + tx s.ax - 48) s.c := by
        exact (tNumL_1 (f := 1) (s := TSm s.ax 0 s.op s.cd 0 s.c) h).trans (tNumL_0 (f := 0) (s := TSm (s.ax + 1) (0 + 1) s.op s.cd (10 * 0 + tx s.ax - 48) s.c) h2)
      rw [e, if_pos h, if_neg h2]; exact ⟨rfl, rfl, rfl⟩
  · have e : tNumL n tx 2 (TSm s.ax 0 s.op s.cd 0 s.c) = TSm s.ax 0 s.op s.cd 0 s.c := by
      rw [tNumL, if_neg (show ¬ tDg n tx (TSm s.ax 0 s.op s.cd 0 s.c) = true from h)]
    rw [e, if_neg h]; exact ⟨rfl, rfl, rfl⟩
theorem tTest_a {n : Nat} {tx : Nat → Nat} (s : TS) : AR s (tTest n tx s) (aTest n tx s.ax) := by
  unfold tTest aTest
  by_cases h : s.ax < n
  · simp only [if_pos h]
    cases tLet (litC 6) (tx s.ax) with
    | none => exact AR_0 rfl rfl rfl
    | some l =>
      dsimp only
      by_cases h2 : s.ax + 1 < n
      · simp only [if_pos h2]
        cases tLet (litC 7) (tx (s.ax + 1)) with
        | none => exact AR_0 rfl rfl rfl
        | some g =>
          dsimp only
          obtain ⟨e1, e2, e3⟩ := tNum_a (n := n) (tx := tx) (TSm (s.ax + 1 + 1) s.dg s.op s.cd s.vl s.c)
          obtain ⟨_, g2, g3, _⟩ := tNum_g (n := n) (tx := tx) (TSm (s.ax + 1 + 1) s.dg s.op s.cd s.vl s.c)
          have e4 : (tNum n tx (TSm (s.ax + 1 + 1) s.dg s.op s.cd s.vl s.c)).1 = (aNum n tx (s.ax + 1 + 1)).1 := e1
          by_cases h3 : (aNum n tx (s.ax + 1 + 1)).1 = true
          · rw [if_pos h3, if_pos (e4.trans h3)]
            refine ⟨rfl, e2, ?_, ?_⟩
            · show (tNum n tx (TSm (s.ax + 1 + 1) s.dg s.op s.cd s.vl s.c)).2.cd + 1 = s.cd + 1
              rw [g2]; rfl
            · show upd (tNum n tx (TSm (s.ax + 1 + 1) s.dg s.op s.cd s.vl s.c)).2.c (tNum n tx (TSm (s.ax + 1 + 1) s.dg s.op s.cd s.vl s.c)).2.cd (nI (3 + 300 * l + 100 * g + (tNum n tx (TSm (s.ax + 1 + 1) s.dg s.op s.cd s.vl s.c)).2.vl)) = _
              rw [putL_one, g2, g3, e3]; rfl
          · rw [if_neg h3, if_neg (fun z => h3 (e4.symm.trans z))]; exact AR_0 e2 g2 g3
      · simp only [if_neg h2]; exact AR_0 rfl rfl rfl
  · simp only [if_neg h]; exact AR_0 rfl rfl rfl
theorem AR_cat {s u : TS} {b b2 : Bool} {p p2 : Nat} {l m : List Nat} {x y : TS} (h : AR s (b, x) (b, p, l)) (he : u.cd = x.cd) (hc : u.c = x.c) (h2 : AR u (b2, y) (b2, p2, m)) : AR s (b2, y) (b2, p2, l ++ m) := by
  obtain ⟨_, a2, a3, a4⟩ := h; obtain ⟨_, b2, b3, b4⟩ := h2
  have a3 : x.cd = s.cd + l.length := a3
  have a4 : x.c = putL s.c s.cd l := a4
  have b3 : y.cd = u.cd + m.length := b3
  have b4 : y.c = putL u.c u.cd m := b4
  exact ⟨rfl, b2, by show y.cd = s.cd + (l ++ m).length; rw [b3, he, a3, List.length_append, Nat.add_assoc], by show y.c = putL s.c s.cd (l ++ m); rw [b4, he, hc, a3, a4, putL_app]⟩
theorem AR_mk {s : TS} {q : Bool × TS} {b : Bool × Nat × List Nat} (h : AR s q b) : AR s (b.1, q.2) (b.1, b.2.1, b.2.2) := ⟨rfl, h.2⟩
