/-! the text's grammar by positions: what is read, where it stops, the tokens in their order -/
def putL (c : Nat → Int32) (k : Nat) (l : List Nat) : Nat → Int32 := fun j => if k ≤ j ∧ j < k + l.length then nI (l.getD (j - k) 0) else c j
theorem putL_nil (c : Nat → Int32) (k : Nat) : putL c k [] = c := by
  funext j; unfold putL; rw [if_neg]; intro h; simp at h; omega
theorem putL_one (c : Nat → Int32) (k t : Nat) : upd c k (nI t) = putL c k [t] := by
  funext j; unfold putL
  by_cases h : j = k
  · subst h; rw [pk_us, if_pos ⟨Nat.le_refl _, Nat.lt_succ_self _⟩, Nat.sub_self]; rfl
  · rw [pk_un h, if_neg]; intro z; simp at z; omega
theorem putL_app (c : Nat → Int32) (k : Nat) (l m : List Nat) : putL (putL c k l) (k + l.length) m = putL c k (l ++ m) := by
  funext j; unfold putL; rw [List.length_append]
  by_cases h : k + l.length ≤ j ∧ j < k + l.length + m.length
  · rw [if_pos h, if_pos ⟨by omega, by omega⟩]
    rw [List.getD_eq_getElem?_getD, List.getD_eq_getElem?_getD, List.getElem?_append_right (by omega), show j - (k + l.length) = j - k - l.length by omega]
  · rw [if_neg h]
    by_cases h2 : k ≤ j ∧ j < k + l.length
    · rw [if_pos h2, if_pos ⟨by omega, by omega⟩, List.getD_eq_getElem?_getD, List.getD_eq_getElem?_getD, List.getElem?_append_left (by omega)]
    · rw [if_neg h2, if_neg (fun z => by omega)]
def aIs (n : Nat) (tx : Nat → Nat) (c p : Nat) : Bool := decide (p ≠ n ∧ tx p = c)
def aDg (n : Nat) (tx : Nat → Nat) (p : Nat) : Bool := decide (p < n ∧ 48 ≤ tx p ∧ tx p ≤ 57)
def aNum (n : Nat) (tx : Nat → Nat) (p : Nat) : Bool × Nat × Nat := if aDg n tx p = true then (if aDg n tx (p + 1) = true then (true, p + 1 + 1, 10 * (10 * 0 + tx p - 48) + tx (p + 1) - 48) else (true, p + 1, 10 * 0 + tx p - 48)) else (false, p, 0)
def aTest (n : Nat) (tx : Nat → Nat) (p : Nat) : Bool × Nat × List Nat :=
  if p < n then
    match tLet (litC 6) (tx p) with
    | none => (false, p, [])
    | some l =>
      if p + 1 < n then
        match tLet (litC 7) (tx (p + 1)) with
        | none => (false, p + 1, [])
        | some g => if (aNum n tx (p + 1 + 1)).1 = true then (true, (aNum n tx (p + 1 + 1)).2.1, [3 + 300 * l + 100 * g + (aNum n tx (p + 1 + 1)).2.2]) else (false, (aNum n tx (p + 1 + 1)).2.1, [])
      else (false, p + 1, [])
  else (false, p, [])
def aLoop (n : Nat) (tx : Nat → Nat) (g : Nat → Bool × Nat × List Nat) (c t : Nat) : Nat → Nat → Bool × Nat × List Nat
  | 0, p => (false, p, [])
  | f + 1, p => if aIs n tx c p = true then (if (g (p + 1)).1 = true then ((aLoop n tx g c t f (g (p + 1)).2.1).1, (aLoop n tx g c t f (g (p + 1)).2.1).2.1, ((g (p + 1)).2.2 ++ [t]) ++ (aLoop n tx g c t f (g (p + 1)).2.1).2.2) else (false, (g (p + 1)).2.1, (g (p + 1)).2.2)) else (true, p, [])
def aRow (n : Nat) (tx : Nat → Nat) (g : Nat → Bool × Nat × List Nat) (c t p : Nat) : Bool × Nat × List Nat := if (g p).1 = true then ((aLoop n tx g c t 101 (g p).2.1).1, (aLoop n tx g c t 101 (g p).2.1).2.1, (g p).2.2 ++ (aLoop n tx g c t 101 (g p).2.1).2.2) else (false, (g p).2.1, (g p).2.2)
def aF (n : Nat) (tx : Nat → Nat) : Nat → Nat → Bool × Nat × List Nat
  | 0, p => aTest n tx p
  | r + 1, p =>
    if aIs n tx 33 p = true then (if (aF n tx r (p + 1)).1 = true then (true, (aF n tx r (p + 1)).2.1, (aF n tx r (p + 1)).2.2 ++ [0]) else (false, (aF n tx r (p + 1)).2.1, (aF n tx r (p + 1)).2.2))
    else if aIs n tx 40 p = true then
      (if (aRow n tx (aRow n tx (aF n tx r) 38 1) 124 2 (p + 1)).1 = true then
        (if aIs n tx 41 (aRow n tx (aRow n tx (aF n tx r) 38 1) 124 2 (p + 1)).2.1 = true then (true, (aRow n tx (aRow n tx (aF n tx r) 38 1) 124 2 (p + 1)).2.1 + 1, (aRow n tx (aRow n tx (aF n tx r) 38 1) 124 2 (p + 1)).2.2)
         else (false, (aRow n tx (aRow n tx (aF n tx r) 38 1) 124 2 (p + 1)).2.1, (aRow n tx (aRow n tx (aF n tx r) 38 1) 124 2 (p + 1)).2.2))
      else (false, (aRow n tx (aRow n tx (aF n tx r) 38 1) 124 2 (p + 1)).2.1, (aRow n tx (aRow n tx (aF n tx r) 38 1) 124 2 (p + 1)).2.2))
    else aTest n tx p
/-- the model's reading q from s is the reading b -/
def AR (s : TS) (q : Bool × TS) (b : Bool × Nat × List Nat) : Prop := q.1 = b.1 ∧ q.2.ax = b.2.1 ∧ q.2.cd = s.cd + b.2.2.length ∧ q.2.c = putL s.c s.cd b.2.2
theorem AR_0 {s s2 : TS} {b : Bool} {p : Nat} (h : s2.ax = p) (h2 : s2.cd = s.cd) (h3 : s2.c = s.c) : AR s (b, s2) (b, p, []) := ⟨rfl, h, h2, h3.trans (putL_nil _ _).symm⟩
theorem tIs_a {n c : Nat} {tx : Nat → Nat} (s : TS) : tIs n tx c s = if aIs n tx c s.ax = true then (true, TSm (s.ax + 1) s.dg s.op s.cd s.vl s.c) else (false, s) := by
  unfold tIs aIs
  by_cases h : s.ax = n
  · rw [if_pos h, if_neg]; intro z; exact (of_decide_eq_true z).1 h
  · by_cases h2 : tx s.ax = c
    · rw [if_neg h, if_pos h2, if_pos (decide_eq_true ⟨h, h2⟩)]
    · rw [if_neg h, if_neg h2, if_neg]; intro z; exact h2 (of_decide_eq_true z).2
theorem tNumL_1 {n f : Nat} {tx : Nat → Nat} {s : TS} (h : tDg n tx s = true) : tNumL n tx (f + 1) s = tNumL n tx f (TSm (s.ax + 1) (s.dg + 1) s.op s.cd (10 * s.vl + tx s.ax - 48) s.c) := if_pos h
theorem tNumL_0 {n f : Nat} {tx : Nat → Nat} {s : TS} (h : ¬ tDg n tx s = true) : tNumL n tx (f + 1) s = s := if_neg h
theorem tNum_a {n : Nat} {tx : Nat → Nat} (s : TS) : (tNum n tx s).1 = (aNum n tx s.ax).1 ∧ (tNum n tx s).2.ax = (aNum n tx s.ax).2.1 ∧ (tNum n tx s).2.vl = (aNum n tx s.ax).2.2 := by
  unfold tNum aNum
  by_cases h : aDg n tx s.ax = true
  · by_cases h2 : aDg n tx (s.ax + 1) = true
    · have e : tNumL n tx 2 (TSm s.ax 0 s.op s.cd 0 s.c) = TSm (s.ax + 1 + 1) 2 s.op s.cd (10 * (10 * 0 + tx s.ax - 48) + tx (s.ax + 1) - 48) s.c := by
        exact (tNumL_1 (f := 1) (s := TSm s.ax 0 s.op s.cd 0 s.c) h).trans (tNumL_1 (f := 0) (s := TSm (s.ax + 1) (0 + 1) s.op s.cd (10 * 0 + tx s.ax - 48) s.c) h2)
      rw [e, if_pos h, if_pos h2]; exact ⟨rfl, rfl, rfl⟩
    · have e : tNumL n tx 2 (TSm s.ax 0 s.op s.cd 0 s.c) = TSm (s.ax + 1) 1 s.op s.cd (10 * 0 + tx s.ax - 48) s.c := by
        exact (tNumL_1 (f := 1) (s := TSm s.ax 0 s.op s.cd 0 s.c) h).trans (tNumL_0 (f := 0) (s := TSm (s.ax + 1) (0 + 1) s.op s.cd (10 * 0 + tx s.ax - 48) s.c) h2)
      rw [e, if_pos h, if_neg h2]; exact ⟨rfl, rfl, rfl⟩
  · have e : tNumL n tx 2 (TSm s.ax 0 s.op s.cd 0 s.c) = TSm s.ax 0 s.op s.cd 0 s.c := by
      rw [tNumL, if_neg (show ¬ tDg n tx (TSm s.ax 0 s.op s.cd 0 s.c) = true from h)]
    rw [e, if_neg h]; exact ⟨rfl, rfl, rfl⟩
theorem tTest_a {n : Nat} {tx : Nat → Nat} (s : TS) : AR s (tTest n tx s) (aTest n tx s.ax) := by
  unfold tTest aTest
  by_cases h : s.ax < n
  · simp only [if_pos h]
    cases tLet (litC 6) (tx s.ax) with
    | none => exact AR_0 rfl rfl rfl
    | some l =>
      dsimp only
      by_cases h2 : s.ax + 1 < n
      · simp only [if_pos h2]
        cases tLet (litC 7) (tx (s.ax + 1)) with
        | none => exact AR_0 rfl rfl rfl
        | some g =>
          dsimp only
          obtain ⟨e1, e2, e3⟩ := tNum_a (n := n) (tx := tx) (TSm (s.ax + 1 + 1) s.dg s.op s.cd s.vl s.c)
          obtain ⟨_, g2, g3, _⟩ := tNum_g (n := n) (tx := tx) (TSm (s.ax + 1 + 1) s.dg s.op s.cd s.vl s.c)
          have e4 : (tNum n tx (TSm (s.ax + 1 + 1) s.dg s.op s.cd s.vl s.c)).1 = (aNum n tx (s.ax + 1 + 1)).1 := e1
          by_cases h3 : (aNum n tx (s.ax + 1 + 1)).1 = true
          · rw [if_pos h3, if_pos (e4.trans h3)]
            refine ⟨rfl, e2, ?_, ?_⟩
            · show (tNum n tx (TSm (s.ax + 1 + 1) s.dg s.op s.cd s.vl s.c)).2.cd + 1 = s.cd + 1
              rw [g2]; rfl
            · show upd (tNum n tx (TSm (s.ax + 1 + 1) s.dg s.op s.cd s.vl s.c)).2.c (tNum n tx (TSm (s.ax + 1 + 1) s.dg s.op s.cd s.vl s.c)).2.cd (nI (3 + 300 * l + 100 * g + (tNum n tx (TSm (s.ax + 1 + 1) s.dg s.op s.cd s.vl s.c)).2.vl)) = _
              rw [putL_one, g2, g3, e3]; rfl
          · rw [if_neg h3, if_neg (fun z => h3 (e4.symm.trans z))]; exact AR_0 e2 g2 g3
      · simp only [if_neg h2]; exact AR_0 rfl rfl rfl
  · simp only [if_neg h]; exact AR_0 rfl rfl rfl
theorem AR_cat {s u : TS} {b b2 : Bool} {p p2 : Nat} {l m : List Nat} {x y : TS} (h : AR s (b, x) (b, p, l)) (he : u.cd = x.cd) (hc : u.c = x.c) (h2 : AR u (b2, y) (b2, p2, m)) : AR s (b2, y) (b2, p2, l ++ m) := by
  obtain ⟨_, a2, a3, a4⟩ := h; obtain ⟨_, b2, b3, b4⟩ := h2
  have a3 : x.cd = s.cd + l.length := a3
  have a4 : x.c = putL s.c s.cd l := a4
  have b3 : y.cd = u.cd + m.length := b3
  have b4 : y.c = putL u.c u.cd m := b4
  exact ⟨rfl, b2, by show y.cd = s.cd + (l ++ m).length; rw [b3, he, a3, List.length_append, Nat.add_assoc], by show y.c = putL s.c s.cd (l ++ m); rw [b4, he, hc, a3, a4, putL_app]⟩
theorem AR_mk {s : TS} {q : Bool × TS} {b : Bool × Nat × List Nat} (h : AR s q b) : AR s (b.1, q.2) (b.1, b.2.1, b.2.2) := ⟨rfl, h.2⟩
def AS (s x : TS) (l : List Nat) : Prop := x.cd = s.cd + l.length ∧ x.c = putL s.c s.cd l
theorem AS_trans {s x y : TS} {l m : List Nat} (h : AS s x l) (h2 : AS x y m) : AS s y (l ++ m) := by
  refine ⟨by rw [h2.1, h.1, List.length_append, Nat.add_assoc], ?_⟩
  rw [h2.2, h.1, h.2, putL_app]
theorem AS_eq {s u x : TS} {l : List Nat} (h : AS u x l) (he : u.cd = s.cd) (hc : u.c = s.c) : AS s x l := by
  unfold AS at h ⊢; rw [he, hc] at h; exact h
theorem AS_code {s x : TS} {l : List Nat} (t : Nat) (h : AS s x l) : AS s (tCode t x) (l ++ [t]) := AS_trans h ⟨rfl, putL_one _ _ _⟩
theorem AS_0 (s x : TS) (he : x.cd = s.cd) (hc : x.c = s.c) : AS s x [] := ⟨he, hc.trans (putL_nil _ _).symm⟩
theorem tLoop_a {n c t o : Nat} {tx : Nat → Nat} {g : TS → Bool × TS} {h : Nat → Bool × Nat × List Nat} (hG : ∀ s, s.ax ≤ n → tG n s (g s).2) (hg : ∀ s, s.ax ≤ n → s.op + o = 4 → AR s (g s) (h s.ax)) : ∀ (f : Nat) (s : TS), s.ax ≤ n → s.op + o = 4 → AR s (tLoop n tx g c t f s) (aLoop n tx h c t f s.ax)
  | 0, s, _, _ => AR_0 rfl rfl rfl
  | f + 1, s, h1, h2 => by
    rw [tLoop, aLoop, tIs_a]
    by_cases hi : aIs n tx c s.ax = true
    · rw [if_pos hi, if_pos rfl, if_pos hi]
      have hn : s.ax ≠ n := (of_decide_eq_true hi).1
      have a1 : (TSm (s.ax + 1) s.dg s.op s.cd s.vl s.c).ax ≤ n := by show s.ax + 1 ≤ n; omega
      have G := hG _ a1
      obtain ⟨b1, b2, b3⟩ := hg (TSm (s.ax + 1) s.dg s.op s.cd s.vl s.c) a1 h2
      have b1 : (g (TSm (s.ax + 1) s.dg s.op s.cd s.vl s.c)).1 = (h (s.ax + 1)).1 := b1
      have b2 : (g (TSm (s.ax + 1) s.dg s.op s.cd s.vl s.c)).2.ax = (h (s.ax + 1)).2.1 := b2
      have b3 : AS s (g (TSm (s.ax + 1) s.dg s.op s.cd s.vl s.c)).2 (h (s.ax + 1)).2.2 := AS_eq b3 rfl rfl
      show AR s (if (g (TSm (s.ax + 1) s.dg s.op s.cd s.vl s.c)).1 = true then _ else _) _
      by_cases hb : (h (s.ax + 1)).1 = true
      · rw [if_pos (b1.trans hb), if_pos hb]
        have I := tLoop_a (c := c) (t := t) (tx := tx) hG hg f (tCode t (g (TSm (s.ax + 1) s.dg s.op s.cd s.vl s.c)).2) (G.2.1 a1) (by show (g (TSm (s.ax + 1) s.dg s.op s.cd s.vl s.c)).2.op + o = 4; rw [G.2.2.2]; exact h2)
        rw [show (tCode t (g (TSm (s.ax + 1) s.dg s.op s.cd s.vl s.c)).2).ax = (h (s.ax + 1)).2.1 from b2] at I
        exact ⟨I.1, I.2.1, AS_trans (AS_code t b3) I.2.2⟩
      · rw [if_neg (fun z => hb (b1.symm.trans z)), if_neg hb]; exact ⟨rfl, b2, b3⟩
    · rw [if_neg hi, if_neg hi, if_neg Bool.false_ne_true]; exact AR_0 rfl rfl rfl
theorem tRow_a {n c t o : Nat} {tx : Nat → Nat} {g : TS → Bool × TS} {h : Nat → Bool × Nat × List Nat} (hG : ∀ s, s.ax ≤ n → tG n s (g s).2) (hg : ∀ s, s.ax ≤ n → s.op + o = 4 → AR s (g s) (h s.ax)) (s : TS) (h1 : s.ax ≤ n) (h2 : s.op + o = 4) : AR s (tRow n tx g c t s) (aRow n tx h c t s.ax) := by
  unfold tRow aRow
  obtain ⟨b1, b2, b3⟩ := hg s h1 h2
  have G := hG s h1
  by_cases hb : (h s.ax).1 = true
  · rw [if_pos (b1.trans hb), if_pos hb]
    have I := tLoop_a (c := c) (t := t) (tx := tx) hG hg 101 (g s).2 (G.2.1 h1) (by rw [G.2.2.2]; exact h2)
    rw [b2] at I
    exact ⟨I.1, I.2.1, AS_trans b3 I.2.2⟩
  · rw [if_neg (fun z => hb (b1.symm.trans z)), if_neg hb]; exact ⟨rfl, b2, b3⟩
theorem tOpen_a {n c : Nat} {tx : Nat → Nat} {s : TS} (h : s.op ≠ 4) : tOpen n tx c s = if aIs n tx c s.ax = true then (true, TSm (s.ax + 1) s.dg (s.op + 1) s.cd s.vl s.c) else (false, s) := by
  unfold tOpen; rw [if_neg h, tIs_a]
  by_cases hi : aIs n tx c s.ax = true
  · rw [if_pos hi, if_pos rfl, if_pos hi]; rfl
  · rw [if_neg hi, if_neg Bool.false_ne_true, if_neg hi]
theorem tF_a {n : Nat} {tx : Nat → Nat} : ∀ (r : Nat) (s : TS), s.ax ≤ n → s.op + r = 4 → AR s (tF n tx r s) (aF n tx r s.ax)
  | 0, s, _, _ => tTest_a s
  | r + 1, s, h1, h2 => by
    rw [tF, aF, tOpen_a (c := 33) (by omega), tOpen_a (c := 40) (by omega)]
    by_cases hi : aIs n tx 33 s.ax = true
    · rw [if_pos hi, if_pos hi, if_pos rfl]
      have hn : s.ax ≠ n := (of_decide_eq_true hi).1
      obtain ⟨b1, b2, b3⟩ := tF_a (n := n) (tx := tx) r (TSm (s.ax + 1) s.dg (s.op + 1) s.cd s.vl s.c) (by show s.ax + 1 ≤ n; omega) (by show s.op + 1 + r = 4; omega)
      have b1 : (tF n tx r (TSm (s.ax + 1) s.dg (s.op + 1) s.cd s.vl s.c)).1 = (aF n tx r (s.ax + 1)).1 := b1
      have b3 : AS s (tF n tx r (TSm (s.ax + 1) s.dg (s.op + 1) s.cd s.vl s.c)).2 (aF n tx r (s.ax + 1)).2.2 := AS_eq b3 rfl rfl
      by_cases hb : (aF n tx r (s.ax + 1)).1 = true
      · rw [if_pos hb, if_pos (show (tF n tx r (TSm (s.ax + 1) s.dg (s.op + 1) s.cd s.vl s.c)).1 = true from b1.trans hb)]
        exact ⟨rfl, b2, AS_code 0 b3⟩
      · rw [if_neg hb, if_neg (show ¬ (tF n tx r (TSm (s.ax + 1) s.dg (s.op + 1) s.cd s.vl s.c)).1 = true from fun z => hb (b1.symm.trans z))]
        exact ⟨rfl, b2, b3⟩
    · rw [if_neg hi, if_neg hi, if_neg Bool.false_ne_true]
      by_cases hi2 : aIs n tx 40 s.ax = true
      · rw [if_pos hi2, if_pos hi2, if_pos rfl]
        have hn : s.ax ≠ n := (of_decide_eq_true hi2).1
        have a1 : (TSm (s.ax + 1) s.dg (s.op + 1) s.cd s.vl s.c).ax ≤ n := by show s.ax + 1 ≤ n; omega
        obtain ⟨b1, b2, b3⟩ := tRow_a (n := n) (c := 124) (t := 2) (o := r) (tx := tx) (g := tRow n tx (tF n tx r) 38 1) (h := aRow n tx (aF n tx r) 38 1) (fun s hs => tRow_g (fun s hs => tF_g r s hs) s hs) (fun s hs ho => tRow_a (fun s hs => tF_g r s hs) (fun s hs ho => tF_a r s hs ho) s hs ho) (TSm (s.ax + 1) s.dg (s.op + 1) s.cd s.vl s.c) a1 (by show s.op + 1 + r = 4; omega)
        have b1 : (tRow n tx (tRow n tx (tF n tx r) 38 1) 124 2 (TSm (s.ax + 1) s.dg (s.op + 1) s.cd s.vl s.c)).1 = (aRow n tx (aRow n tx (aF n tx r) 38 1) 124 2 (s.ax + 1)).1 := b1
        have b2 : (tRow n tx (tRow n tx (tF n tx r) 38 1) 124 2 (TSm (s.ax + 1) s.dg (s.op + 1) s.cd s.vl s.c)).2.ax = (aRow n tx (aRow n tx (aF n tx r) 38 1) 124 2 (s.ax + 1)).2.1 := b2
        have b3 : AS s (tRow n tx (tRow n tx (tF n tx r) 38 1) 124 2 (TSm (s.ax + 1) s.dg (s.op + 1) s.cd s.vl s.c)).2 (aRow n tx (aRow n tx (aF n tx r) 38 1) 124 2 (s.ax + 1)).2.2 := AS_eq b3 rfl rfl
        generalize (tRow n tx (tRow n tx (tF n tx r) 38 1) 124 2 (TSm (s.ax + 1) s.dg (s.op + 1) s.cd s.vl s.c)) = q at b1 b2 b3 ⊢
        generalize (aRow n tx (aRow n tx (aF n tx r) 38 1) 124 2 (s.ax + 1)) = b at b1 b2 b3 ⊢
        show AR s (if q.1 = true then _ else _) _
        by_cases hb : b.1 = true
        · rw [if_pos hb, if_pos (b1.trans hb), tIs_a, b2]
          by_cases hc : aIs n tx 41 b.2.1 = true
          · rw [if_pos hc, if_pos hc]; exact ⟨rfl, rfl, b3⟩
          · rw [if_neg hc, if_neg hc]; exact ⟨rfl, b2, b3⟩
        · rw [if_neg hb, if_neg (fun z => hb (b1.symm.trans z))]; exact ⟨rfl, b2, b3⟩
      · rw [if_neg hi2, if_neg hi2, if_neg Bool.false_ne_true]; exact tTest_a s
def aEx (n : Nat) (tx : Nat → Nat) (p : Nat) : Bool × Nat × List Nat := aRow n tx (aRow n tx (aF n tx 4) 38 1) 124 2 p
theorem tEx_a {n : Nat} {tx : Nat → Nat} (s : TS) (h1 : s.ax ≤ n) (h2 : s.op = 0) : AR s (tEx n tx s) (aEx n tx s.ax) :=
  tRow_a (o := 4) (fun s hs => tRow_g (fun s hs => tF_g 4 s hs) s hs) (fun s hs ho => tRow_a (o := 4) (fun s hs => tF_g 4 s hs) (fun s hs ho => tF_a 4 s hs ho) s hs ho) s h1 (by omega)
