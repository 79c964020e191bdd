/-! the text of an exchange, as the model reads it -/
def TS : Type := Nat × Nat × Nat × Nat × Nat × (Nat → Int32)
def TS.ax (s : TS) : Nat := s.1
def TS.dg (s : TS) : Nat := s.2.1
def TS.op (s : TS) : Nat := s.2.2.1
def TS.cd (s : TS) : Nat := s.2.2.2.1
def TS.vl (s : TS) : Nat := s.2.2.2.2.1
def TS.c (s : TS) : Nat → Int32 := s.2.2.2.2.2
def TSm (ax dg op cd vl : Nat) (c : Nat → Int32) : TS := (ax, dg, op, cd, vl, c)
def tN (ν : Nat → Nat) (s : TS) : Nat → Nat := fun k => if k = 9 then s.ax else if k = 11 then s.dg else if k = 12 then s.op else if k = 21 then s.cd else ν k
def tS (σ : Nat → Nat → Int32) (tx : Nat → Nat) (s : TS) : Nat → Nat → Int32 := fun k => if k = 8 then (fun x => nI (tx x)) else if k = 10 then upd (σ 10) 0 (nI s.vl) else if k = 20 then s.c else σ k
def MT (X : Xn) (a ν : Nat → Nat) (σ : Nat → Nat → Int32) (τ : Nat → Int64) (tx : Nat → Nat) (s : TS) : va_W := MW X a (tN ν s) (tS σ tx s) τ
def tIs (n : Nat) (tx : Nat → Nat) (c : Nat) (s : TS) : Bool × TS := if s.ax = n then (false, s) else if tx s.ax = c then (true, (TSm (s.ax + 1) s.dg s.op s.cd s.vl s.c)) else (false, s)
def tDg (n : Nat) (tx : Nat → Nat) (s : TS) : Bool := decide (s.ax < n ∧ 48 ≤ tx s.ax ∧ tx s.ax ≤ 57)
def tNumL (n : Nat) (tx : Nat → Nat) : Nat → TS → TS
  | 0, s => s
  | f + 1, s => if tDg n tx s = true then tNumL n tx f (TSm (s.ax + 1) (s.dg + 1) s.op s.cd (10 * s.vl + tx s.ax - 48) s.c) else s
def tNum (n : Nat) (tx : Nat → Nat) (s : TS) : Bool × TS := (decide (0 < (tNumL n tx 2 (TSm s.ax 0 s.op s.cd 0 s.c)).dg), tNumL n tx 2 (TSm s.ax 0 s.op s.cd 0 s.c))
def tAll (n : Nat) (tx : Nat → Nat) : List Nat → TS → Bool × TS
  | [], s => (true, s)
  | c :: l, s => if (tIs n tx c s).1 = true then tAll n tx l (tIs n tx c s).2 else (false, (tIs n tx c s).2)
def tCode (t : Nat) (s : TS) : TS := (TSm s.ax s.dg s.op (s.cd + 1) s.vl (upd s.c s.cd (nI t)))
def litC (i : Nat) : List Nat := (litB.getD i []).map fun b => b.toUInt32.toNat
def tLet (l : List Nat) (c : Nat) : Option Nat := l.idxOf? c
def tTest (n : Nat) (tx : Nat → Nat) (s : TS) : Bool × TS :=
  if s.ax < n then
    match tLet (litC 6) (tx s.ax) with
    | none => (false, s)
    | some l =>
      if s.ax + 1 < n then
        match tLet (litC 7) (tx (s.ax + 1)) with
        | none => (false, (TSm (s.ax + 1) s.dg s.op s.cd s.vl s.c))
        | some g => if (tNum n tx (TSm (s.ax + 1 + 1) s.dg s.op s.cd s.vl s.c)).1 = true then (true, tCode (3 + 300 * l + 100 * g + (tNum n tx (TSm (s.ax + 1 + 1) s.dg s.op s.cd s.vl s.c)).2.vl) (tNum n tx (TSm (s.ax + 1 + 1) s.dg s.op s.cd s.vl s.c)).2) else (false, (tNum n tx (TSm (s.ax + 1 + 1) s.dg s.op s.cd s.vl s.c)).2)
      else (false, (TSm (s.ax + 1) s.dg s.op s.cd s.vl s.c))
  else (false, s)
def tOpen (n : Nat) (tx : Nat → Nat) (c : Nat) (s : TS) : Bool × TS := if s.op = 4 then (false, s) else if (tIs n tx c s).1 = true then (true, (TSm ((tIs n tx c s).2).ax ((tIs n tx c s).2).dg ((tIs n tx c s).2.op + 1) ((tIs n tx c s).2).cd ((tIs n tx c s).2).vl ((tIs n tx c s).2).c)) else (false, (tIs n tx c s).2)
def tLoop (n : Nat) (tx : Nat → Nat) (g : TS → Bool × TS) (c t : Nat) : Nat → TS → Bool × TS
  | 0, s => (false, s)
  | f + 1, s => if (tIs n tx c s).1 = true then (if (g (tIs n tx c s).2).1 = true then tLoop n tx g c t f (tCode t (g (tIs n tx c s).2).2) else (false, (g (tIs n tx c s).2).2)) else (true, (tIs n tx c s).2)
def tRow (n : Nat) (tx : Nat → Nat) (g : TS → Bool × TS) (c t : Nat) (s : TS) : Bool × TS := if (g s).1 = true then tLoop n tx g c t 101 (g s).2 else (false, (g s).2)
def tF (n : Nat) (tx : Nat → Nat) : Nat → TS → Bool × TS
  | 0, s => tTest n tx s
  | r + 1, s =>
    if (tOpen n tx 33 s).1 = true then
      (if (tF n tx r (tOpen n tx 33 s).2).1 = true then (true, (TSm (tCode 0 (tF n tx r (tOpen n tx 33 s).2).2).ax (tCode 0 (tF n tx r (tOpen n tx 33 s).2).2).dg ((tCode 0 (tF n tx r (tOpen n tx 33 s).2).2).op - 1) (tCode 0 (tF n tx r (tOpen n tx 33 s).2).2).cd (tCode 0 (tF n tx r (tOpen n tx 33 s).2).2).vl (tCode 0 (tF n tx r (tOpen n tx 33 s).2).2).c)) else (false, (TSm ((tF n tx r (tOpen n tx 33 s).2).2).ax ((tF n tx r (tOpen n tx 33 s).2).2).dg ((tF n tx r (tOpen n tx 33 s).2).2.op - 1) ((tF n tx r (tOpen n tx 33 s).2).2).cd ((tF n tx r (tOpen n tx 33 s).2).2).vl ((tF n tx r (tOpen n tx 33 s).2).2).c)))
    else if (tOpen n tx 40 s).1 = true then
      (if (tRow n tx (tRow n tx (tF n tx r) 38 1) 124 2 (tOpen n tx 40 s).2).1 = true then
        ((tIs n tx 41 (tRow n tx (tRow n tx (tF n tx r) 38 1) 124 2 (tOpen n tx 40 s).2).2).1, (TSm ((tIs n tx 41 (tRow n tx (tRow n tx (tF n tx r) 38 1) 124 2 (tOpen n tx 40 s).2).2).2).ax ((tIs n tx 41 (tRow n tx (tRow n tx (tF n tx r) 38 1) 124 2 (tOpen n tx 40 s).2).2).2).dg ((tIs n tx 41 (tRow n tx (tRow n tx (tF n tx r) 38 1) 124 2 (tOpen n tx 40 s).2).2).2.op - 1) ((tIs n tx 41 (tRow n tx (tRow n tx (tF n tx r) 38 1) 124 2 (tOpen n tx 40 s).2).2).2).cd ((tIs n tx 41 (tRow n tx (tRow n tx (tF n tx r) 38 1) 124 2 (tOpen n tx 40 s).2).2).2).vl ((tIs n tx 41 (tRow n tx (tRow n tx (tF n tx r) 38 1) 124 2 (tOpen n tx 40 s).2).2).2).c))
      else (false, (TSm ((tRow n tx (tRow n tx (tF n tx r) 38 1) 124 2 (tOpen n tx 40 s).2).2).ax ((tRow n tx (tRow n tx (tF n tx r) 38 1) 124 2 (tOpen n tx 40 s).2).2).dg ((tRow n tx (tRow n tx (tF n tx r) 38 1) 124 2 (tOpen n tx 40 s).2).2.op - 1) ((tRow n tx (tRow n tx (tF n tx r) 38 1) 124 2 (tOpen n tx 40 s).2).2).cd ((tRow n tx (tRow n tx (tF n tx r) 38 1) 124 2 (tOpen n tx 40 s).2).2).vl ((tRow n tx (tRow n tx (tF n tx r) 38 1) 124 2 (tOpen n tx 40 s).2).2).c)))
    else tTest n tx s
/-- the reading goes on, and codes no more than it reads -/
def tG (n : Nat) (s s' : TS) : Prop := s.ax ≤ s'.ax ∧ (s.ax ≤ n → s'.ax ≤ n) ∧ s'.cd + s.ax ≤ s.cd + s'.ax ∧ s'.op = s.op
theorem tG_refl (n : Nat) (s : TS) : tG n s s := ⟨Nat.le_refl _, id, Nat.le_refl _, rfl⟩
theorem tG_trans {n : Nat} {s t u : TS} (h : tG n s t) (h2 : tG n t u) : tG n s u := ⟨Nat.le_trans h.1 h2.1, fun q => h2.2.1 (h.2.1 q), by have := h.2.2.1; have := h2.2.2.1; omega, h2.2.2.2.trans h.2.2.2⟩
theorem tIs_f {n c : Nat} {tx : Nat → Nat} {s : TS} (h : (tIs n tx c s).1 = false) : (tIs n tx c s).2 = s := by
  unfold tIs at h ⊢; split
  · rfl
  · split
    · rename_i h1 h2; rw [if_neg h1, if_pos h2] at h; cases h
    · rfl
theorem tIs_t {n c : Nat} {tx : Nat → Nat} {s : TS} (h : (tIs n tx c s).1 = true) : (tIs n tx c s).2 = (TSm (s.ax + 1) s.dg s.op s.cd s.vl s.c) ∧ s.ax ≠ n ∧ tx s.ax = c := by
  unfold tIs at h ⊢
  by_cases h1 : s.ax = n
  · rw [if_pos h1] at h; cases h
  · by_cases h2 : tx s.ax = c
    · rw [if_neg h1, if_pos h2]; exact ⟨rfl, h1, h2⟩
    · rw [if_neg h1, if_neg h2] at h; cases h
theorem tIs_g {n c : Nat} {tx : Nat → Nat} {s : TS} (hs : s.ax ≤ n) : tG n s (tIs n tx c s).2 := by
  cases h : (tIs n tx c s).1
  · rw [tIs_f h]; exact tG_refl n s
  · rw [(tIs_t h).1]; have := (tIs_t h).2.1; exact ⟨Nat.le_succ _, fun _ => by show s.ax + 1 ≤ n; omega, by show s.cd + s.ax ≤ s.cd + (s.ax + 1); omega, rfl⟩
theorem tNumL_g {n : Nat} {tx : Nat → Nat} : ∀ (f : Nat) (s : TS), tG n s (tNumL n tx f s) ∧ (tNumL n tx f s).cd = s.cd ∧ (tNumL n tx f s).c = s.c ∧ (tNumL n tx f s).dg + s.ax = s.dg + (tNumL n tx f s).ax
  | 0, s => ⟨tG_refl n s, rfl, rfl, rfl⟩
  | f + 1, s => by
    unfold tNumL; split
    · rename_i h
      have hd : s.ax < n := (of_decide_eq_true h).1
      obtain ⟨h1, h2, h3, h4⟩ := tNumL_g f (TSm (s.ax + 1) (s.dg + 1) s.op s.cd (10 * s.vl + tx s.ax - 48) s.c)
      have h0 : tG n s (TSm (s.ax + 1) (s.dg + 1) s.op s.cd (10 * s.vl + tx s.ax - 48) s.c) := ⟨Nat.le_succ _, fun _ => hd, by show s.cd + s.ax ≤ s.cd + (s.ax + 1); omega, rfl⟩
      refine ⟨tG_trans h0 h1, h2, h3, ?_⟩
      · have h5 : (tNumL n tx f (TSm (s.ax + 1) (s.dg + 1) s.op s.cd (10 * s.vl + tx s.ax - 48) s.c)).dg + (s.ax + 1) = s.dg + 1 + (tNumL n tx f (TSm (s.ax + 1) (s.dg + 1) s.op s.cd (10 * s.vl + tx s.ax - 48) s.c)).ax := h4
        omega
    · exact ⟨tG_refl n s, rfl, rfl, rfl⟩
theorem tNum_g {n : Nat} {tx : Nat → Nat} (s : TS) : tG n s (tNum n tx s).2 ∧ (tNum n tx s).2.cd = s.cd ∧ (tNum n tx s).2.c = s.c ∧ ((tNum n tx s).1 = true → s.ax < (tNum n tx s).2.ax) := by
  obtain ⟨h1, h2, h3, h4⟩ := tNumL_g (n := n) (tx := tx) 2 (TSm s.ax 0 s.op s.cd 0 s.c)
  refine ⟨h1, h2, h3, fun h => ?_⟩
  have h5 : 0 < (tNumL n tx 2 (TSm s.ax 0 s.op s.cd 0 s.c)).dg := of_decide_eq_true h
  have h6 : (tNumL n tx 2 (TSm s.ax 0 s.op s.cd 0 s.c)).dg + s.ax = 0 + (tNumL n tx 2 (TSm s.ax 0 s.op s.cd 0 s.c)).ax := h4
  show s.ax < (tNumL n tx 2 (TSm s.ax 0 s.op s.cd 0 s.c)).ax
  omega
theorem tNumL_v {n : Nat} {tx : Nat → Nat} (s : TS) (h : s.vl = 0) : (tNumL n tx 2 s).vl ≤ 99 := by
  unfold tNumL; split
  · rename_i h1; have hd := of_decide_eq_true h1
    unfold tNumL; split
    · rename_i h2; have hd2 := of_decide_eq_true h2
      show 10 * (10 * s.vl + tx s.ax - 48) + tx (s.ax + 1) - 48 ≤ 99
      have : tx (s.ax + 1) ≤ 57 := hd2.2.2
      have := hd.2; omega
    · show 10 * s.vl + tx s.ax - 48 ≤ 99; have := hd.2; omega
  · omega
theorem tNum_v {n : Nat} {tx : Nat → Nat} (s : TS) : (tNum n tx s).2.vl ≤ 99 := tNumL_v _ rfl
theorem tCode_g {n t : Nat} {s s2 : TS} (h : tG n s s2) (h2 : s.ax < s2.ax) (h3 : s2.cd + s.ax + 1 ≤ s.cd + s2.ax) : tG n s (tCode t s2) := ⟨h.1, h.2.1, by show s2.cd + 1 + s.ax ≤ s.cd + s2.ax; omega, h.2.2.2⟩
theorem tTest_g {n : Nat} {tx : Nat → Nat} (s : TS) : tG n s (tTest n tx s).2 := by
  unfold tTest; split
  · rename_i h1; split
    · exact tG_refl n s
    · split
      · rename_i h2
        have b1 : tG n s (TSm (s.ax + 1) s.dg s.op s.cd s.vl s.c) := ⟨Nat.le_succ _, fun _ => h1, by show s.cd + s.ax ≤ s.cd + (s.ax + 1); omega, rfl⟩
        split
        · exact b1
        · have b2 : tG n s (TSm (s.ax + 1 + 1) s.dg s.op s.cd s.vl s.c) := ⟨by show s.ax ≤ s.ax + 1 + 1; omega, fun _ => h2, by show s.cd + s.ax ≤ s.cd + (s.ax + 1 + 1); omega, rfl⟩
          have b3 := tNum_g (n := n) (tx := tx) (TSm (s.ax + 1 + 1) s.dg s.op s.cd s.vl s.c)
          split
          · rename_i h3
            have b4 : s.ax + 1 + 1 ≤ (tNum n tx (TSm (s.ax + 1 + 1) s.dg s.op s.cd s.vl s.c)).2.ax := b3.1.1
            have b5 : (tNum n tx (TSm (s.ax + 1 + 1) s.dg s.op s.cd s.vl s.c)).2.cd = s.cd := b3.2.1
            exact tCode_g (tG_trans b2 b3.1) (by omega) (by rw [b5]; omega)
          · exact tG_trans b2 b3.1
      · exact ⟨Nat.le_succ _, fun _ => h1, by show s.cd + s.ax ≤ s.cd + (s.ax + 1); omega, rfl⟩
  · exact tG_refl n s
theorem tLoop_g {n c t : Nat} {tx : Nat → Nat} {g : TS → Bool × TS} (hg : ∀ s, s.ax ≤ n → tG n s (g s).2) : ∀ (f : Nat) (s : TS), s.ax ≤ n → tG n s (tLoop n tx g c t f s).2
  | 0, s, _ => tG_refl n s
  | f + 1, s, h => by
    unfold tLoop; split
    · rename_i h1
      have a1 := tIs_g (c := c) (tx := tx) h
      have a2 := hg _ (a1.2.1 h)
      have a4 : (tIs n tx c s).2.cd + s.ax + 1 ≤ s.cd + (tIs n tx c s).2.ax ∧ s.ax < (tIs n tx c s).2.ax := by
        rw [(tIs_t h1).1]; exact ⟨by show s.cd + s.ax + 1 ≤ s.cd + (s.ax + 1); omega, by show s.ax < s.ax + 1; omega⟩
      split
      · have a5 : tG n s (tCode t (g (tIs n tx c s).2).2) := tCode_g (tG_trans a1 a2) (by have := a2.1; omega) (by have := a2.2.2.1; omega)
        exact tG_trans a5 (tLoop_g hg f _ (a5.2.1 h))
      · exact tG_trans a1 a2
    · exact tIs_g h
theorem tRow_g {n c t : Nat} {tx : Nat → Nat} {g : TS → Bool × TS} (hg : ∀ s, s.ax ≤ n → tG n s (g s).2) (s : TS) (h : s.ax ≤ n) : tG n s (tRow n tx g c t s).2 := by
  unfold tRow; split
  · exact tG_trans (hg s h) (tLoop_g hg 101 _ ((hg s h).2.1 h))
  · exact hg s h
theorem tOpen_t {n c : Nat} {tx : Nat → Nat} {s : TS} (h : (tOpen n tx c s).1 = true) : (tOpen n tx c s).2 = (TSm (s.ax + 1) s.dg (s.op + 1) s.cd s.vl s.c) ∧ s.ax ≠ n ∧ tx s.ax = c ∧ s.op ≠ 4 := by
  unfold tOpen at h ⊢
  by_cases h1 : s.op = 4
  · rw [if_pos h1] at h; cases h
  · by_cases h2 : (tIs n tx c s).1 = true
    · rw [if_neg h1, if_pos h2]; obtain ⟨e, e2, e3⟩ := tIs_t h2; rw [e]; exact ⟨rfl, e2, e3, h1⟩
    · rw [if_neg h1, if_neg h2] at h; cases h
theorem tOpen_f {n c : Nat} {tx : Nat → Nat} {s : TS} (h : ¬ (tOpen n tx c s).1 = true) : (tOpen n tx c s).2 = s := by
  unfold tOpen at h ⊢
  by_cases h1 : s.op = 4
  · rw [if_pos h1]
  · by_cases h2 : (tIs n tx c s).1 = true
    · rw [if_neg h1, if_pos h2] at h; exact absurd rfl h
    · rw [if_neg h1, if_neg h2]; exact tIs_f (Bool.eq_false_iff.mpr h2)
theorem tF_g {n : Nat} {tx : Nat → Nat} : ∀ (r : Nat) (s : TS), s.ax ≤ n → tG n s (tF n tx r s).2
  | 0, s, _ => tTest_g s
  | r + 1, s, h => by
    unfold tF; split
    · rename_i h1
      obtain ⟨e1, e2, e3, _⟩ := tOpen_t h1
      have a0 : (tOpen n tx 33 s).2.ax ≤ n := by rw [e1]; show s.ax + 1 ≤ n; omega
      have a1 := tF_g (n := n) (tx := tx) r _ a0
      have b1 := a1.1; have b2 := a1.2.1 a0; have b3 := a1.2.2.1; have b4 := a1.2.2.2
      have c1 : (tOpen n tx 33 s).2.ax = s.ax + 1 := by rw [e1]; rfl
      have c2 : (tOpen n tx 33 s).2.cd = s.cd := by rw [e1]; rfl
      have c3 : (tOpen n tx 33 s).2.op = s.op + 1 := by rw [e1]; rfl
      split
      · exact ⟨by show s.ax ≤ (tF n tx r (tOpen n tx 33 s).2).2.ax; omega, fun _ => b2, by show (tF n tx r (tOpen n tx 33 s).2).2.cd + 1 + s.ax ≤ s.cd + (tF n tx r (tOpen n tx 33 s).2).2.ax; omega, by show (tF n tx r (tOpen n tx 33 s).2).2.op - 1 = s.op; omega⟩
      · exact ⟨by show s.ax ≤ (tF n tx r (tOpen n tx 33 s).2).2.ax; omega, fun _ => b2, by show (tF n tx r (tOpen n tx 33 s).2).2.cd + s.ax ≤ s.cd + (tF n tx r (tOpen n tx 33 s).2).2.ax; omega, by show (tF n tx r (tOpen n tx 33 s).2).2.op - 1 = s.op; omega⟩
    · split
      · rename_i h1
        obtain ⟨e1, e2, e3, _⟩ := tOpen_t h1
        have a0 : (tOpen n tx 40 s).2.ax ≤ n := by rw [e1]; show s.ax + 1 ≤ n; omega
        have a1 := tRow_g (c := 124) (t := 2) (tx := tx) (g := tRow n tx (tF n tx r) 38 1) (fun s hs => tRow_g (fun s hs => tF_g r s hs) s hs) _ a0
        generalize (tRow n tx (tRow n tx (tF n tx r) 38 1) 124 2 (tOpen n tx 40 s).2) = q at a1 ⊢
        have b1 := a1.1; have b2 := a1.2.1 a0; have b3 := a1.2.2.1; have b4 := a1.2.2.2
        have c1 : (tOpen n tx 40 s).2.ax = s.ax + 1 := by rw [e1]; rfl
        have c2 : (tOpen n tx 40 s).2.cd = s.cd := by rw [e1]; rfl
        have c3 : (tOpen n tx 40 s).2.op = s.op + 1 := by rw [e1]; rfl
        split
        · obtain ⟨z1, z2, z3, z4⟩ := tIs_g (c := 41) (tx := tx) b2
          exact ⟨by show s.ax ≤ (tIs n tx 41 q.2).2.ax; omega, fun _ => z2 b2, by show (tIs n tx 41 q.2).2.cd + s.ax ≤ s.cd + (tIs n tx 41 q.2).2.ax; omega, by show (tIs n tx 41 q.2).2.op - 1 = s.op; omega⟩
        · exact ⟨by show s.ax ≤ q.2.ax; omega, fun _ => b2, by show q.2.cd + s.ax ≤ s.cd + q.2.ax; omega, by show q.2.op - 1 = s.op; omega⟩
      · exact tTest_g s
theorem ix6 : ∀ c : Fin 128, (∃ k, k < 6 ∧ tLet (litC 6) c.val = some k ∧ ixS 6 c.val = nI k ∧ c.val ≠ 0) ∨ (tLet (litC 6) c.val = none ∧ ixS 6 c.val = -1) := by
  have h : ∀ c : Fin 128, (∃ k : Fin 6, tLet (litC 6) c.val = some k.val ∧ ixS 6 c.val = nI k.val ∧ c.val ≠ 0) ∨ (tLet (litC 6) c.val = none ∧ ixS 6 c.val = -1) := by decide +kernel
  intro c; rcases h c with ⟨k, hk⟩ | hk
  · exact Or.inl ⟨k.val, k.isLt, hk⟩
  · exact Or.inr hk
theorem ix7 : ∀ c : Fin 128, (∃ k, k < 3 ∧ tLet (litC 7) c.val = some k ∧ ixS 7 c.val = nI k ∧ c.val ≠ 0) ∨ (tLet (litC 7) c.val = none ∧ ixS 7 c.val = -1) := by
  have h : ∀ c : Fin 128, (∃ k : Fin 3, tLet (litC 7) c.val = some k.val ∧ ixS 7 c.val = nI k.val ∧ c.val ≠ 0) ∨ (tLet (litC 7) c.val = none ∧ ixS 7 c.val = -1) := by decide +kernel
  intro c; rcases h c with ⟨k, hk⟩ | hk
  · exact Or.inl ⟨k.val, k.isLt, hk⟩
  · exact Or.inr hk
theorem ix0 : tLet (litC 6) 0 = none ∧ tLet (litC 7) 0 = none := by decide +kernel
theorem chN : ∀ i : Fin 8, ∀ k : Fin 6, k.val < litL.getD i.val 0 → chS i.val k.val = nI ((litC i.val).getD k.val 0) ∧ (litC i.val).getD k.val 0 < 128 := by decide +kernel
theorem litC_len : ∀ i : Fin 8, (litC i.val).length = litL.getD i.val 0 := by decide +kernel
theorem tAll_s {n : Nat} {tx : Nat → Nat} {l : List Nat} {k : Nat} {s : TS} (h : k < l.length) : tAll n tx (l.drop k) s = if (tIs n tx (l.getD k 0) s).1 = true then tAll n tx (l.drop (k + 1)) (tIs n tx (l.getD k 0) s).2 else (false, (tIs n tx (l.getD k 0) s).2) := by
  rw [List.drop_eq_getElem_cons h, tAll]
  rw [show l.getD k 0 = l[k] from by simp [h]]
theorem zR {X : Xn} {a ν : Nat → Nat} {σ : Nat → Nat → Int32} {τ : Nat → Int64} {tx : Nat → Nat} {q : Bool × TS} {b : Bool} {st : TS} {v : Option Value} (h : q = (b, st)) (hv : v = some (.int (bI b))) : v = some (.int (bI q.1)) ∧ MT X a ν σ τ tx st = MT X a ν σ τ tx q.2 := by
  rw [h]; exact ⟨hv, rfl⟩
theorem nI_sub {x y : Nat} (h : y ≤ x) : nI x - nI y = nI (x - y) := by
  obtain ⟨z, rfl⟩ := Nat.exists_eq_add_of_le h
  rw [Nat.add_sub_cancel_left, ← nI_add]; grind
