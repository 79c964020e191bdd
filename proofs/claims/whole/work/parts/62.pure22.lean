/-! THE CLASS' SCRIBE: what is read, as positions and steps -/
def putS (c : Nat → Int32) (k : Nat) (l : List Nat) : Nat → Int32 := fun j => if k ≤ j ∧ j < k + l.length then stp (l.getD (j - k) 0) else c j
theorem putS_nil (c : Nat → Int32) (k : Nat) : putS c k [] = c := by
  funext j; unfold putS; rw [if_neg]; intro h; simp at h; omega
theorem putS_one (c : Nat → Int32) (k t : Nat) : upd c k (stp t) = putS c k [t] := by
  funext j; unfold putS
  by_cases h : j = k
  · subst h; rw [pk_us, if_pos ⟨Nat.le_refl _, Nat.lt_succ_self _⟩, Nat.sub_self]; rfl
  · rw [pk_un h, if_neg]; intro z; simp at z; omega
theorem putS_app (c : Nat → Int32) (k : Nat) (l m : List Nat) : putS (putS c k l) (k + l.length) m = putS c k (l ++ m) := by
  funext j; unfold putS; rw [List.length_append]
  by_cases h : k + l.length ≤ j ∧ j < k + l.length + m.length
  · rw [if_pos h, if_pos ⟨by omega, by omega⟩]
    rw [List.getD_eq_getElem?_getD, List.getD_eq_getElem?_getD, List.getElem?_append_right (by omega), show j - (k + l.length) = j - k - l.length by omega]
  · rw [if_neg h]
    by_cases h2 : k ≤ j ∧ j < k + l.length
    · rw [if_pos h2, if_pos ⟨by omega, by omega⟩, List.getD_eq_getElem?_getD, List.getD_eq_getElem?_getD, List.getElem?_append_left (by omega)]
    · rw [if_neg h2, if_neg (fun z => by omega)]
theorem putS_s (c : Nat → Int32) (k t : Nat) (l : List Nat) : upd (putS c k l) (k + l.length) (stp t) = putS c k (l ++ [t]) := by rw [putS_one, putS_app]
theorem putS_lo {c : Nat → Int32} {k j : Nat} {l : List Nat} (h : j < k) : putS c k l j = c j := by unfold putS; rw [if_neg (by omega)]
theorem putS_in {c : Nat → Int32} {k j : Nat} {l : List Nat} (h : j < l.length) : putS c k l (k + j) = stp (l.getD j 0) := by unfold putS; rw [if_pos ⟨by omega, by omega⟩, Nat.add_sub_cancel_left]
abbrev Rd : Type := Bool × Nat × List Nat
/-- a reading goes on and codes no more than it reads -/
def aG (n p : Nat) (b : Rd) : Prop := p ≤ b.2.1 ∧ b.2.1 ≤ n ∧ b.2.2.length + p ≤ b.2.1
theorem tG_aG {n p : Nat} {s : TS} {q : Bool × TS} {b : Rd} (h : AR s q b) (g : tG n s q.2) (hp : s.ax = p) (hn : p ≤ n) : aG n p b := by
  obtain ⟨_, h2, h3, _⟩ := h
  obtain ⟨g1, g2, g3, _⟩ := g
  have g2 := g2 (by omega)
  exact ⟨by omega, by omega, by omega⟩
theorem aF_g {n r p : Nat} {tx : Nat → Nat} (hr : r ≤ 4) (hp : p ≤ n) : aG n p (aF n tx r p) :=
  tG_aG (tF_a r (TSm p 0 (4 - r) 0 0 (fun _ => 0)) hp (by show 4 - r + r = 4; omega)) (tF_g r _ hp) rfl hp
theorem aRR_g {n r p : Nat} {tx : Nat → Nat} (hr : r ≤ 4) (hp : p ≤ n) : aG n p (aRow n tx (aRow n tx (aF n tx r) 38 1) 124 2 p) :=
  tG_aG (tRow_a (o := r) (fun s hs => tRow_g (fun s hs => tF_g r s hs) s hs) (fun s hs ho => tRow_a (o := r) (fun s hs => tF_g r s hs) (fun s hs ho => tF_a r s hs ho) s hs ho) (TSm p 0 (4 - r) 0 0 (fun _ => 0)) hp (by show 4 - r + r = 4; omega)) (tRow_g (fun s hs => tRow_g (fun s hs => tF_g r s hs) s hs) _ hp) rfl hp
theorem aIs_lt {n c p : Nat} {tx : Nat → Nat} (h : aIs n tx c p = true) (hp : p ≤ n) : p + 1 ≤ n := by
  have := (of_decide_eq_true h).1; omega
theorem aNum_g {n p : Nat} {tx : Nat → Nat} (hp : p ≤ n) : p ≤ (aNum n tx p).2.1 ∧ (aNum n tx p).2.1 ≤ n ∧ ((aNum n tx p).1 = true → p < (aNum n tx p).2.1) := by
  unfold aNum
  by_cases h : aDg n tx p = true
  · have h1 := (of_decide_eq_true h).1
    rw [if_pos h]
    by_cases h2 : aDg n tx (p + 1) = true
    · have h3 := (of_decide_eq_true h2).1
      rw [if_pos h2]; exact ⟨by dsimp only; omega, by dsimp only; omega, fun _ => by dsimp only; omega⟩
    · rw [if_neg h2]; exact ⟨by dsimp only; omega, by dsimp only; omega, fun _ => by dsimp only; omega⟩
  · rw [if_neg h]; exact ⟨Nat.le_refl _, hp, fun z => by cases z⟩
theorem aNum_v {n p : Nat} {tx : Nat → Nat} : (aNum n tx p).2.2 < 100 := by
  unfold aNum
  by_cases h : aDg n tx p = true
  · have h1 := (of_decide_eq_true h).2
    rw [if_pos h]
    by_cases h2 : aDg n tx (p + 1) = true
    · have h3 := (of_decide_eq_true h2).2
      rw [if_pos h2]; dsimp only; omega
    · rw [if_neg h2]; dsimp only; omega
  · rw [if_neg h]; exact Nat.zero_lt_succ _
theorem aTest_s {n p : Nat} {tx : Nat → Nat} (hp : p ≤ n) (h : (aTest n tx p).1 = true) : p < (aTest n tx p).2.1 := by
  unfold aTest at h ⊢
  by_cases h1 : p < n
  · simp only [if_pos h1] at h ⊢
    cases hl : tLet (litC 6) (tx p) with
    | none => rw [hl] at h; cases h
    | some l =>
      rw [hl] at h; dsimp only at h ⊢
      by_cases h2 : p + 1 < n
      · simp only [if_pos h2] at h ⊢
        cases hg : tLet (litC 7) (tx (p + 1)) with
        | none => rw [hg] at h; cases h
        | some g =>
          rw [hg] at h; dsimp only at h ⊢
          have := (aNum_g (n := n) (p := p + 1 + 1) (tx := tx) (by omega)).1
          by_cases h3 : (aNum n tx (p + 1 + 1)).1 = true
          · rw [if_pos h3]; dsimp only; omega
          · rw [if_neg h3] at h; cases h
      · simp only [if_neg h2] at h; cases h
  · simp only [if_neg h1] at h; cases h
theorem aF_s {n r p : Nat} {tx : Nat → Nat} (hr : r ≤ 4) (hp : p ≤ n) (h : (aF n tx r p).1 = true) : p < (aF n tx r p).2.1 := by
  cases r with
  | zero => exact aTest_s hp h
  | succ r =>
    rw [aF] at h ⊢
    by_cases h1 : aIs n tx 33 p = true
    · rw [if_pos h1] at h ⊢
      have g := (aF_g (n := n) (r := r) (p := p + 1) (tx := tx) (by omega) (aIs_lt h1 hp)).1
      by_cases h2 : (aF n tx r (p + 1)).1 = true
      · rw [if_pos h2]; dsimp only; omega
      · rw [if_neg h2] at h; cases h
    · rw [if_neg h1] at h ⊢
      by_cases h2 : aIs n tx 40 p = true
      · rw [if_pos h2] at h ⊢
        have g := (aRR_g (n := n) (r := r) (p := p + 1) (tx := tx) (by omega) (aIs_lt h2 hp)).1
        by_cases h3 : (aRow n tx (aRow n tx (aF n tx r) 38 1) 124 2 (p + 1)).1 = true
        · rw [if_pos h3] at h ⊢
          by_cases h4 : aIs n tx 41 (aRow n tx (aRow n tx (aF n tx r) 38 1) 124 2 (p + 1)).2.1 = true
          · rw [if_pos h4]; dsimp only; omega
          · rw [if_neg h4] at h; cases h
        · rw [if_neg h3] at h; cases h
      · rw [if_neg h2] at h ⊢; exact aTest_s hp h
/-- the class' loop over & and | -/
def cL (n : Nat) (tx : Nat → Nat) (g : Nat → Rd) : Nat → Bool → Nat → Rd
  | 0, _, p => (false, p, [])
  | f + 1, o, p =>
    if aIs n tx 38 p = true then
      (if (g (p + 1)).1 = true then ((cL n tx g f o (g (p + 1)).2.1).1, (cL n tx g f o (g (p + 1)).2.1).2.1, ((g (p + 1)).2.2 ++ [1]) ++ (cL n tx g f o (g (p + 1)).2.1).2.2) else (false, (g (p + 1)).2.1, []))
    else if aIs n tx 124 p = true then
      (if (g (p + 1)).1 = true then ((cL n tx g f true (g (p + 1)).2.1).1, (cL n tx g f true (g (p + 1)).2.1).2.1, ((if o = true then [2] else []) ++ (g (p + 1)).2.2) ++ (cL n tx g f true (g (p + 1)).2.1).2.2) else (false, (g (p + 1)).2.1, []))
    else (true, p, if o = true then [2] else [])
def cC (n : Nat) (tx : Nat → Nat) (g : Nat → Rd) (p : Nat) : Rd := if (g p).1 = true then ((cL n tx g 100 false (g p).2.1).1, (cL n tx g 100 false (g p).2.1).2.1, (g p).2.2 ++ (cL n tx g 100 false (g p).2.1).2.2) else (false, (g p).2.1, [])
/-- the same reading, its tokens if it went well -/
def same (b c : Rd) : Prop := b.1 = c.1 ∧ b.2.1 = c.2.1 ∧ (c.1 = true → b.2.2 = c.2.2)
/-- the rest: the row of & that is under way, then the row of | -/
def rest2 (n : Nat) (tx : Nat → Nat) (g : Nat → Rd) (o : Bool) (F1 F2 p : Nat) : Rd :=
  if (aLoop n tx g 38 1 F1 p).1 = true then ((aLoop n tx (aRow n tx g 38 1) 124 2 F2 (aLoop n tx g 38 1 F1 p).2.1).1, (aLoop n tx (aRow n tx g 38 1) 124 2 F2 (aLoop n tx g 38 1 F1 p).2.1).2.1, (aLoop n tx g 38 1 F1 p).2.2 ++ ((if o = true then [2] else []) ++ (aLoop n tx (aRow n tx g 38 1) 124 2 F2 (aLoop n tx g 38 1 F1 p).2.1).2.2))
  else (false, (aLoop n tx g 38 1 F1 p).2.1, [])
theorem cL_rest {n : Nat} {tx : Nat → Nat} {g : Nat → Rd} (hn : n ≤ 100) (hg : ∀ p, p ≤ n → p ≤ (g p).2.1 ∧ (g p).2.1 ≤ n) : ∀ (f : Nat) (o : Bool) (p F1 F2 : Nat), p ≤ n → n < p + f → n < p + F1 → n < p + F2 → same (cL n tx g f o p) (rest2 n tx g o F1 F2 p) := by
  intro f
  induction f with
  | zero => intro o p F1 F2 h1 h2; omega
  | succ f ih =>
    intro o p F1 F2 hp hf hF1 hF2
    obtain ⟨G1, rfl⟩ : ∃ G, F1 = G + 1 := ⟨F1 - 1, by omega⟩
    obtain ⟨G2, rfl⟩ : ∃ G, F2 = G + 1 := ⟨F2 - 1, by omega⟩
    rw [cL]; unfold rest2; rw [aLoop]
    by_cases h1 : aIs n tx 38 p = true
    · have hp1 := aIs_lt h1 hp
      obtain ⟨g1, g2⟩ := hg (p + 1) hp1
      rw [if_pos h1, if_pos h1]
      by_cases h2 : (g (p + 1)).1 = true
      · rw [if_pos h2, if_pos h2]
        obtain ⟨i1, i2, i3⟩ := ih o (g (p + 1)).2.1 G1 (G2 + 1) g2 (by omega) (by omega) (by omega)
        unfold rest2 at i1 i2 i3
        by_cases h3 : (aLoop n tx g 38 1 G1 (g (p + 1)).2.1).1 = true
        · rw [if_pos h3] at i1 i2 i3; rw [if_pos h3]
          refine ⟨i1, i2, fun z => ?_⟩
          dsimp only at i3 z ⊢
          rw [i3 z]; simp only [List.append_assoc]
        · rw [if_neg h3] at i1 i2 i3; rw [if_neg h3]
          exact ⟨i1, i2, fun z => by cases z⟩
      · rw [if_neg h2, if_neg h2, if_neg Bool.false_ne_true]; exact ⟨rfl, rfl, fun z => by cases z⟩
    · rw [if_neg h1, if_neg h1, if_pos rfl, aLoop]
      by_cases h2 : aIs n tx 124 p = true
      · have hp1 := aIs_lt h2 hp
        obtain ⟨g1, g2⟩ := hg (p + 1) hp1
        rw [if_pos h2, if_pos h2, aRow]
        by_cases h3 : (g (p + 1)).1 = true
        · rw [if_pos h3, if_pos h3]
          obtain ⟨i1, i2, i3⟩ := ih true (g (p + 1)).2.1 101 G2 g2 (by omega) (by omega) (by omega)
          unfold rest2 at i1 i2 i3
          by_cases h4 : (aLoop n tx g 38 1 101 (g (p + 1)).2.1).1 = true
          · rw [if_pos h4] at i1 i2 i3; rw [if_pos h4]
            refine ⟨i1, i2, fun z => ?_⟩
            dsimp only at i3 z ⊢
            rw [i3 z, if_pos rfl]
            simp only [List.append_assoc, List.nil_append, List.cons_append]
          · rw [if_neg h4] at i1 i2 i3; rw [if_neg h4]
            exact ⟨i1, i2, fun z => by cases z⟩
        · rw [if_neg h3, if_neg h3, if_neg Bool.false_ne_true]; exact ⟨rfl, rfl, fun z => by cases z⟩
      · rw [if_neg h2, if_neg h2]; exact ⟨rfl, rfl, fun _ => by simp⟩
theorem cC_row {n r p : Nat} {tx : Nat → Nat} (hn : n ≤ 100) (hr : r ≤ 4) (hp : p ≤ n) : same (cC n tx (aF n tx r) p) (aRow n tx (aRow n tx (aF n tx r) 38 1) 124 2 p) := by
  have hg : ∀ p, p ≤ n → p ≤ (aF n tx r p).2.1 ∧ (aF n tx r p).2.1 ≤ n := fun p hp => ⟨(aF_g hr hp).1, (aF_g hr hp).2.1⟩
  unfold cC
  rw [aRow]
  generalize hG : aF n tx r = g at hg ⊢
  rw [aRow]
  by_cases h1 : (g p).1 = true
  · have hs : p < (g p).2.1 := by rw [← hG] at h1 ⊢; exact aF_s hr hp h1
    rw [if_pos h1, if_pos h1]
    obtain ⟨i1, i2, i3⟩ := cL_rest (tx := tx) (g := g) hn hg 100 false (g p).2.1 101 101 (hg p hp).2 (by omega) (by omega) (by omega)
    unfold rest2 at i1 i2 i3
    by_cases h4 : (aLoop n tx g 38 1 101 (g p).2.1).1 = true
    · rw [if_pos h4] at i1 i2 i3; rw [if_pos h4]
      refine ⟨i1, i2, fun z => ?_⟩
      dsimp only at i3 z ⊢
      rw [i3 z, if_neg Bool.false_ne_true, List.nil_append, List.append_assoc]
    · rw [if_neg h4] at i1 i2 i3; rw [if_neg h4]
      exact ⟨i1, i2, fun z => by cases z⟩
  · rw [if_neg h1, if_neg h1, if_neg Bool.false_ne_true]; exact ⟨rfl, rfl, fun z => by cases z⟩
/-- the scribe under way: the place p, k steps told, the steps -/
def rdN (ν : Nat → Nat → Nat) (p k : Nat) : Nat → Nat → Nat := pu (pu ν 0 (u1 (ν 0) 5 p)) 2 (u1 (ν 2) 3 k)
