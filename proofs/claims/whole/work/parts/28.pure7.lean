/-! AN EXCHANGE: how many clauses; of each its word, number, how many tokens, tokens -/
abbrev EX : Type := Nat × (Nat → Nat) × (Nat → Nat) × (Nat → Nat) × (Nat → Nat → Nat)
def okX (x : EX) : Prop := x.1 ≤ 10 ∧ ∀ i, i < x.1 → x.2.1 i ≤ 2 ∧ x.2.2.1 i ≤ 99 ∧ (x.2.1 i < 2 → okT (x.2.2.2.2 i) (x.2.2.2.1 i))
def modX (σ : Nat → Nat → Int32) (e : Nat) (x : EX) : Prop := σ 15 e = nI x.1 ∧ ∀ i, i < x.1 → σ 16 (10 * e + i) = nI (x.2.1 i) ∧ σ 17 (10 * e + i) = nI (x.2.2.1 i) ∧ ∃ b : Nat, σ 18 (10 * e + i) = nI b ∧ σ 19 (10 * e + i) = nI (x.2.2.2.1 i) ∧ b + x.2.2.2.1 i ≤ 800 ∧ ∀ j, j < x.2.2.2.1 i → σ 20 (b + j) = nI (x.2.2.2.2 i j)
def heldX (σ : Nat → Nat → Int32) (x : EX) : Prop := okX x ∧ ((σ 14 0 = -1 ∧ x.1 = 0) ∨ ∃ e : Nat, e < 6 ∧ σ 14 0 = nI e ∧ modX σ e x)
def truth (x : EX) (p q : Nat) (kd v : Int32) (s d i : Nat) : Bool := evS (tvF p q kd v s d) (x.2.2.2.2 i) (x.2.2.2.1 i) 0
def fx (x : EX) (p q : Nat) (kd v : Int32) (s d : Nat) : Nat → Int32
  | 0 => nI s
  | i + 1 => if x.2.1 i < 2 ∧ truth x p q kd v s d i = true then fx x p q kd v s d i + (if x.2.1 i = 0 then nI (x.2.2.1 i) else -(nI (x.2.2.1 i))) else fx x p q kd v s d i
def bd (x : EX) : Nat → Nat
  | 0 => 5
  | i + 1 => if x.2.1 i = 2 then x.2.2.1 i else bd x i
def hearV (kd v f : Int32) (rw : Nat → Int32) (p d : Nat) : Int32 := if kd = 1 then f + nI 2 * v else if kd = 2 then f - f / nI 6 else if kd = 3 then f / nI 2 else if kd = 4 then (if d % 7 = 6 then nI 0 else f + nI 2 * v) else if kd = 5 then f - f / nI 6 - v else if kd = 6 then f / nI 2 + rw (4 * p + d % 4) else f
def rdV (x : EX) (p q : Nat) (kd v : Int32) (rw : Nat → Int32) (s d : Nat) : Int32 := if hearV kd v (fx x p q kd v s d x.1) rw p d < nI (bd x x.1) then nI 0 else hearV kd v (fx x p q kd v s d x.1) rw p d
theorem nI_m1n {e : Nat} (h : e < 2 ^ 31) : ¬ nI e = -1 := m1n h
theorem held_no {σ : Nat → Nat → Int32} {x : EX} (h : heldX σ x) (h1 : σ 14 0 = -1) : x.1 = 0 := by
  rcases h.2 with h2 | ⟨e, h2, h3, -⟩
  · exact h2.2
  · rw [h1] at h3; exact absurd h3.symm (m1n (by omega))
theorem held_yes {σ : Nat → Nat → Int32} {x : EX} (h : heldX σ x) (h1 : ¬ σ 14 0 = -1) : ∃ e : Nat, e < 6 ∧ σ 14 0 = nI e ∧ modX σ e x := by
  rcases h.2 with h2 | h2
  · exact absurd h2.1 h1
  · exact h2
