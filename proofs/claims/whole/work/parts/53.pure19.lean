/-! THE CLASS' MARKET, as numbers -/
def seqA (f g : Nat → Int32) (k : Nat) : Nat → Int32 := fun i => if i < k then f i else g i
theorem seqA_0 (f g : Nat → Int32) : seqA f g 0 = g := by funext i; exact if_neg (Nat.not_lt_zero _)
theorem seqA_s (f g : Nat → Int32) (k : Nat) : seqA f g (k + 1) = upd (seqA f g k) k (f k) := by
  funext i; unfold seqA
  by_cases h : i = k
  · subst h; rw [pk_us, if_pos (Nat.lt_succ_self _)]
  · rw [pk_un h]
    by_cases h2 : i < k
    · rw [if_pos h2, if_pos (by omega)]
    · rw [if_neg h2, if_neg (by omega)]
theorem seqA_at {f g : Nat → Int32} {k i : Nat} (h : i < k) : seqA f g k i = f i := if_pos h
def fsK (g : Nat → Int32) (F : Nat → Nat → Int32) : Nat → (Nat → Int32)
  | 0 => g
  | k + 1 => F k
def cu (f : Nat → Int32) (s : Int32) : Nat → Nat
  | 0 => 0
  | k + 1 => if f k = s then cu f s k + 1 else cu f s k
theorem cu_le (f : Nat → Int32) (s : Int32) : ∀ k, cu f s k ≤ k := by
  intro k
  induction k with
  | zero => exact Nat.le_refl _
  | succ k ih => simp only [cu]; split <;> omega
/-- the first of m rows from m - k on that is s -/
def lfF (f : Nat → Int32) (s : Int32) (m : Nat) : Nat → Int32
  | 0 => -5
  | k + 1 => if f (m - (k + 1)) = s then nI (m - (k + 1)) else lfF f s m k
theorem lfF_s {f : Nat → Int32} {s : Int32} {m i : Nat} (h : i < m) : lfF f s m (m - i) = if f i = s then nI i else lfF f s m (m - (i + 1)) := by
  rw [show m - i = (m - (i + 1)) + 1 by omega, lfF, show m - (m - (i + 1) + 1) = i by omega]
def csp (f : Nat → Int32) : Nat → Nat
  | 0 => 0
  | k + 1 => if ¬ f k = nI 0 ∧ lfF f (f k) 100 100 = nI k then csp f k + 1 else csp f k
theorem csp_le (f : Nat → Int32) : ∀ k, csp f k ≤ k := by
  intro k
  induction k with
  | zero => exact Nat.le_refl _
  | succ k ih => simp only [csp]; split <;> omega
def soC (x : EX) (kd rw : Nat → Int32) (d : Nat) (f : Nat → Int32) (i : Nat) (v : Int32) : Bool := decide (rdV x (cn (f (5 * i + 0))) (cn (f (5 * i + 1))) (kd (cn (f (5 * i + 0)))) v rw (cn (f (5 * i + 2))) (d + cn (f (5 * i + 3))) = f (5 * i + 4))
def seenOk (f : Nat → Int32) (m : Nat) : Prop := m ≤ 5 ∧ ∀ i, i < m → ∃ P R S0 D0 : Nat, P < 6 ∧ R < 6 ∧ S0 ≤ 99 ∧ D0 ≤ 20 ∧ f (5 * i + 0) = nI P ∧ f (5 * i + 1) = nI R ∧ f (5 * i + 2) = nI S0 ∧ f (5 * i + 3) = nI D0
def col (f : Nat → Int32) (c : Nat) : Nat → Int32 := fun i => f (5 * i + c)
