/-! TESTS AND THEIR ROWS: tokens 0 not, 1 and, 2 or, else 3 + 300 letter + 100 sign + number -/
def letV (p q : Nat) (kd v : Int32) (s d l : Nat) : Int32 := if l = 0 then nI p else if l = 1 then nI q else if l = 2 then kd else if l = 3 then v else if l = 4 then nI (s / 10) else nI (d % 10)
def tvF (p q : Nat) (kd v : Int32) (s d c : Nat) : Bool := if (c - 3) / 100 % 3 = 0 then decide (letV p q kd v s d ((c - 3) / 300) < nI ((c - 3) % 100)) else if (c - 3) / 100 % 3 = 1 then decide (letV p q kd v s d ((c - 3) / 300) = nI ((c - 3) % 100)) else decide (nI ((c - 3) % 100) < letV p q kd v s d ((c - 3) / 300))
/-- how many wait before token j -/
def dp (tk : Nat → Nat) : Nat → Nat
  | 0 => 0
  | j + 1 => if 3 ≤ tk j then dp tk j + 1 else if tk j = 0 then dp tk j else dp tk j - 1
def updB (f : Nat → Bool) (k : Nat) (x : Bool) : Nat → Bool := fun i => if i = k then x else f i
def evS (tv : Nat → Bool) (tk : Nat → Nat) : Nat → (Nat → Bool)
  | 0 => fun _ => false
  | j + 1 => if 3 ≤ tk j then updB (evS tv tk j) (dp tk j) (tv (tk j)) else if tk j = 0 then updB (evS tv tk j) (dp tk j - 1) (!evS tv tk j (dp tk j - 1)) else updB (evS tv tk j) (dp tk j - 2) (if tk j = 1 then evS tv tk j (dp tk j - 2) && evS tv tk j (dp tk j - 1) else evS tv tk j (dp tk j - 2) || evS tv tk j (dp tk j - 1))
/-- a row of L tokens that leaves one answer -/
def okT (tk : Nat → Nat) (L : Nat) : Prop := (∀ j, j < L → tk j < 1803 ∧ dp tk j ≤ 20 ∧ (tk j = 0 → 1 ≤ dp tk j) ∧ (tk j = 1 ∨ tk j = 2 → 2 ≤ dp tk j)) ∧ dp tk L = 1
theorem updB_s (f : Nat → Bool) (k : Nat) (x : Bool) : updB f k x k = x := if_pos rfl
theorem updB_n {f : Nat → Bool} {k i : Nat} {x : Bool} (h : i ≠ k) : updB f k x i = f i := if_neg h
/-- the stack as an array holds what waits -/
def hold (st : Nat → Int32) (ev : Nat → Bool) (d : Nat) : Prop := ∀ k, k < d → st k = bI (ev k)
theorem hold_t {st : Nat → Int32} {tv : Nat → Bool} {tk : Nat → Nat} {j : Nat} (h : hold st (evS tv tk j) (dp tk j)) (h3 : 3 ≤ tk j) : hold (upd st (dp tk j) (bI (tv (tk j)))) (evS tv tk (j + 1)) (dp tk (j + 1)) := by
  intro k hk
  simp only [dp, evS, if_pos h3] at hk ⊢
  by_cases e : k = dp tk j
  · rw [e, pk_us, updB_s]
  · rw [pk_un e, updB_n e]; exact h k (by omega)
theorem hold_n {st : Nat → Int32} {tv : Nat → Bool} {tk : Nat → Nat} {j : Nat} (h : hold st (evS tv tk j) (dp tk j)) (h0 : tk j = 0) : hold (upd st (dp tk j - 1) (bI (!evS tv tk j (dp tk j - 1)))) (evS tv tk (j + 1)) (dp tk (j + 1)) := by
  intro k hk
  simp only [dp, evS, if_neg (show ¬ 3 ≤ tk j by omega), if_pos h0] at hk ⊢
  by_cases e : k = dp tk j - 1
  · rw [e, pk_us, updB_s]
  · rw [pk_un e, updB_n e]; exact h k hk
theorem hold_a {st : Nat → Int32} {tv : Nat → Bool} {tk : Nat → Nat} {j : Nat} (h : hold st (evS tv tk j) (dp tk j)) (h3 : tk j < 3) (h0 : ¬ tk j = 0) (h2 : 2 ≤ dp tk j) {b : Bool} (hb : b = if tk j = 1 then evS tv tk j (dp tk j - 2) && evS tv tk j (dp tk j - 1) else evS tv tk j (dp tk j - 2) || evS tv tk j (dp tk j - 1)) : hold (upd st (dp tk j - 2) (bI b)) (evS tv tk (j + 1)) (dp tk (j + 1)) := by
  intro k hk
  simp only [dp, evS, if_neg (show ¬ 3 ≤ tk j by omega), if_neg h0] at hk ⊢
  rw [← hb]
  by_cases e : k = dp tk j - 2
  · rw [e, pk_us, updB_s]
  · rw [pk_un e, updB_n e]; exact h k (by omega)
theorem dp_t {tk : Nat → Nat} {j : Nat} (h : 3 ≤ tk j) : dp tk (j + 1) = dp tk j + 1 := by simp only [dp, if_pos h]
theorem dp_n {tk : Nat → Nat} {j : Nat} (h : tk j = 0) : dp tk (j + 1) = dp tk j := by simp only [dp, if_neg (show ¬ 3 ≤ tk j by omega), if_pos h]
theorem dp_a {tk : Nat → Nat} {j : Nat} (h : tk j < 3) (h0 : ¬ tk j = 0) : dp tk (j + 1) = dp tk j - 1 := by simp only [dp, if_neg (show ¬ 3 ≤ tk j by omega), if_neg h0]
