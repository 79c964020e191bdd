/-! TAPES AND ACTS -/
theorem isB_tG {n : Nat} {p : Int32} (hn : n < 2 ^ 30) (h : isB n p = true) : ∃ P : Nat, P < n ∧ p = nI P := by
  simp only [isB, inR, Bool.and_eq_true, decide_eq_true_eq] at h
  rcases pk_ix p (n := n) (by omega) with h1 | h1 | h1
  · exact absurd h1 (Int32.not_lt.mpr h.1)
  · have a := Int32.le_iff_toInt_le.mp h1
    have b := Int32.le_iff_toInt_le.mp h.2
    rw [nI_toInt (by omega)] at a
    rw [nI_m1T (by omega)] at b
    omega
  · exact h1
def keptV (s : Int32) (v : Int64) : Int64 := if s = 0 then v.toInt32.toInt8.toInt32.toInt64 else if s = 1 then v.toInt32.toInt16.toInt32.toInt64 else if s = 2 then v.toInt32.toInt64 else if s = 3 then v else if v = 0 then 0 else 1
def b_tape (t s n : Int32) : Bool := inR t (nI 0) (nI 5) && (inR s (-1) (nI 4) && (decide (s < 0) || (decide (n ≤ nI 60) && decide (0 ≤ n))))
def R_tape (t s n : Int32) : Int32 := if inR t (nI 0) (nI 5) = true then (if inR s (-1) (nI 4) = true then (if s < 0 then nI 1 else if n ≤ nI 60 then (if 0 ≤ n then nI 1 else -14) else -2) else -2) else -1
def zeroL (τ : Nat → Int64) (b : Nat) : Nat → (Nat → Int64)
  | 0 => τ
  | k + 1 => vp_updL (zeroL τ b k) (b + k) 0
def b_item (so sz : Nat → Int32) (t i : Int32) : Bool := inR t (nI 0) (nI 5) && (decide (0 ≤ so (cn t)) && inR i (nI 0) (sz (cn t) - nI 1))
def R_item (so sz : Nat → Int32) (t i : Int32) : Int32 := if inR t (nI 0) (nI 5) = true then (if so (cn t) < 0 then -11 else if inR i (nI 0) (sz (cn t) - nI 1) = true then nI 1 else -13) else -1
def R_read (so sz : Nat → Int32) (τ : Nat → Int64) (t i : Int32) : Int64 := if b_item so sz t i = true then τ (60 * cn t + cn i) else (-9223372036854775808)
/-- a trace -/
abbrev Trc : Type := Nat × (Nat → Int32)
def rnT (s : Trc) (b : Nat) : Trc := (s.1 + 1, if s.1 < 20 then upd s.2 s.1 (nI b) else s.2)
theorem rn1 (s : Trc) (b : Nat) : (rnT s b).1 = s.1 + 1 := rfl
def abv (k : Nat) : Nat := if k = 4 then 1 else if k = 5 then 2 else if k = 6 then 3 else 0
def gr (p : Nat) (v : Int32) : Nat → Nat → Int32 → Trc → Int32 × Trc
  | 0, _, _, s => (0, s)
  | f + 1, k, x, s => if k = 2 then gr p v f 0 (x * nI 3) (rnT s 30) else if k = 4 then (-(gr p v f 1 x (rnT s 50)).1, (gr p v f 1 x (rnT s 50)).2) else if k = 6 then ((gr p v f 3 x (rnT s 71)).1 ^^^ v, (gr p v f 3 x (rnT s 71)).2) else if k = 0 then (x + nI p, rnT s 10) else gr p v f (abv k) x s
def le (p K : Nat) (v : Int32) : Nat → Nat → Int32 → Trc → Int32 × Trc
  | 0, _, _, s => (0, s)
  | f + 1, k, x, s => if k = 1 then ((le p K v f 0 x (rnT s 20)).1 ^^^ nI 6, (le p K v f 0 x (rnT s 20)).2) else if k = 4 then le p K v f 1 (x + nI 1) (rnT s 51) else if k = 6 then ((le p K v f 3 x (rnT s 70)).1 + (gr p v 7 3 (nI 2) (le p K v f 3 x (rnT s 70)).2).1, (gr p v 7 3 (nI 2) (le p K v f 3 x (rnT s 70)).2).2) else if k = 0 then ((gr p v 7 K x (rnT s 11)).1 - v, (gr p v 7 K x (rnT s 11)).2) else le p K v f (abv k) x s
def te (p K : Nat) (v : Int32) : Nat → Nat → Int32 → Trc → Int32 × Trc
  | 0, _, _, s => (0, s)
  | f + 1, k, x, s => if k = 3 then ((te p K v f 0 x (rnT s 40)).1 + (le p K v 7 K (nI 1) (te p K v f 0 x (rnT s 40)).2).1, (le p K v 7 K (nI 1) (te p K v f 0 x (rnT s 40)).2).2) else if k = 5 then te p K v f 2 (x - nI p) (rnT s 60) else if k = 0 then ((le p K v 7 K x (rnT s 12)).1 * nI 2, (le p K v 7 K x (rnT s 12)).2) else te p K v f (abv k) x s
theorem gr_cnt (p : Nat) (v : Int32) : ∀ (f k : Nat) (x : Int32) (s : Trc), (gr p v f k x s).2.1 ≤ s.1 + f := by
  intro f
  induction f with
  | zero => intro k x s; exact Nat.le_refl _
  | succ f ih =>
    intro k x s
    simp only [gr]
    have h1 := ih 0 (x * nI 3) (rnT s 30)
    have h2 := ih 1 x (rnT s 50)
    have h3 := ih 3 x (rnT s 71)
    have h4 := ih (abv k) x s
    simp only [rn1] at h1 h2 h3 h4 
    (repeat' split) <;> (try dsimp only) <;> (try rw [rn1]) <;> omega
theorem le_cnt (p K : Nat) (v : Int32) : ∀ (f k : Nat) (x : Int32) (s : Trc), (le p K v f k x s).2.1 ≤ s.1 + 16 * f := by
  intro f
  induction f with
  | zero => intro k x s; exact Nat.le_refl _
  | succ f ih =>
    intro k x s
    simp only [le]
    have h1 := ih 0 x (rnT s 20)
    have h2 := ih 1 (x + nI 1) (rnT s 51)
    have h3 := ih 3 x (rnT s 70)
    have h4 := ih (abv k) x s
    have h5 := gr_cnt p v 7 3 (nI 2) (le p K v f 3 x (rnT s 70)).2
    have h6 := gr_cnt p v 7 K x (rnT s 11)
    simp only [rn1] at h1 h2 h3 h4 h5 h6 
    (repeat' split) <;> (try dsimp only) <;> (try rw [rn1]) <;> omega
theorem te_cnt (p K : Nat) (v : Int32) : ∀ (f k : Nat) (x : Int32) (s : Trc), (te p K v f k x s).2.1 ≤ s.1 + 256 * f := by
  intro f
  induction f with
  | zero => intro k x s; exact Nat.le_refl _
  | succ f ih =>
    intro k x s
    simp only [te]
    have h1 := ih 0 x (rnT s 40)
    have h2 := ih 2 (x - nI p) (rnT s 60)
    have h4 := ih (abv k) x s
    have h5 := le_cnt p K v 7 K (nI 1) (te p K v f 0 x (rnT s 40)).2
    have h6 := le_cnt p K v 7 K x (rnT s 12)
    simp only [rn1] at h1 h2 h4 h5 h6 
    (repeat' split) <;> (try dsimp only) <;> (try rw [rn1]) <;> omega
theorem u1_u1 (ν : Nat → Nat) (k x y : Nat) : u1 (u1 ν k x) k y = u1 ν k y := by
  funext c; by_cases h : c = k
  · rw [h, u1_s, u1_s]
  · rw [u1_n h, u1_n h, u1_n h]
