/-! THE CALLS: what each answers and changes, as numbers -/
theorem upd_same {f : Nat → Int32} {k : Nat} {x : Int32} (h : f k = x) : upd f k x = f := by rw [← h]; exact upd_self
def ringA (n : Nat) (de : Nat → Int32) : Nat → Int32
  | 0 => 0
  | k + 1 => if ringA n de k < rf n de k 7 k (1 <<< k) 1 then rf n de k 7 k (1 <<< k) 1 else ringA n de k
def b_trader (n : Nat) (k v : Int32) : Bool := inR k (nI 0) (nI 6) && (inR v (nI 0) (nI 9) && !decide (n = 6))
def R_trader (n : Nat) (k v : Int32) : Int32 := if inR k (nI 0) (nI 6) = true then (if inR v (nI 0) (nI 9) = true then (if n = 6 then -4 else nI n) else -2) else -1
def b_owe (n : Nat) (p q x : Int32) : Bool := (isB n p && isB n q) && (!decide (p = q) && inR x (nI 0) (nI 9999))
def R_owe (n : Nat) (de : Nat → Int32) (p q x : Int32) : Int32 := if (isB n p && isB n q) = true then (if p = q then -2 else if inR x (nI 0) (nI 9999) = true then de (6 * cn p + cn q) else -2) else -1
def b_purse (n : Nat) (p x : Int32) : Bool := isB n p && inR x (nI 0) (nI 9999)
def R_purse (n : Nat) (pu : Nat → Int32) (p x : Int32) : Int32 := if isB n p = true then (if inR x (nI 0) (nI 9999) = true then pu (cn p) else -2) else -1
def b_row (n : Nat) (kd : Nat → Int32) (p k x : Int32) : Bool := isB n p && (inR k (nI 0) (nI 3) && (inR x (nI 0) (nI 9) && decide (kd (cn p) = nI 6)))
def R_row (n : Nat) (kd rw : Nat → Int32) (p k x : Int32) : Int32 := if isB n p = true then (if inR k (nI 0) (nI 3) = true then (if inR x (nI 0) (nI 9) = true then (if kd (cn p) = nI 6 then rw (4 * cn p + cn k) else -3) else -2) else -1) else -1
def b_feed (t : Nat) (x : Int32) : Bool := inR x (nI 0) (nI 127) && !decide (t = 100)
def R_feed (t : Nat) (x : Int32) : Int32 := if inR x (nI 0) (nI 127) = true then (if t = 100 then -4 else nI (t + 1)) else -2
def b_pass (d : Nat) (x : Int32) : Bool := inR x (nI 0) (nI 60) && decide (d + cn x ≤ 9999)
def R_pass (d : Nat) (x : Int32) : Int32 := if inR x (nI 0) (nI 60) = true then (if 9999 < d + cn x then -3 else nI (d + cn x)) else -2
def b_see (n m : Nat) (p q s x y : Int32) : Bool := !decide (p = -1) && ((isB n p && isB n q) && (!decide (p = q) && (inR s (nI 0) (nI 99) && (inR x (nI 0) (nI 20) && (inR y (nI 0) (nI 999) && !decide (m = 5))))))
def R_see (n m : Nat) (p q s x y : Int32) : Int32 := if p = -1 then nI 0 else if (isB n p && isB n q) = true then (if p = q then -2 else if inR s (nI 0) (nI 99) = true then (if inR x (nI 0) (nI 20) = true then (if inR y (nI 0) (nI 999) = true then (if m = 5 then -4 else nI (m + 1)) else -2) else -2) else -2) else -1
def N_see (n m : Nat) (p q s x y : Int32) : Nat := if p = -1 then 0 else if b_see n m p q s x y = true then m + 1 else m
def b_plan (n m : Nat) (w p : Int32) : Bool := !decide (w = -1) && (inR w (nI 0) (nI 3) && ((decide (cn w = 0) || isB n p) && !decide (m = 10)))
def R_plan (n m : Nat) (w p : Int32) : Int32 := if w = -1 then nI 0 else if inR w (nI 0) (nI 3) = true ∧ (cn w = 0 ∨ isB n p = true) then (if m = 10 then -4 else nI (m + 1)) else -1
def N_plan (n m : Nat) (w p : Int32) : Nat := if w = -1 then 0 else if b_plan n m w p = true then m + 1 else m
def b_book (n m : Nat) (p q x : Int32) : Bool := !decide (p = -1) && ((isB n p && isB n q) && (!decide (p = q) && (inR x (nI 0) (nI 9999) && !decide (m = 8))))
def R_book (n m : Nat) (p q x : Int32) : Int32 := if p = -1 then nI 0 else if (isB n p && isB n q) = true then (if p = q then -2 else if inR x (nI 0) (nI 9999) = true then (if m = 8 then -4 else nI (m + 1)) else -2) else -1
def N_book (n m : Nat) (p q x : Int32) : Nat := if p = -1 then 0 else if b_book n m p q x = true then m + 1 else m
theorem m1n {P : Nat} (h : P < 2 ^ 31 := by omega) : ¬ nI P = -1 := fun z => by
  have h1 := congrArg Int32.toInt z
  rw [nI_toInt h, show (-1 : Int32).toInt = -1 from by decide] at h1
  omega
