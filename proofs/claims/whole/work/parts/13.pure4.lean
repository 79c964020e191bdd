/-! RESCUE, PAYMENTS, RINGS: what the loops compute -/
def resc (n : Nat) (pu de : Nat → Int32) : Nat → Option Nat
  | 0 => none
  | k + 1 => match resc n pu de k with
    | none => if sv n pu de k = true then some k else none
    | some f => if popc k < popc f ∧ sv n pu de k = true then some k else some f
def rs : Option Nat → Int32
  | none => -1
  | some f => nI f
theorem rs_none {o : Option Nat} (hf : ∀ z : Nat, o = some z → z < 64) (h : rs o = -1) : o = none := by
  cases o with
  | none => rfl
  | some f =>
    have h1 := congrArg Int32.toInt (show nI f = -1 from h)
    rw [nI_toInt (by have := hf f rfl; omega)] at h1
    have h2 : (-1 : Int32).toInt = -1 := by decide
    omega
theorem rs_some {o : Option Nat} (h : ¬ rs o = -1) : ∃ f, o = some f := by
  cases o with
  | none => exact absurd rfl h
  | some f => exact ⟨f, rfl⟩
theorem popc_le (S : Nat) : popc S ≤ 6 := by
  unfold popc
  have := b_lt (S >>> 0); have := b_lt (S >>> 1); have := b_lt (S >>> 2); have := b_lt (S >>> 3); have := b_lt (S >>> 4); have := b_lt (S >>> 5)
  omega
theorem shl_pos (k : Nat) : 1 ≤ 1 <<< k := by rw [Nat.shiftLeft_eq, Nat.one_mul]; exact Nat.one_le_two_pow
def lowb (S : Nat) : Nat := S &&& (64 - S)
theorem lowb_all : ∀ S : Fin 64, nI S.val &&& -(nI S.val) = nI (lowb S.val) := by decide +kernel
theorem lowb_eq (S : Nat) (h : S < 64) : nI S &&& -(nI S) = nI (lowb S) := lowb_all ⟨S, h⟩
theorem and_not_all : ∀ A : Fin 64, ∀ B : Fin 64, nI A.val &&& (nI B.val ^^^ (-1)) = nI (A.val &&& (63 ^^^ B.val)) := by decide +kernel
theorem and_not (A B : Nat) (h : A < 64) (h2 : B < 64) : nI A &&& (nI B ^^^ (-1)) = nI (A &&& (63 ^^^ B)) := and_not_all ⟨A, h⟩ ⟨B, h2⟩
theorem and_lt64 {a b : Nat} (h : a < 64) : a &&& b < 64 := Nat.lt_of_le_of_lt Nat.and_le_left h
theorem and_lt31 {a b : Nat} (h : a < 64) : a &&& b < 2 ^ 31 := Nat.lt_of_le_of_lt Nat.and_le_left (by omega)
def pb (n : Nat) (de : Nat → Int32) (old : Nat → Int32) (S : Nat) : Nat → Int32
  | 0 => -99
  | o + 1 => if (o + 1) &&& (63 ^^^ S) = 0 ∧ ¬ (o + 1) &&& lowb S = 0 ∧ bsum n de (o + 1) n = 0 then (if pb n de old S o < upd old S (pb n de old S o) (S &&& (63 ^^^ (o + 1))) + nI 1 then upd old S (pb n de old S o) (S &&& (63 ^^^ (o + 1))) + nI 1 else pb n de old S o) else pb n de old S o
def ptab (n : Nat) (de t : Nat → Int32) : Nat → (Nat → Int32)
  | 0 => upd t 0 (nI 0)
  | s + 1 => upd (ptab n de t s) (s + 1) (pb n de (ptab n de t s) (s + 1) (s + 1))
def foldN (g : Nat → Int32 → Int32) (b : Int32) : Nat → Int32
  | 0 => b
  | k + 1 => g k (foldN g b k)
def rbase (de : Nat → Int32) (w p m : Nat) : Int32 := if 1 < m ∧ 0 < de (6 * p + w) then nI m else nI 0
def rf (n : Nat) (de : Nat → Int32) (w : Nat) : Nat → Nat → Nat → Nat → Int32
  | 0, p, _, m => rbase de w p m
  | f + 1, p, S, m => foldN (fun k acc => if S >>> (w + 1 + k) &&& 1 = 0 ∧ 0 < de (6 * p + (w + 1 + k)) then (if acc < rf n de w f (w + 1 + k) (S ||| 1 <<< (w + 1 + k)) (m + 1) then rf n de w f (w + 1 + k) (S ||| 1 <<< (w + 1 + k)) (m + 1) else acc) else acc) (rbase de w p m) (n - (w + 1))
def rstep (n : Nat) (de : Nat → Int32) (w f p S m : Nat) (k : Nat) (acc : Int32) : Int32 := if S >>> (w + 1 + k) &&& 1 = 0 ∧ 0 < de (6 * p + (w + 1 + k)) then (if acc < rf n de w f (w + 1 + k) (S ||| 1 <<< (w + 1 + k)) (m + 1) then rf n de w f (w + 1 + k) (S ||| 1 <<< (w + 1 + k)) (m + 1) else acc) else acc
theorem rstep_t {n : Nat} {de : Nat → Int32} {w f p S m k : Nat} {acc : Int32} (h1 : S >>> (w + 1 + k) &&& 1 = 0) (h2 : ¬ de (6 * p + (w + 1 + k)) ≤ 0) : rstep n de w f p S m k acc = (if acc < rf n de w f (w + 1 + k) (S ||| 1 <<< (w + 1 + k)) (m + 1) then rf n de w f (w + 1 + k) (S ||| 1 <<< (w + 1 + k)) (m + 1) else acc) := if_pos ⟨h1, Int32.not_le.mp h2⟩
theorem rstep_b {n : Nat} {de : Nat → Int32} {w f p S m k : Nat} {acc : Int32} (h1 : ¬ S >>> (w + 1 + k) &&& 1 = 0) : rstep n de w f p S m k acc = acc := if_neg (fun z => h1 z.1)
theorem rstep_d {n : Nat} {de : Nat → Int32} {w f p S m k : Nat} {acc : Int32} (h2 : de (6 * p + (w + 1 + k)) ≤ 0) : rstep n de w f p S m k acc = acc := if_neg (fun z => absurd z.2 (Int32.not_lt.mpr h2))
theorem rf_end {n : Nat} {de : Nat → Int32} {w f p S m k : Nat} (h : n ≤ w + 1 + k) (hk : w + 1 + k ≤ n ∨ k = 0) : foldN (rstep n de w f p S m) (rbase de w p m) k = rf n de w (f + 1) p S m := by
  have : k = n - (w + 1) := by omega
  rw [this]; rfl
theorem pb_t {n : Nat} {de old : Nat → Int32} {S o : Nat} (h1 : (o + 1) &&& (63 ^^^ S) = 0) (h2 : ¬ (o + 1) &&& lowb S = 0) (h3 : bsum n de (o + 1) n = 0) : pb n de old S (o + 1) = (if pb n de old S o < upd old S (pb n de old S o) (S &&& (63 ^^^ (o + 1))) + nI 1 then upd old S (pb n de old S o) (S &&& (63 ^^^ (o + 1))) + nI 1 else pb n de old S o) := by
  rw [pb, if_pos ⟨h1, h2, h3⟩]
