/-! THE CLASS' EXCHANGES: steps, what waits, force -/
def fF (p q : Nat) (kd v : Int32) (s d : Nat) : Nat → Int32 := fun i => if i = 0 then nI p else if i = 1 then nI q else if i = 2 then kd else if i = 3 then v else if i = 4 then nI s else nI d
def lc (l : Nat) : Nat := if l = 0 then 112 else if l = 1 then 113 else if l = 2 then 107 else if l = 3 then 118 else if l = 4 then 115 else 100
def tvL (p q : Nat) (kd v : Int32) (s d l g n : Nat) : Bool := if g = 0 then decide (letV p q kd v s d l < nI n) else if g = 1 then decide (letV p q kd v s d l = nI n) else decide (nI n < letV p q kd v s d l)
theorem tv_eq {p q : Nat} {kd v : Int32} {s d c : Nat} : tvF p q kd v s d c = tvL p q kd v s d ((c - 3) / 300) ((c - 3) / 100 % 3) ((c - 3) % 100) := rfl
def stN (c : Nat) : Nat := lc ((c - 3) / 300) * 16384 + ((60 + (c - 3) / 100 % 3) * 128 + (c - 3) % 100)
/-- the step that a token is -/
def stp (c : Nat) : Int32 := if c = 0 then -1 else if c = 1 then -2 else if c = 2 then -3 else nI (stN c)
theorem lcc_lt (l : Nat) : lc l < 128 := by unfold lc; (repeat' split) <;> omega
theorem stN_lt (c : Nat) : stN c < 2 ^ 30 := by
  unfold stN
  have := lcc_lt ((c - 3) / 300); have h2 : (c - 3) / 100 % 3 < 3 := Nat.mod_lt _ (by omega); have h3 : (c - 3) % 100 < 100 := Nat.mod_lt _ (by omega)
  omega
theorem mkn {P k : Nat} (h : P < 2 ^ 31) (hk : 0 < k) (hk2 : k < 2 ^ 30) : ¬ nI P = -(nI k) := fun z => by
  have h1 := congrArg Int32.toInt z
  rw [nI_toInt h, Int32.toInt_neg, nI_toInt (by omega), Int.bmod_eq_of_le (by omega) (by omega)] at h1
  omega
theorem stp_0 {c : Nat} (h : stp c = -1) : c = 0 := by
  unfold stp at h
  by_cases h0 : c = 0
  · exact h0
  · rw [if_neg h0] at h
    split at h
    · exact absurd h (by decide)
    · split at h
      · exact absurd h (by decide)
      · exact absurd h (m1n (by have := stN_lt c; omega))
theorem stp_1 {c : Nat} (h : stp c = -2) : c = 1 := by
  unfold stp at h
  by_cases h0 : c = 0
  · rw [if_pos h0] at h; exact absurd h (by decide)
  · rw [if_neg h0] at h
    split at h
    · assumption
    · split at h
      · exact absurd h (by decide)
      · exact absurd h (mkn (k := 2) (by have := stN_lt c; omega) (by decide) (by decide))
theorem stp_2 {c : Nat} (h : stp c = -3) : c = 2 := by
  unfold stp at h
  by_cases h0 : c = 0
  · rw [if_pos h0] at h; exact absurd h (by decide)
  · rw [if_neg h0] at h
    split at h
    · exact absurd h (by decide)
    · split at h
      · assumption
      · exact absurd h (mkn (k := 3) (by have := stN_lt c; omega) (by decide) (by decide))
theorem stp_3 {c : Nat} (h0 : ¬ stp c = -1) (h1 : ¬ stp c = -2) (h2 : ¬ stp c = -3) : 3 ≤ c ∧ stp c = nI (stN c) := by
  have a0 : ¬ c = 0 := fun z => h0 (by rw [z]; rfl)
  have a1 : ¬ c = 1 := fun z => h1 (by rw [z]; rfl)
  have a2 : ¬ c = 2 := fun z => h2 (by rw [z]; rfl)
  exact ⟨by omega, by unfold stp; rw [if_neg a0, if_neg a1, if_neg a2]⟩
theorem stN_l {c : Nat} (_hc : 3 ≤ c) : stN c >>> 14 = lc ((c - 3) / 300) := by
  rw [Nat.shiftRight_eq_div_pow]; unfold stN
  have h2 : (c - 3) / 100 % 3 < 3 := Nat.mod_lt _ (by omega); have h3 : (c - 3) % 100 < 100 := Nat.mod_lt _ (by omega)
  omega
theorem and127 (n : Nat) : n &&& 127 = n % 128 := Nat.and_two_pow_sub_one_eq_mod n 7
theorem stN_g {c : Nat} (_hc : 3 ≤ c) : stN c >>> 7 &&& 127 = 60 + (c - 3) / 100 % 3 := by
  rw [and127, Nat.shiftRight_eq_div_pow]; unfold stN
  have h2 : (c - 3) / 100 % 3 < 3 := Nat.mod_lt _ (by omega); have h3 : (c - 3) % 100 < 100 := Nat.mod_lt _ (by omega)
  omega
theorem stN_n {c : Nat} (_hc : 3 ≤ c) : stN c &&& 127 = (c - 3) % 100 := by
  rw [and127]; unfold stN
  have h2 : (c - 3) / 100 % 3 < 3 := Nat.mod_lt _ (by omega); have h3 : (c - 3) % 100 < 100 := Nat.mod_lt _ (by omega)
  omega
def bN (b : Bool) : Nat := if b then 1 else 0
theorem bN_lt (b : Bool) : bN b < 2 := by cases b <;> decide
/-- what waits, as the bits of one number: the newest lowest -/
def wN (ev : Nat → Bool) : Nat → Nat
  | 0 => 0
  | d + 1 => 2 * wN ev d + bN (ev d)
theorem wN_lt (ev : Nat → Bool) : ∀ d, wN ev d < 2 ^ d := by
  intro d
  induction d with
  | zero => exact Nat.one_pos
  | succ d ih => rw [wN, Nat.pow_succ]; have := bN_lt (ev d); omega
theorem wN_lt20 (ev : Nat → Bool) {d : Nat} (h : d ≤ 20) : wN ev d < 2 ^ 20 := Nat.lt_of_lt_of_le (wN_lt ev d) (Nat.pow_le_pow_right (by decide) h)
theorem wN_ext {ev ev2 : Nat → Bool} : ∀ d, (∀ k, k < d → ev k = ev2 k) → wN ev d = wN ev2 d := by
  intro d
  induction d with
  | zero => intro _; rfl
  | succ d ih => intro h; rw [wN, wN, ih (fun k hk => h k (by omega)), h d (by omega)]
theorem wN_upd {ev : Nat → Bool} {d : Nat} {x : Bool} : wN (updB ev d x) (d + 1) = 2 * wN ev d + bN x := by
  rw [wN, updB_s, wN_ext d (fun k hk => updB_n (show k ≠ d by omega))]
theorem and_1 (x : Nat) : x &&& 1 = x % 2 := Nat.and_one_is_mod x
theorem xor_1 (w : Nat) (b : Bool) : (2 * w + bN b) ^^^ 1 = 2 * w + bN (!b) := by
  apply Nat.eq_of_testBit_eq; intro i
  rw [Nat.testBit_xor]
  cases i with
  | zero => cases b <;> simp [bN, Nat.testBit_zero, Nat.add_mod]
  | succ i =>
    rw [Nat.testBit_succ, Nat.testBit_succ, Nat.testBit_succ, show (1 : Nat) / 2 = 0 from rfl, Nat.zero_testBit, Bool.xor_false]
    congr 1; have := bN_lt b; have := bN_lt (!b); omega
theorem and_m2 {w : Nat} (b : Bool) (h : w < 2 ^ 20) : (2 * w + bN b) &&& 4294967294 = 2 * w := by
  apply Nat.eq_of_testBit_eq; intro i
  rw [Nat.testBit_and]
  cases i with
  | zero => simp [Nat.testBit_zero]
  | succ i =>
    rw [Nat.testBit_succ, Nat.testBit_succ, Nat.testBit_succ, show (4294967294 : Nat) / 2 = 2 ^ 31 - 1 from rfl, Nat.testBit_two_pow_sub_one, show (2 * w + bN b) / 2 = w by (have := bN_lt b; omega), show 2 * w / 2 = w by omega]
    by_cases hi : i < 31
    · simp [hi]
    · rw [Nat.testBit_lt_two_pow (Nat.lt_of_lt_of_le h (Nat.pow_le_pow_right (by decide) (by omega)))]; rfl
theorem or_bit (w : Nat) (b c : Bool) : (2 * w + bN b) ||| bN c = 2 * w + bN (b || c) := by
  apply Nat.eq_of_testBit_eq; intro i
  rw [Nat.testBit_or]
  cases i with
  | zero => cases b <;> cases c <;> simp [bN, Nat.testBit_zero, Nat.add_mod]
  | succ i =>
    rw [Nat.testBit_succ, Nat.testBit_succ, Nat.testBit_succ, show bN c / 2 = 0 by (have := bN_lt c; omega), Nat.zero_testBit, Bool.or_false]
    congr 1; have := bN_lt b; have := bN_lt (b || c); omega
theorem nI_m2 : (-2 : Int32) = nI 4294967294 := by decide
theorem w_shr (w : Nat) (b : Bool) : (2 * w + bN b) >>> 1 = w := by rw [Nat.shiftRight_eq_div_pow]; have := bN_lt b; omega
theorem w_and1 (w : Nat) (b : Bool) : (2 * w + bN b) &&& 1 = bN b := by rw [and_1]; have := bN_lt b; omega
theorem w_and {w : Nat} (b c : Bool) (h : w < 2 ^ 20) : nI (2 * w + bN b) &&& (nI (bN c) ||| (-2)) = nI (2 * w + bN (b && c)) := by
  rw [nI_m2, nx_or]
  cases c
  · rw [show bN false ||| 4294967294 = 4294967294 from by decide, nx_and, and_m2 b h]; cases b <;> rfl
  · rw [show bN true ||| 4294967294 = 4294967295 from by decide, show nI 4294967295 = -1 from by decide]; rw [show ∀ x : Int32, x &&& (-1) = x from fun x => Int32.and_neg_one]; cases b <;> rfl
theorem w_shl (w : Nat) (b : Bool) : w <<< 1 ||| bN b = 2 * w + bN b := by
  rw [Nat.shiftLeft_eq]
  have h := or_bit w false b
  simp only [bN, Bool.false_or] at h
  simp only [bN]
  rw [show w * 2 ^ 1 = 2 * w + 0 by omega]; exact h
/-- AN EXCHANGE as the class holds it: how many conditions, their weights, where each begins, its tokens -/
abbrev CX : Type := Nat × (Nat → Int32) × (Nat → Nat) × (Nat → Nat → Nat)
def okC (x : CX) : Prop := x.1 ≤ 10 ∧ x.2.2.1 0 = 0 ∧ ∀ i, i < x.1 → x.2.2.1 i ≤ x.2.2.1 (i + 1) ∧ x.2.2.1 (i + 1) ≤ 100 ∧ okT (x.2.2.2 i) (x.2.2.1 (i + 1) - x.2.2.1 i)
def clX (st sp wt : Nat → Int32) (x : CX) : Prop := ∀ i, i < x.1 → sp i = nI (x.2.2.1 (i + 1)) ∧ wt i = x.2.1 i ∧ ∀ j, j < x.2.2.1 (i + 1) - x.2.2.1 i → st (x.2.2.1 i + j) = stp (x.2.2.2 i j)
def truC (x : CX) (p q : Nat) (kd v : Int32) (s d i : Nat) : Bool := evS (tvF p q kd v s d) (x.2.2.2 i) (x.2.2.1 (i + 1) - x.2.2.1 i) 0
def fcF (x : CX) (p q : Nat) (kd v : Int32) (s d : Nat) : Nat → Int32
  | 0 => nI s
  | i + 1 => if truC x p q kd v s d i = true then fcF x p q kd v s d i + x.2.1 i else fcF x p q kd v s d i
/-- the class' rows hold the exchange x -/
def heldC (C b : Nat) (st sp wt : Nat → Int32) (x : EX) : Prop := okX x ∧ b = bd x x.1 ∧ ∃ cx : CX, cx.1 = C ∧ okC cx ∧ clX st sp wt cx ∧ ∀ (p q : Nat) (kd v : Int32) (s d : Nat), fcF cx p q kd v s d C = fx x p q kd v s d x.1
theorem wN_t {tv : Nat → Bool} {tk : Nat → Nat} {j : Nat} (h3 : 3 ≤ tk j) : wN (evS tv tk (j + 1)) (dp tk (j + 1)) = 2 * wN (evS tv tk j) (dp tk j) + bN (tv (tk j)) := by
  rw [dp_t h3]; simp only [evS, if_pos h3]; exact wN_upd
theorem wN_n {tv : Nat → Bool} {tk : Nat → Nat} {j : Nat} (h0 : tk j = 0) (h1 : 1 ≤ dp tk j) : wN (evS tv tk j) (dp tk j) = 2 * wN (evS tv tk j) (dp tk j - 1) + bN (evS tv tk j (dp tk j - 1)) ∧ wN (evS tv tk (j + 1)) (dp tk (j + 1)) = 2 * wN (evS tv tk j) (dp tk j - 1) + bN (!evS tv tk j (dp tk j - 1)) := by
  obtain ⟨e, he⟩ : ∃ e, dp tk j = e + 1 := ⟨dp tk j - 1, by omega⟩
  rw [dp_n h0]; simp only [evS, if_neg (show ¬ 3 ≤ tk j by omega), if_pos h0]
  rw [he, Nat.add_sub_cancel]; exact ⟨rfl, wN_upd⟩
theorem wN_a {tv : Nat → Bool} {tk : Nat → Nat} {j : Nat} (h3 : tk j < 3) (h0 : ¬ tk j = 0) (h2 : 2 ≤ dp tk j) : wN (evS tv tk j) (dp tk j) = 2 * (2 * wN (evS tv tk j) (dp tk j - 2) + bN (evS tv tk j (dp tk j - 2))) + bN (evS tv tk j (dp tk j - 1)) ∧ wN (evS tv tk (j + 1)) (dp tk (j + 1)) = 2 * wN (evS tv tk j) (dp tk j - 2) + bN (if tk j = 1 then evS tv tk j (dp tk j - 2) && evS tv tk j (dp tk j - 1) else evS tv tk j (dp tk j - 2) || evS tv tk j (dp tk j - 1)) := by
  obtain ⟨e, he⟩ : ∃ e, dp tk j = e + 1 + 1 := ⟨dp tk j - 2, by omega⟩
  rw [dp_a h3 h0]; simp only [evS, if_neg (show ¬ 3 ≤ tk j by omega), if_neg h0]
  rw [he, show e + 1 + 1 - 2 = e by omega, show e + 1 + 1 - 1 = e + 1 by omega]; exact ⟨rfl, wN_upd⟩
theorem hold_e {tv : Nat → Bool} {tk : Nat → Nat} {L j : Nat} (hok : okT tk L) (h : j = L) (hb : ¬ wN (evS tv tk j) (dp tk j) &&& 1 = 0) : evS tv tk L 0 = true := by
  subst h; rw [hok.2] at hb
  have e : wN (evS tv tk j) 1 = 2 * 0 + bN (evS tv tk j 0) := rfl
  rw [e, w_and1] at hb
  cases h2 : evS tv tk j 0
  · rw [h2] at hb; exact absurd rfl hb
  · rfl
theorem hold_f {tv : Nat → Bool} {tk : Nat → Nat} {L j : Nat} (hok : okT tk L) (h : j = L) (hb : wN (evS tv tk j) (dp tk j) &&& 1 = 0) : evS tv tk L 0 = false := by
  subst h; rw [hok.2] at hb
  have e : wN (evS tv tk j) 1 = 2 * 0 + bN (evS tv tk j 0) := rfl
  rw [e, w_and1] at hb
  cases h2 : evS tv tk j 0
  · rfl
  · rw [h2] at hb; exact absurd hb (by decide)
theorem or3 {l g n : Nat} (hg : g < 128) (hn : n < 128) : (l <<< 14 ||| g <<< 7) ||| n = l * 16384 + (g * 128 + n) := by
  have e1 : l <<< 14 ||| g <<< 7 = l * 16384 + g * 128 := by
    have h := Nat.shiftLeft_add_eq_or_of_lt (b := g <<< 7) (i := 14) (by rw [Nat.shiftLeft_eq]; omega) l
    rw [← h, Nat.shiftLeft_eq, Nat.shiftLeft_eq]
  rw [e1]
  have h := Nat.shiftLeft_add_eq_or_of_lt (b := n) (i := 7) (by omega) (l * 128 + g)
  rw [Nat.shiftLeft_eq] at h
  rw [show l * 16384 + g * 128 = (l * 128 + g) * 2 ^ 7 by omega, ← h]; omega
/-! TAPES of the class -/
theorem has_b {z : Nat} {i : Int32} (h : ¬ nI z ≤ i) (hz : z ≤ 60) : ¬ nI 60 ≤ i := fun q => h (Int32.le_trans ((nI_leI (by omega) (by omega)).mpr hz) q)
theorem zm1T {z : Nat} (hz : z ≤ 60) : (nI z - 1).toInt = (z : Int) - 1 := nI_m1T (by omega)
theorem has_t {z : Nat} {i : Int32} (h1 : ¬ i < 0) (h2 : ¬ nI z ≤ i) (hz : z ≤ 60) : inR i (nI 0) (nI z - 1) = true := by
  simp only [inR, Bool.and_eq_true, decide_eq_true_eq]
  refine ⟨by rw [nI_0]; exact Int32.not_lt.mp h1, Int32.le_iff_toInt_le.mpr ?_⟩
  have := Int32.lt_iff_toInt_lt.mp (Int32.not_le.mp h2)
  rw [nI_toInt (by omega)] at this
  rw [zm1T hz]; omega
theorem has_f1 {z : Nat} {i : Int32} (h1 : i < 0) : inR i (nI 0) (nI z - 1) = false := inR_lt (by rw [nI_0]; exact h1)
theorem has_f2 {z : Nat} {i : Int32} (h2 : nI z ≤ i) (hz : z ≤ 60) : inR i (nI 0) (nI z - 1) = false := by
  refine inR_gt (Int32.lt_iff_toInt_lt.mpr ?_)
  have := Int32.le_iff_toInt_le.mp h2
  rw [nI_toInt (by omega)] at this
  rw [zm1T hz]; omega
theorem has_n {z i : Nat} (h : i < z) (hz : z ≤ 60) : inR (nI i) (nI 0) (nI z - 1) = true := has_t (fun q => by rw [nI_l0 (by omega)] at q; omega) (fun q => by rw [nI_leI (by omega) (by omega)] at q; omega) hz
def keptC (s : Int32) (v : Int64) : Int64 := if s = 0 then v.toInt32.toInt8.toInt32.toInt64 else if s = 1 then v.toInt32.toInt16.toInt32.toInt64 else if s = 2 then v.toInt32.toInt64 else if s = 4 then (if v = 0 then 0 else 1) else v
theorem mn_60 {n : Nat} (h : n ≤ 60) : (if nI 60 < nI n then nI 60 else nI n) = nI n := if_neg (fun z => by rw [nI_ltI (by omega) (by omega)] at z; omega)
theorem mx_0 {n : Nat} (h : n < 1000) : (if nI 0 < nI n then nI n else nI 0) = nI n := by
  by_cases h2 : nI 0 < nI n
  · exact if_pos h2
  · rw [if_neg h2]; rw [nI_ltI (by omega) (by omega)] at h2; congr 1; omega
def runB (z : Nat) (i n : Int32) : Bool := !decide (n < 0) && (!decide (i < 0) && (decide (n ≤ nI z) && decide (i ≤ nI z - n)))
