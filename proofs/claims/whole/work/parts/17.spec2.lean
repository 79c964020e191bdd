/-! TAPES AND ACTS -/
theorem isB_tG {n : Nat} {p : Int32} (hn : n < 2 ^ 30) (h : isB n p = true) : ∃ P : Nat, P < n ∧ p = nI P := by
  simp only [isB, inR, Bool.and_eq_true, decide_eq_true_eq] at h
  rcases pk_ix p (n := n) (by omega) with h1 | h1 | h1
  · exact absurd h1 (Int32.not_lt.mpr h.1)
  · have a := Int32.le_iff_toInt_le.mp h1
    have b := Int32.le_iff_toInt_le.mp h.2
    rw [nI_toInt (by omega)] at a
    rw [nI_m1T (by omega)] at b
    omega
  · exact h1
def keptV (s : Int32) (v : Int64) : Int64 := if s = 0 then v.toInt32.toInt8.toInt32.toInt64 else if s = 1 then v.toInt32.toInt16.toInt32.toInt64 else if s = 2 then v.toInt32.toInt64 else if s = 3 then v else if v = 0 then 0 else 1
def b_tape (t s n : Int32) : Bool := inR t (nI 0) (nI 5) && (inR s (-1) (nI 4) && (decide (s < 0) || (decide (n ≤ nI 60) && decide (0 ≤ n))))
def R_tape (t s n : Int32) : Int32 := if inR t (nI 0) (nI 5) = true then (if inR s (-1) (nI 4) = true then (if s < 0 then nI 1 else if n ≤ nI 60 then (if 0 ≤ n then nI 1 else -14) else -2) else -2) else -1
def zeroL (τ : Nat → Int64) (b : Nat) : Nat → (Nat → Int64)
  | 0 => τ
  | k + 1 => vp_updL (zeroL τ b k) (b + k) 0
def b_item (so sz : Nat → Int32) (t i : Int32) : Bool := inR t (nI 0) (nI 5) && (decide (0 ≤ so (cn t)) && inR i (nI 0) (sz (cn t) - nI 1))
def R_item (so sz : Nat → Int32) (t i : Int32) : Int32 := if inR t (nI 0) (nI 5) = true then (if so (cn t) < 0 then -11 else if inR i (nI 0) (sz (cn t) - nI 1) = true then nI 1 else -13) else -1
def R_read (so sz : Nat → Int32) (τ : Nat → Int64) (t i : Int32) : Int64 := if b_item so sz t i = true then τ (60 * cn t + cn i) else (-9223372036854775808)
/-- a trace -/
abbrev Trc : Type := Nat × (Nat → Int32)
def rnT (s : Trc) (b : Nat) : Trc := (s.1 + 1, if s.1 < 20 then upd s.2 s.1 (nI b) else s.2)
theorem rn1 (s : Trc) (b : Nat) : (rnT s b).1 = s.1 + 1 := rfl
def abv (k : Nat) : Nat := if k = 4 then 1 else if k = 5 then 2 else if k = 6 then 3 else 0
def gr (p : Nat) (v : Int32) : Nat → Nat → Int32 → Trc → Int32 × Trc
  | 0, _, _, s => (0, s)
  | f + 1, k, x, s => if k = 2 then gr p v f 0 (x * nI 3) (rnT s 30) else if k = 4 then (-(gr p v f 1 x (rnT s 50)).1, (gr p v f 1 x (rnT s 50)).2) else if k = 6 then ((gr p v f 3 x (rnT s 71)).1 ^^^ v, (gr p v f 3 x (rnT s 71)).2) else if k = 0 then (x + nI p, rnT s 10) else gr p v f (abv k) x s
def le (p K : Nat) (v : Int32) : Nat → Nat → Int32 → Trc → Int32 × Trc
  | 0, _, _, s => (0, s)
  | f + 1, k, x, s => if k = 1 then ((le p K v f 0 x (rnT s 20)).1 ^^^ nI 6, (le p K v f 0 x (rnT s 20)).2) else if k = 4 then le p K v f 1 (x + nI 1) (rnT s 51) else if k = 6 then ((le p K v f 3 x (rnT s 70)).1 + (gr p v 7 3 (nI 2) (le p K v f 3 x (rnT s 70)).2).1, (gr p v 7 3 (nI 2) (le p K v f 3 x (rnT s 70)).2).2) else if k = 0 then ((gr p v 7 K x (rnT s 11)).1 - v, (gr p v 7 K x (rnT s 11)).2) else le p K v f (abv k) x s
def te (p K : Nat) (v : Int32) : Nat → Nat → Int32 → Trc → Int32 × Trc
  | 0, _, _, s => (0, s)
  | f + 1, k, x, s => if k = 3 then ((te p K v f 0 x (rnT s 40)).1 + (le p K v 7 K (nI 1) (te p K v f 0 x (rnT s 40)).2).1, (le p K v 7 K (nI 1) (te p K v f 0 x (rnT s 40)).2).2) else if k = 5 then te p K v f 2 (x - nI p) (rnT s 60) else if k = 0 then ((le p K v 7 K x (rnT s 12)).1 * nI 2, (le p K v 7 K x (rnT s 12)).2) else te p K v f (abv k) x s
theorem gr_cnt (p : Nat) (v : Int32) : ∀ (f k : Nat) (x : Int32) (s : Trc), (gr p v f k x s).2.1 ≤ s.1 + f := by
  intro f
  induction f with
  | zero => intro k x s; exact Nat.le_refl _
  | succ f ih =>
    intro k x s
    simp only [gr]
    have h1 := ih 0 (x * nI 3) (rnT s 30)
    have h2 := ih 1 x (rnT s 50)
    have h3 := ih 3 x (rnT s 71)
    have h4 := ih (abv k) x s
    simp only [rn1] at h1 h2 h3 h4 
    (repeat' split) <;> (try dsimp only) <;> (try rw [rn1]) <;> omega
theorem le_cnt (p K : Nat) (v : Int32) : ∀ (f k : Nat) (x : Int32) (s : Trc), (le p K v f k x s).2.1 ≤ s.1 + 16 * f := by
  intro f
  induction f with
  | zero => intro k x s; exact Nat.le_refl _
  | succ f ih =>
    intro k x s
    simp only [le]
    have h1 := ih 0 x (rnT s 20)
    have h2 := ih 1 (x + nI 1) (rnT s 51)
    have h3 := ih 3 x (rnT s 70)
    have h4 := ih (abv k) x s
    have h5 := gr_cnt p v 7 3 (nI 2) (le p K v f 3 x (rnT s 70)).2
    have h6 := gr_cnt p v 7 K x (rnT s 11)
    simp only [rn1] at h1 h2 h3 h4 h5 h6 
    (repeat' split) <;> (try dsimp only) <;> (try rw [rn1]) <;> omega
theorem te_cnt (p K : Nat) (v : Int32) : ∀ (f k : Nat) (x : Int32) (s : Trc), (te p K v f k x s).2.1 ≤ s.1 + 256 * f := by
  intro f
  induction f with
  | zero => intro k x s; exact Nat.le_refl _
  | succ f ih =>
    intro k x s
    simp only [te]
    have h1 := ih 0 x (rnT s 40)
    have h2 := ih 2 (x - nI p) (rnT s 60)
    have h4 := ih (abv k) x s
    have h5 := le_cnt p K v 7 K (nI 1) (te p K v f 0 x (rnT s 40)).2
    have h6 := le_cnt p K v 7 K x (rnT s 12)
    simp only [rn1] at h1 h2 h4 h5 h6 
    (repeat' split) <;> (try dsimp only) <;> (try rw [rn1]) <;> omega
theorem u1_u1 (ν : Nat → Nat) (k x y : Nat) : u1 (u1 ν k x) k y = u1 ν k y := by
  funext c; by_cases h : c = k
  · rw [h, u1_s, u1_s]
  · rw [u1_n h, u1_n h, u1_n h]
def R_act (n : Nat) (kd v tr : Nat → Int32) (p k x : Int32) : Int32 × Trc := if isB n p = true ∧ inR k (nI 0) (nI 2) = true then (if cn k = 0 then gr (cn p) (v (cn p)) 7 (cn (kd (cn p))) x (0, tr) else if cn k = 1 then le (cn p) (cn (kd (cn p))) (v (cn p)) 7 (cn (kd (cn p))) x (0, tr) else te (cn p) (cn (kd (cn p))) (v (cn p)) 7 (cn (kd (cn p))) x (0, tr)) else (nI 0, (0, tr))
def mn20 (t : Nat) : Nat := if t < 20 then t else 20
theorem mn20_eq {t : Nat} (h : t < 2 ^ 31) : (if nI t < nI 20 then nI t else nI 20) = nI (mn20 t) := by
  unfold mn20
  by_cases hc : t < 20
  · rw [if_pos hc, if_pos ((nI_ltI h (by omega)).mpr hc)]
  · rw [if_neg hc, if_neg (fun z => hc ((nI_ltI h (by omega)).mp z))]
def R_trace (t : Nat) (tr : Nat → Int32) (i : Int32) : Int32 := if isB (mn20 t) i = true then tr (cn i) else -1
def cls (u k : Nat) : Bool := decide (u = k) || (decide (abv u = k) || decide (abv (abv u) = k))
theorem cls_up : ∀ u : Fin 7, ∀ k : Fin 7, ¬ u.val = k.val → 0 < u.val → cls (abv u.val) k.val = cls u.val k.val := by decide +kernel
theorem abv_lt : ∀ u : Fin 7, 0 < u.val → abv u.val < u.val := by decide +kernel
def R_taken (n : Nat) (kd : Nat → Int32) (p k : Int32) : Int32 := if inR k (nI 0) (nI 6) = true then (if isB n p = true then (if cls (cn (kd (cn p))) (cn k) = true then kd (cn p) else -12) else -11) else -2
def R_count (ν : Nat → Nat) (w : Int32) : Int32 := if w = 0 then nI (ν 0) else if w = 1 then nI (ν 13) else if w = 2 then nI (ν 23) else if w = 3 then nI (ν 29) else if w = 4 then nI (ν 32) else if w = 5 then nI (ν 7) else if w = 6 then nI (ν 36) else -2
def ofP (n : Nat) (kd v pu de : Nat → Int32) (p w r : Int32) : Prop := if isB n p = true then (if w = 0 then r = kd (cn p) else if w = 1 then r = v (cn p) else if w = 2 then r = pu (cn p) else if w = 3 then r = osum de (cn p) n else if w = 4 then r = dsum de 0 (cn p) n else if w = 5 then r = bal n de (cn p) else if w = 6 then r = nI (fails n pu de (1 <<< cn p)) else if w = 7 then giftP n pu de (cn p) r else r = -1000001) else r = -1000001
theorem cls_0 : ∀ u : Fin 7, ∀ k : Fin 7, u.val = k.val ∨ u.val = 0 → cls u.val k.val = decide (u.val = k.val) := by decide +kernel
/-- pays and ends -/
def mn (x y : Int32) : Int32 := if y < x then y else x
def payS (p : Nat) (s : (Nat → Int32) × (Nat → Int32)) (q : Nat) : (Nat → Int32) × (Nat → Int32) :=
  (upd (upd s.1 p (s.1 p - mn (s.1 p) (s.2 (6 * p + q)))) q (mn (nI 9999) (upd s.1 p (s.1 p - mn (s.1 p) (s.2 (6 * p + q))) q + mn (s.1 p) (s.2 (6 * p + q)))), upd s.2 (6 * p + q) (s.2 (6 * p + q) - mn (s.1 p) (s.2 (6 * p + q))))
def paysN (p : Nat) (s : (Nat → Int32) × (Nat → Int32)) : Nat → (Nat → Int32) × (Nat → Int32)
  | 0 => s
  | k + 1 => payS p (paysN p s k) k
def z2 (de : Nat → Int32) (p : Nat) : Nat → (Nat → Int32)
  | 0 => de
  | k + 1 => upd (z2 de p k) (6 * p + k) (nI 0)
def z3 (de : Nat → Int32) (p : Nat) : Nat → (Nat → Int32)
  | 0 => de
  | k + 1 => upd (z3 de p k) (6 * k + p) (nI 0)
/-- a plan's row -/
def planS (n : Nat) (w p : Nat) (s : (Nat → Int32) × (Nat → Int32)) : (Nat → Int32) × (Nat → Int32) := if w = 0 then s else if w = 1 then paysN p s n else if w = 2 then (s.1, z2 s.2 p n) else (s.1, z3 s.2 p n)
def planN (n : Nat) (go wh : Nat → Int32) (s : (Nat → Int32) × (Nat → Int32)) : Nat → (Nat → Int32) × (Nat → Int32)
  | 0 => s
  | k + 1 => planS n (cn (go k)) (cn (wh k)) (planN n go wh s k)
def R_ends (n m : Nat) (go wh pu de : Nat → Int32) (w : Int32) : Int32 := if inR w (nI 0) (nI 1) = true then (if cn w = 0 then osumAll n (planN n go wh (pu, de) m).2 n else nI (fails n (planN n go wh (pu, de) m).1 (planN n go wh (pu, de) m).2 0)) else -1
theorem lg_n0 {v : Int64} : (lg_cmp v 0 = 0) = (v = 0) := propext (lg_cmp_eq v 0)
def gcdS : Nat → Nat × Nat → Nat × Nat
  | 0, s => s
  | f + 1, s => if s.2 = 0 then s else gcdS f (s.2, s.1 % s.2)
theorem gcdS_1 : ∀ (f x y : Nat), y < f → 0 < x ∨ 0 < y → (gcdS f (x, y)).2 = 0 ∧ (gcdS f (x, y)).1 = Nat.gcd y x := by
  intro f
  induction f with
  | zero => intro x y h; omega
  | succ f ih =>
    intro x y h hp
    simp only [gcdS]
    by_cases hy : y = 0
    · rw [if_pos hy]; subst hy; exact ⟨rfl, (Nat.gcd_zero_left x).symm⟩
    · rw [if_neg hy]
      have hm : x % y < y := Nat.mod_lt _ (by omega)
      obtain ⟨h1, h2⟩ := ih y (x % y) (by omega) (Or.inl (by omega))
      refine ⟨h1, h2.trans ?_⟩
      rw [← Nat.gcd_rec]
def R_part (a b : Nat) (part : Int32) : Int64 := if part = 0 then lN (a / Nat.gcd b a) else lN (b / Nat.gcd b a)
def psum (pu : Nat → Nat) : Nat → Nat
  | 0 => 0
  | k + 1 => psum pu k + pu k
def alone (n : Nat) (pu de : Nat → Int32) : Nat → Nat
  | 0 => 0
  | k + 1 => if fails n pu de (1 <<< k) = 1 <<< k then alone n pu de k + 1 else alone n pu de k
theorem alone_le (n : Nat) (pu de : Nat → Int32) : ∀ k, alone n pu de k ≤ k := by
  intro k
  induction k with
  | zero => exact Nat.le_refl _
  | succ k ih => simp only [alone]; split <;> omega
def R_odds (n : Nat) (pu de : Nat → Int32) (p : Int32) : Int64 := if inR p (nI 0) (nI 1) = true ∧ ¬ n = 0 then R_part (alone n pu de n) n p else (-9223372036854775808)
def R_mean (n : Nat) (pv : Nat → Nat) (p : Int32) : Int64 := if inR p (nI 0) (nI 1) = true ∧ ¬ n = 0 then R_part (psum pv n) n p else (-9223372036854775808)
theorem psum_le {pv : Nat → Nat} {B : Nat} : ∀ k, (∀ i, i < k → pv i ≤ B) → psum pv k ≤ k * B := by
  intro k
  induction k with
  | zero => intro _; exact Nat.zero_le _
  | succ k ih =>
    intro h
    have h1 := ih (fun i hi => h i (by omega))
    have h2 := h k (by omega)
    simp only [psum]; rw [Nat.succ_mul]; omega
/-- the first of a book's rows by which it is otherwise -/
def lookF (de a b c : Nat → Int32) (m : Nat) : Nat → Int32
  | 0 => -5
  | k + 1 => if de (6 * cn (a (m - (k + 1))) + cn (b (m - (k + 1)))) = c (m - (k + 1)) then lookF de a b c m k else nI (m - (k + 1))
def judF (n : Nat) (de : Nat → Int32) (so z : Int32) (τ : Nat → Int64) (b : Nat) (i : Int32) : Nat → Int32
  | 0 => -5
  | k + 1 => if so = -1 ∨ i < 0 ∨ cn z ≤ cn i + (n - (k + 1)) then nI (100 + (n - (k + 1))) else if τ (b + cn i + (n - (k + 1))) = (bal n de (n - (k + 1))).toInt64 then judF n de so z τ b i k else nI (n - (k + 1))
def R_judge (n : Nat) (de so sz : Nat → Int32) (τ : Nat → Int64) (t i : Int32) : Int32 := if inR t (nI 0) (nI 5) = true then (if so (cn t) = -1 ∨ so (cn t) = nI 2 then judF n de (so (cn t)) (sz (cn t)) τ (60 * cn t) i n else -12) else -1
