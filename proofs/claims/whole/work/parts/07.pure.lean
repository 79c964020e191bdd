/-! WHAT THE METHODS ARE ABOUT, as numbers -/
theorem nI_one : nI 1 = 1 := rfl
def cn (x : Int32) : Nat := x.toNatClampNeg
theorem cn_nI {n : Nat} (h : n < 2 ^ 31) : cn (nI n) = n := nI_clamp h
def inR (v lo hi : Int32) : Bool := decide (lo ≤ v) && decide (v ≤ hi)
theorem inR_lt {v lo hi : Int32} (h : v < lo) : inR v lo hi = false := by simp [inR, Int32.not_le.mpr h]
theorem inR_gt {v lo hi : Int32} (h : hi < v) : inR v lo hi = false := by simp [inR, Int32.not_le.mpr h]
theorem inR_in {v lo hi : Int32} (h : ¬ v < lo) (h2 : ¬ hi < v) : inR v lo hi = true := by simp [inR, Int32.not_lt.mp h, Int32.not_lt.mp h2]
theorem inR_n {x n m : Nat} (hx : x < 2 ^ 31) (hm : m < 2 ^ 31) (hn : n < 2 ^ 31) : inR (nI x) (nI n) (nI m) = (decide (n ≤ x) && decide (x ≤ m)) := by
  unfold inR
  rw [show decide (nI n ≤ nI x) = decide (n ≤ x) from by simp [nI_leI hn hx], show decide (nI x ≤ nI m) = decide (x ≤ m) from by simp [nI_leI hx hm]]
theorem inR_t {x : Int32} {m : Nat} (hm : m < 2 ^ 31) (h : inR x (nI 0) (nI m) = true) : ∃ y : Nat, y ≤ m ∧ x = nI y := by
  simp only [inR, Bool.and_eq_true, decide_eq_true_eq, nI_0] at h
  obtain ⟨j, hj, e⟩ := nI_of2 (M := nI m) (n := m) (nI_toInt hm) (Int32.not_lt.mpr h.1) h.2
  exact ⟨j, hj, e⟩
def isB (n : Nat) (p : Int32) : Bool := inR p 0 (nI n - 1)
theorem nI_m1T {n : Nat} (h : n < 2 ^ 30) : (nI n - 1).toInt = (n : Int) - 1 := by
  have := pk_sub_toInt (a := n) (b := 1) h (by omega)
  rw [nI_one] at this; simpa using this
theorem isB_t {n : Nat} {p : Int32} (hn : n ≤ 6) (h : isB n p = true) : ∃ P : Nat, P < n ∧ p = nI P := by
  simp only [isB, inR, Bool.and_eq_true, decide_eq_true_eq] at h
  rcases pk_ix p (n := n) (by omega) with h1 | h1 | h1
  · exact absurd h1 (Int32.not_lt.mpr h.1)
  · have a := Int32.le_iff_toInt_le.mp h1
    have b := Int32.le_iff_toInt_le.mp h.2
    rw [nI_toInt (by omega)] at a
    rw [nI_m1T (by omega)] at b
    omega
  · exact h1
theorem isB_of {n P : Nat} (hn : n ≤ 6) (h : P < n) : isB n (nI P) = true := by
  simp only [isB, inR, Bool.and_eq_true, decide_eq_true_eq]
  refine ⟨?_, Int32.le_iff_toInt_le.mpr ?_⟩
  · rw [nI_ge0 (by omega)]; omega
  · rw [nI_toInt (by omega), nI_m1T (by omega)]; omega
theorem are_t {n : Nat} {p q : Int32} (hn : n ≤ 6) (h : (isB n p && isB n q) = true) : ∃ P Q : Nat, P < n ∧ Q < n ∧ p = nI P ∧ q = nI Q := by
  rw [Bool.and_eq_true] at h
  obtain ⟨P, h1, h2⟩ := isB_t hn h.1
  obtain ⟨Q, h3, h4⟩ := isB_t hn h.2
  exact ⟨P, Q, h1, h3, h2, h4⟩
-- bits
theorem s_l : ∀ n, n < 32 → ((nI n &&& 31).toBitVec.smod 32).toNat = n := by decide +kernel
theorem nx_and (a b : Nat) : nI a &&& nI b = nI (a &&& b) := by
  apply Int32.toBitVec_inj.1
  show BitVec.ofNat 32 a &&& BitVec.ofNat 32 b = BitVec.ofNat 32 (a &&& b)
  apply BitVec.eq_of_getLsbD_eq
  intro i hi
  simp [hi]
theorem nx_or (a b : Nat) : nI a ||| nI b = nI (a ||| b) := by
  apply Int32.toBitVec_inj.1
  show BitVec.ofNat 32 a ||| BitVec.ofNat 32 b = BitVec.ofNat 32 (a ||| b)
  apply BitVec.eq_of_getLsbD_eq
  intro i hi
  simp [hi]
theorem nx_xor (a b : Nat) : nI a ^^^ nI b = nI (a ^^^ b) := by
  apply Int32.toBitVec_inj.1
  show BitVec.ofNat 32 a ^^^ BitVec.ofNat 32 b = BitVec.ofNat 32 (a ^^^ b)
  apply BitVec.eq_of_getLsbD_eq
  intro i hi
  simp [hi]
theorem nI_shr {n k : Nat} (h : n < 2 ^ 31) (hk : k < 32) : nI n >>> (nI k &&& 31) = nI (n >>> k) := by
  rw [pk_shrN h (nI k &&& 31) k (s_l k hk), Nat.shiftRight_eq_div_pow]
theorem nI_shl {n k : Nat} (hk : k < 32) (h : n * 2 ^ k < 2 ^ 32) : nI n <<< (nI k &&& 31) = nI (n <<< k) := by
  rw [pk_shlN (nI k &&& 31) k (s_l k hk) h, Nat.shiftLeft_eq]
theorem one_shl {k : Nat} (hk : k < 31) : (1 : Nat) * 2 ^ k < 2 ^ 32 := by
  rw [Nat.one_mul]; exact Nat.pow_lt_pow_right (by decide) (by omega)
theorem b01 (x : Nat) : x &&& 1 = 0 ∨ x &&& 1 = 1 := by
  rw [Nat.and_one_is_mod]; omega
theorem b0 {x : Nat} (h : ¬ x &&& 1 = 1) : x &&& 1 = 0 := (b01 x).resolve_right h
theorem b1 {x : Nat} (h : ¬ x &&& 1 = 0) : x &&& 1 = 1 := (b01 x).resolve_left h
theorem b_lt (x : Nat) : x &&& 1 < 2 := by rcases b01 x with h | h <;> omega
theorem shr_lt {S : Nat} (k : Nat) (h : S < 64) : S >>> k < 64 := by
  rw [Nat.shiftRight_eq_div_pow]; exact Nat.lt_of_le_of_lt (Nat.div_le_self _ _) h
theorem or_lt {S k : Nat} (h : S < 64) (hk : k < 6) : S ||| 1 <<< k < 64 := by
  have : ∀ S : Fin 64, ∀ k : Fin 6, S.val ||| 1 <<< k.val < 64 := by decide +kernel
  exact this ⟨S, h⟩ ⟨k, hk⟩
theorem shl_lt {k : Nat} (hk : k ≤ 6) : 1 <<< k ≤ 64 := by
  have : ∀ k : Fin 7, 1 <<< k.val ≤ 64 := by decide +kernel
  exact this ⟨k, by omega⟩
theorem shl_lt6 {k : Nat} (hk : k < 6) : 1 <<< k < 64 := by
  have : ∀ k : Fin 6, 1 <<< k.val < 64 := by decide +kernel
  exact this ⟨k, by omega⟩
-- sums of debts
def osum (de : Nat → Int32) (p : Nat) : Nat → Int32
  | 0 => 0
  | k + 1 => osum de p k + de (6 * p + k)
def dsum (de : Nat → Int32) (S p : Nat) : Nat → Int32
  | 0 => 0
  | k + 1 => if S >>> k &&& 1 = 0 then dsum de S p k + de (6 * k + p) else dsum de S p k
def bal (n : Nat) (de : Nat → Int32) (p : Nat) : Int32 := dsum de 0 p n - osum de p n
-- who fails
def cant (n : Nat) (pu de : Nat → Int32) (S p : Nat) : Bool := decide (pu p + dsum de S p n < osum de p n)
def fr (n : Nat) (pu de : Nat → Int32) (S : Nat) : Nat → Nat
  | 0 => S
  | k + 1 => if fr n pu de S k >>> k &&& 1 = 0 ∧ cant n pu de (fr n pu de S k) k = true then fr n pu de S k ||| 1 <<< k else fr n pu de S k
def fm (n : Nat) (pu de : Nat → Int32) (S : Nat) : Nat → Bool
  | 0 => false
  | k + 1 => if fr n pu de S k >>> k &&& 1 = 0 ∧ cant n pu de (fr n pu de S k) k = true then true else fm n pu de S k
def fl (n : Nat) (pu de : Nat → Int32) : Nat → Nat → Nat
  | 0, S => S
  | f + 1, S => if fm n pu de S n = true then fl n pu de f (fr n pu de S n) else fr n pu de S n
def fails (n : Nat) (pu de : Nat → Int32) (S : Nat) : Nat := fl n pu de 7 S
/-- bits that are clear -/
def cz (S : Nat) : Nat := 6 - ((S >>> 0 &&& 1) + (S >>> 1 &&& 1) + (S >>> 2 &&& 1) + (S >>> 3 &&& 1) + (S >>> 4 &&& 1) + (S >>> 5 &&& 1))
theorem cz_or {S k : Nat} (h : S < 64) (hk : k < 6) (hb : S >>> k &&& 1 = 0) : cz (S ||| 1 <<< k) < cz S := by
  have : ∀ S : Fin 64, ∀ k : Fin 6, S.val >>> k.val &&& 1 = 0 → cz (S.val ||| 1 <<< k.val) < cz S.val := by decide +kernel
  exact this ⟨S, h⟩ ⟨k, hk⟩ hb
theorem cz_le (S : Nat) : cz S ≤ 6 := Nat.sub_le _ _
theorem fr_props {n : Nat} {pu de : Nat → Int32} {S : Nat} (hS : S < 64) : ∀ k, k ≤ 6 → fr n pu de S k < 64 ∧ cz (fr n pu de S k) ≤ cz S ∧ (fm n pu de S k = true → cz (fr n pu de S k) < cz S) := by
  intro k
  induction k with
  | zero => intro _; exact ⟨hS, Nat.le_refl _, fun h => by simp [fm] at h⟩
  | succ k ih =>
    intro hk
    obtain ⟨h1, h2, h3⟩ := ih (by omega)
    simp only [fr, fm]
    by_cases hc : fr n pu de S k >>> k &&& 1 = 0 ∧ cant n pu de (fr n pu de S k) k = true
    · rw [if_pos hc, if_pos hc]
      have := cz_or h1 (show k < 6 by omega) hc.1
      exact ⟨or_lt h1 (by omega), by omega, fun _ => by omega⟩
    · rw [if_neg hc, if_neg hc]
      exact ⟨h1, h2, h3⟩
theorem fr_lt {n : Nat} {pu de : Nat → Int32} {S k : Nat} (hS : S < 64) (hk : k ≤ 6) : fr n pu de S k < 64 := (fr_props hS k hk).1
theorem fl_lt {n : Nat} {pu de : Nat → Int32} (hn : n ≤ 6) : ∀ (f S : Nat), S < 64 → fl n pu de f S < 64 := by
  intro f
  induction f with
  | zero => intro S h; exact h
  | succ f ih =>
    intro S h
    simp only [fl]
    split
    · exact ih _ (fr_lt h hn)
    · exact fr_lt h hn
theorem fails_lt {n : Nat} {pu de : Nat → Int32} {S : Nat} (hn : n ≤ 6) (hS : S < 64) : fails n pu de S < 64 := fl_lt hn 7 S hS
-- what a gift is
def gbad (n : Nat) (pu de : Nat → Int32) (p g : Nat) : Bool := decide (fails n (upd pu p (pu p + nI g)) de 0 >>> p &&& 1 = 1)
def giftP (n : Nat) (pu de : Nat → Int32) (p : Nat) (r : Int32) : Prop := (r = -5 ∧ gbad n pu de p 9999 = true) ∨ ∃ g : Nat, g ≤ 9999 ∧ r = nI g ∧ gbad n pu de p g = false ∧ (g = 0 ∨ gbad n pu de p (g - 1) = true)
theorem gift_d {L H : Nat} (h1 : L ≤ H) : nI H - (nI L - 1) = nI (H - L + 1) := by
  rw [← nI_add, ← pk_sub h1, nI_one]; grind
theorem gift_c {L H : Nat} (h1 : L ≤ H) (h2 : H ≤ 10000) : nI H - (nI L - 1) ≤ nI 1 ↔ H ≤ L := by
  rw [gift_d h1, nI_leI (by omega) (by omega)]; omega
theorem gift_m {L H : Nat} (h1 : L < H) (h2 : H ≤ 10000) : (nI L - 1 + nI H) / nI 2 = nI ((L + H - 1) / 2) := by
  have e : nI L - 1 + nI H = nI (L + H - 1) := by
    rw [← pk_sub (a := L + H) (b := 1) (by omega), ← nI_add, nI_one]; grind
  rw [e, pk_div (by omega) (by omega) (by omega)]
theorem upd_upd {f : Nat → Int32} {k : Nat} {x y : Int32} : upd (upd f k x) k y = upd f k y := by
  funext j; by_cases h : j = k
  · rw [h, pk_us, pk_us]
  · rw [pk_un h, pk_un h, pk_un h]
theorem upd_self {f : Nat → Int32} {k : Nat} : upd f k (f k) = f := by
  funext j; by_cases h : j = k
  · rw [h, pk_us]
  · rw [pk_un h]
theorem u2_u2 {σ : Nat → Nat → Int32} {k : Nat} {f g : Nat → Int32} : u2 (u2 σ k f) k g = u2 σ k g := by
  funext c; by_cases h : c = k
  · rw [h, u2_s, u2_s]
  · rw [u2_n h, u2_n h, u2_n h]
theorem u2_self {σ : Nat → Nat → Int32} {k : Nat} : u2 σ k (σ k) = σ := by
  funext c; by_cases h : c = k
  · rw [h, u2_s]
  · rw [u2_n h]
theorem b_lt31 (x : Nat) : x &&& 1 < 2 ^ 31 := Nat.lt_trans (b_lt x) (by decide)
theorem shl_lt31 {k : Nat} (hk : k ≤ 6) : 1 <<< k < 2 ^ 31 := Nat.lt_of_le_of_lt (shl_lt hk) (by decide)
def bsum (n : Nat) (de : Nat → Int32) (S : Nat) : Nat → Int32
  | 0 => 0
  | k + 1 => if S >>> k &&& 1 = 1 then bsum n de S k + bal n de k else bsum n de S k
def osumAll (n : Nat) (de : Nat → Int32) : Nat → Int32
  | 0 => 0
  | k + 1 => osumAll n de k + osum de k n
def ab (x : Int32) : Int32 := if 0 ≤ x then x else 0 - x
/-- offsets of one with those behind it -/
def offI (de : Nat → Int32) (p : Nat) (s0 : Int32) : Nat → Int32
  | 0 => s0
  | k + 1 => offI de p s0 k + ab (de (6 * p + (p + 1 + k)) - de (6 * (p + 1 + k) + p))
def offO (n : Nat) (de : Nat → Int32) : Nat → Int32
  | 0 => 0
  | k + 1 => offI de k (offO n de k) (n - (k + 1))
theorem gift_e (x : Nat) : nI (x + 1) - 1 = nI x := nI_pred x
