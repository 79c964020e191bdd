/-! THE CLASS' LEDGER, as numbers -/
def hb (S i : Nat) : Bool := decide (S >>> i &&& 1 = 1)
theorem vB_t {b : Bool} (h : b = true) : some (Value.int (nI 1)) = some (.int (bI b)) := by subst h; rfl
theorem vB_f {b : Bool} (h : b = false) : some (Value.int (nI 0)) = some (.int (bI b)) := by subst h; rfl
theorem hb_f {S i : Nat} (h : S >>> i &&& 1 = 0) : hb S i = false := decide_eq_false (by rw [h]; decide)
theorem hb_t {S i : Nat} (h : ¬ S >>> i &&& 1 = 0) : hb S i = true := decide_eq_true (b1 h)
theorem hb_0 {S i : Nat} (h : hb S i = false) : S >>> i &&& 1 = 0 := b0 (of_decide_eq_false h)
theorem hb_1 {S i : Nat} (h : hb S i = true) : S >>> i &&& 1 = 1 := of_decide_eq_true h
theorem ds_0 {de : Nat → Int32} {S p k : Nat} (h : hb S k = false) : dsum de S p (k + 1) = dsum de S p k + de (6 * k + p) := by rw [dsum, if_pos (hb_0 h)]
theorem ds_1 {de : Nat → Int32} {S p k : Nat} (h : hb S k = true) : dsum de S p (k + 1) = dsum de S p k := by rw [dsum, if_neg]; rw [hb_1 h]; decide
def isum (f : Nat → Int32) : Nat → Int32
  | 0 => 0
  | k + 1 => isum f k + f k
def cantX (n : Nat) (x : Int32) (de : Nat → Int32) (S p : Nat) : Bool := decide (x + dsum de S p n < osum de p n)
/-- the purses, some of them rich -/
def rp (pu : Nat → Int32) (R : Nat) : Nat → Int32 := fun i => if R >>> i &&& 1 = 1 then nI 99999 else pu i
theorem rp_f {pu : Nat → Int32} {R k : Nat} (h : hb R k = false) : rp pu R k = pu k := if_neg (by rw [hb_0 h]; decide)
theorem rp_t {pu : Nat → Int32} {R k : Nat} (h : hb R k = true) : rp pu R k = nI 99999 := if_pos (hb_1 h)
theorem rp_0 (pu : Nat → Int32) : rp pu 0 = pu := by funext i; exact if_neg (by rw [Nat.zero_shiftRight]; decide)
theorem or_set {S k : Nat} (h : S < 64) (hk : k < 6) (hb : ¬ S >>> k &&& 1 = 0) : S ||| 1 <<< k = S := by
  have : ∀ S : Fin 64, ∀ k : Fin 6, ¬ S.val >>> k.val &&& 1 = 0 → S.val ||| 1 <<< k.val = S.val := by decide +kernel
  exact this ⟨S, h⟩ ⟨k, hk⟩ hb
theorem cz_set {S k : Nat} (h : S < 64) (hk : k < 6) (hc : cz S = 0) : ¬ S >>> k &&& 1 = 0 := by
  have : ∀ S : Fin 64, ∀ k : Fin 6, cz S.val = 0 → ¬ S.val >>> k.val &&& 1 = 0 := by decide +kernel
  exact this ⟨S, h⟩ ⟨k, hk⟩ hc
theorem fr_y {n : Nat} {pu de : Nat → Int32} {S k : Nat} {x : Int32} (e : pu k = x) (hS : S < 64) (hk : k < 6) (h : cantX n x de (fr n pu de S k) k = true) : fr n pu de S (k + 1) = fr n pu de S k ||| 1 <<< k := by
  have hc : cant n pu de (fr n pu de S k) k = true := by unfold cant; rw [e]; exact h
  by_cases hz : fr n pu de S k >>> k &&& 1 = 0
  · rw [fr, if_pos ⟨hz, hc⟩]
  · rw [fr, if_neg (fun z => hz z.1), or_set (fr_lt hS (by omega)) hk hz]
theorem fr_n {n : Nat} {pu de : Nat → Int32} {S k : Nat} {x : Int32} (e : pu k = x) (_hS : S < 64) (_hk : k < 6) (h : cantX n x de (fr n pu de S k) k = false) : fr n pu de S (k + 1) = fr n pu de S k := by
  have hc : cant n pu de (fr n pu de S k) k = false := by unfold cant; rw [e]; exact h
  rw [fr, if_neg (fun z => by rw [hc] at z; cases z.2)]
theorem fm_0 {n : Nat} {pu de : Nat → Int32} {S : Nat} : ∀ k, fm n pu de S k = false → fr n pu de S k = S := by
  intro k
  induction k with
  | zero => intro _; rfl
  | succ k ih =>
    intro h
    simp only [fm, fr] at h ⊢
    by_cases hc : fr n pu de S k >>> k &&& 1 = 0 ∧ cant n pu de (fr n pu de S k) k = true
    · rw [if_pos hc] at h; cases h
    · rw [if_neg hc] at h ⊢; exact ih h
theorem fm_iff {n : Nat} {pu de : Nat → Int32} {S k : Nat} (hS : S < 64) (hk : k ≤ 6) : fm n pu de S k = true ↔ ¬ fr n pu de S k = S := by
  constructor
  · intro h z
    have := (fr_props (n := n) (pu := pu) (de := de) hS k hk).2.2 h
    rw [z] at this; omega
  · intro h
    cases hf : fm n pu de S k
    · exact absurd (fm_0 k hf) h
    · rfl
theorem fr_ne {n : Nat} {pu de : Nat → Int32} {S k : Nat} (hS : S < 64) (hk : k ≤ 6) (h : ¬ fr n pu de S k = S) : cz (fr n pu de S k) < cz S := (fr_props hS k hk).2.2 ((fm_iff hS hk).mpr h)
theorem fl_go {n f : Nat} {pu de : Nat → Int32} {S : Nat} (hS : S < 64) (hn : n ≤ 6) (h : ¬ fr n pu de S n = S) : fl n pu de (f + 1) S = fl n pu de f (fr n pu de S n) := by rw [fl, if_pos ((fm_iff hS hn).mpr h)]
theorem fl_stay {n f : Nat} {pu de : Nat → Int32} {S : Nat} (_hS : S < 64) (_hn : n ≤ 6) (_hf : 0 < f) (h : fr n pu de S n = S) : fl n pu de f S = S := by
  cases f with
  | zero => rfl
  | succ f =>
    have : ¬ fm n pu de S n = true := fun z => (fm_iff _hS _hn).mp z h
    rw [fl, if_neg this, h]
theorem fm_full {n : Nat} {pu de : Nat → Int32} {S : Nat} (hS : S < 64) (hc : cz S = 0) : ∀ k, k ≤ 6 → fm n pu de S k = false := by
  intro k
  induction k with
  | zero => intro _; rfl
  | succ k ih =>
    intro hk
    have h1 := ih (by omega)
    rw [fm, fm_0 k h1, if_neg (fun z => cz_set hS (by omega) hc z.1), h1]
theorem fl_full {n f : Nat} {pu de : Nat → Int32} {S : Nat} (hS : S < 64) (hn : n ≤ 6) (hc : cz S = 0) : fl n pu de f S = S := by
  cases f with
  | zero => rfl
  | succ f => exact fl_stay hS hn (by omega) (fm_0 n (fm_full hS hc n hn))
