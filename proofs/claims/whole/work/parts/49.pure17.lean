/-! THE CLASS' LEDGER, the rest, as numbers -/
def crs (n : Nat) (pu de : Nat → Int32) : Nat → Nat
  | 0 => 0
  | k + 1 => if cantX n (pu k) de 0 k = true then crs n pu de k ||| 1 <<< k else crs n pu de k
theorem crs_n {n : Nat} {pu de : Nat → Int32} {k : Nat} (h : cantX n (pu k) de 0 k = false) : crs n pu de (k + 1) = crs n pu de k := if_neg (by rw [h]; decide)
theorem crs_lt (n : Nat) (pu de : Nat → Int32) : ∀ k, k ≤ 6 → crs n pu de k < 64 := by
  intro k
  induction k with
  | zero => intro _; exact Nat.zero_lt_succ _
  | succ k ih =>
    intro hk
    simp only [crs]
    split
    · exact or_lt (ih (by omega)) (by omega)
    · exact ih (by omega)
/-- what one lacks if just those fail who would with it rich -/
def lack (n : Nat) (pu de : Nat → Int32) (p : Nat) : Int32 := osum de p n - pu p - dsum de (fails n (rp pu (1 <<< p)) de 0) p n
def cgift (n : Nat) (pu de : Nat → Int32) (p : Nat) : Int32 := if nI 9999 < lack n pu de p then (-5) else if lack n pu de p < nI 0 then nI 0 else lack n pu de p
theorem cgift_t {n : Nat} {pu de : Nat → Int32} {p : Nat} (h : nI 9999 < lack n pu de p) : cgift n pu de p = (-5) := if_pos h
theorem cgift_f {n : Nat} {pu de : Nat → Int32} {p : Nat} (h : ¬ nI 9999 < lack n pu de p) : cgift n pu de p = if lack n pu de p < nI 0 then nI 0 else lack n pu de p := if_neg h
theorem cz_or1 {S k : Nat} (h : S < 64) (hk : k < 6) (hb : S >>> k &&& 1 = 0) : cz (S ||| 1 <<< k) + 1 = cz S := by
  have : ∀ S : Fin 64, ∀ k : Fin 6, S.val >>> k.val &&& 1 = 0 → cz (S.val ||| 1 <<< k.val) + 1 = cz S.val := by decide +kernel
  exact this ⟨S, h⟩ ⟨k, hk⟩ hb
theorem cz_one {k : Nat} (h : k < 6) : cz (1 <<< k) + 1 = 6 := by
  have : ∀ k : Fin 6, cz (1 <<< k.val) + 1 = 6 := by decide +kernel
  exact this ⟨k, h⟩
theorem foldN_id {g : Nat → Int32 → Int32} {b : Int32} : ∀ k, (∀ i, i < k → g i b = b) → foldN g b k = b := by
  intro k
  induction k with
  | zero => intro _; rfl
  | succ k ih => intro h; rw [foldN, ih (fun i hi => h i (by omega))]; exact h k (by omega)
theorem rf_full {n : Nat} {de : Nat → Int32} {w f p S m : Nat} (hS : S < 64) (hn : n ≤ 6) (_hw : w < n) (hc : cz S = 0) : rf n de w (f + 1) p S m = rbase de w p m := by
  show foldN (rstep n de w f p S m) (rbase de w p m) (n - (w + 1)) = _
  exact foldN_id _ (fun i hi => rstep_b (cz_set hS (by omega) hc))
def mx (x y : Int32) : Int32 := if x < y then y else x
def cmost (t : Nat → Int32) (S : Nat) : Nat → Int32
  | 0 => nI 0
  | k + 1 => if S >>> k &&& 1 = 1 then mx (cmost t S k) (t (S ^^^ 1 <<< k)) else cmost t S k
def ctab (n : Nat) (de t0 : Nat → Int32) : Nat → (Nat → Int32)
  | 0 => t0
  | s + 1 => upd (ctab n de t0 s) (s + 1) (if bsum n de (s + 1) n = 0 then cmost (ctab n de t0 s) (s + 1) n + nI 1 else cmost (ctab n de t0 s) (s + 1) n)
theorem cm_n {t : Nat → Int32} {S k : Nat} (h : S >>> k &&& 1 = 0) : cmost t S (k + 1) = cmost t S k := if_neg (by rw [h]; decide)
theorem cm_y {t : Nat → Int32} {S k : Nat} (h : S >>> k &&& 1 = 1) : cmost t S (k + 1) = mx (cmost t S k) (t (S ^^^ 1 <<< k)) := if_pos h
theorem bs_n {n : Nat} {de : Nat → Int32} {S k : Nat} (h : S >>> k &&& 1 = 0) : bsum n de S (k + 1) = bsum n de S k := if_neg (by rw [h]; decide)
theorem bs_y {n : Nat} {de : Nat → Int32} {S k : Nat} (h : S >>> k &&& 1 = 1) : bsum n de S (k + 1) = bsum n de S k + bal n de k := if_pos h
theorem xor_lt {S k : Nat} (h : S < 64) (hk : k < 6) : S ^^^ 1 <<< k < 64 := by
  have : ∀ S : Fin 64, ∀ k : Fin 6, S.val ^^^ 1 <<< k.val < 64 := by decide +kernel
  exact this ⟨S, h⟩ ⟨k, hk⟩
theorem mn_comm (x y : Int32) : mn x y = mn y x := by
  unfold mn
  by_cases h : y < x
  · rw [if_pos h, if_neg (Int32.not_lt.mpr (Int32.le_of_lt h))]
  · by_cases h2 : x < y
    · rw [if_neg h, if_pos h2]
    · rw [if_neg h, if_neg h2]; exact Int32.le_antisymm (Int32.not_lt.mp h) (Int32.not_lt.mp h2)
theorem u2_12 {σ : Nat → Nat → Int32} {f g f2 g2 : Nat → Int32} : u2 (u2 (u2 (u2 σ 1 f) 2 g) 1 f2) 2 g2 = u2 (u2 σ 1 f2) 2 g2 := by
  funext c; simp only [u2]; (repeat' split) <;> first | rfl | omega
theorem u2_0 {σ : Nat → Nat → Int32} : u2 (u2 σ 1 (σ 1)) 2 (σ 2) = σ := by
  funext c; simp only [u2]; (repeat' split) <;> first | rfl | (rename_i h; rw [h]) | omega
theorem u2_01 {σ : Nat → Nat → Int32} (g : Nat → Int32) : u2 (u2 σ 1 (σ 1)) 2 g = u2 σ 2 g := by
  funext c; simp only [u2]; (repeat' split) <;> first | rfl | (rename_i h; rw [h]) | omega
