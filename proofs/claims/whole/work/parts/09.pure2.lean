/-! KEEP AND AGAIN -/
theorem cpy_0 {α : Type} {f g : Nat → α} {sp dp : Nat} : va_cpy f g sp dp 0 = g := by
  funext j; simp only [va_cpy]; split
  · omega
  · rfl
theorem cpy_s {f g : Nat → Int32} {sp dp i : Nat} : upd (va_cpy f g sp dp i) (dp + i) (f (sp + i)) = va_cpy f g sp dp (i + 1) := by
  funext j; simp only [va_cpy, upd]
  (repeat' split) <;> first | rfl | omega | (congr 1; omega)
theorem cpy_s0 {f g : Nat → Int32} {dp i : Nat} : upd (va_cpy f g 0 dp i) (dp + i) (f i) = va_cpy f g 0 dp (i + 1) := by
  have := cpy_s (f := f) (g := g) (sp := 0) (dp := dp) (i := i)
  rwa [Nat.zero_add] at this
/-- a write passes a copy that lies elsewhere -/
theorem cpy_out {f g : Nat → Int32} {sp dp n k : Nat} {x : Int32} (h : k < dp ∨ dp + n ≤ k) : upd (va_cpy f g sp dp n) k x = va_cpy f (upd g k x) sp dp n := by
  funext j; simp only [va_cpy, upd]
  (repeat' split) <;> first | rfl | omega
theorem cpy_id {f g : Nat → Int32} {sp n : Nat} (h : ∀ j, j < n → f (sp + j) = g j) : va_cpy f g sp 0 n = g := by
  funext j; simp only [va_cpy]
  split
  · rename_i hj; rw [Nat.sub_zero]; exact h j (by omega)
  · rfl
def kA (σ : Nat → Nat → Int32) (t : Nat → Int32) (i : Nat) : Nat → Int32 := va_cpy (σ 3) (va_cpy (σ 2) (va_cpy (σ 1) t 0 0 i) 0 6 i) 0 12 i
def kB (σ : Nat → Nat → Int32) (t : Nat → Int32) (i : Nat) : Nat → Int32 := va_cpy (σ 4) (kA σ t 6) 0 18 i
def kC (σ : Nat → Nat → Int32) (t : Nat → Int32) (i : Nat) : Nat → Int32 := va_cpy (σ 5) (kB σ t 24) 0 42 i
def kD (σ : Nat → Nat → Int32) (t : Nat → Int32) (i : Nat) : Nat → Int32 := va_cpy (σ 28) (va_cpy (σ 27) (va_cpy (σ 26) (va_cpy (σ 25) (va_cpy (σ 24) (kC σ t 36) 0 78 i) 0 83 i) 0 88 i) 0 93 i) 0 98 i
def kE (σ : Nat → Nat → Int32) (t : Nat → Int32) (i : Nat) : Nat → Int32 := va_cpy (σ 31) (va_cpy (σ 30) (kD σ t 5) 0 103 i) 0 113 i
def kF (σ : Nat → Nat → Int32) (t : Nat → Int32) (i : Nat) : Nat → Int32 := va_cpy (σ 35) (va_cpy (σ 34) (va_cpy (σ 33) (kE σ t 10) 0 123 i) 0 131 i) 0 139 i
def keepF (ν : Nat → Nat) (σ : Nat → Nat → Int32) (t : Nat → Int32) : Nat → Int32 := upd (upd (upd (upd (upd (upd (kF σ t 8) 147 (nI (ν 0))) 148 (nI (ν 6))) 149 (nI (ν 23))) 150 (nI (ν 29))) 151 (nI (ν 32))) 152 (σ 14 0)
theorem kA_0 {σ : Nat → Nat → Int32} {t : Nat → Int32} : kA σ t 0 = t := by simp only [kA, cpy_0]
theorem kA_s {σ : Nat → Nat → Int32} {t : Nat → Int32} {i : Nat} (h : i < 6) : upd (upd (upd (kA σ t i) i (σ 1 i)) (6 + i) (σ 2 i)) (12 + i) (σ 3 i) = kA σ t (i + 1) := by
  unfold kA
  rw [cpy_out (k := i) (by omega), cpy_out (k := i) (by omega), show upd (va_cpy (σ 1) t 0 0 i) i (σ 1 i) = va_cpy (σ 1) t 0 0 (i + 1) from by have := cpy_s0 (f := σ 1) (g := t) (dp := 0) (i := i); rwa [Nat.zero_add] at this, cpy_out (k := 6 + i) (by omega), cpy_s0, cpy_s0]
theorem kD_s {σ : Nat → Nat → Int32} {t : Nat → Int32} {i : Nat} (h : i < 5) : upd (upd (upd (upd (upd (kD σ t i) (78 + i) (σ 24 i)) (83 + i) (σ 25 i)) (88 + i) (σ 26 i)) (93 + i) (σ 27 i)) (98 + i) (σ 28 i) = kD σ t (i + 1) := by
  unfold kD
  rw [cpy_out (k := 78 + i) (by omega), cpy_out (k := 78 + i) (by omega), cpy_out (k := 78 + i) (by omega), cpy_out (k := 78 + i) (by omega), cpy_s0, cpy_out (k := 83 + i) (by omega), cpy_out (k := 83 + i) (by omega), cpy_out (k := 83 + i) (by omega), cpy_s0, cpy_out (k := 88 + i) (by omega), cpy_out (k := 88 + i) (by omega), cpy_s0, cpy_out (k := 93 + i) (by omega), cpy_s0, cpy_s0]
theorem kE_s {σ : Nat → Nat → Int32} {t : Nat → Int32} {i : Nat} (h : i < 10) : upd (upd (kE σ t i) (103 + i) (σ 30 i)) (113 + i) (σ 31 i) = kE σ t (i + 1) := by
  unfold kE
  rw [cpy_out (k := 103 + i) (by omega), cpy_s0, cpy_s0]
theorem kF_s {σ : Nat → Nat → Int32} {t : Nat → Int32} {i : Nat} (h : i < 8) : upd (upd (upd (kF σ t i) (123 + i) (σ 33 i)) (131 + i) (σ 34 i)) (139 + i) (σ 35 i) = kF σ t (i + 1) := by
  unfold kF
  rw [cpy_out (k := 123 + i) (by omega), cpy_out (k := 123 + i) (by omega), cpy_s0, cpy_out (k := 131 + i) (by omega), cpy_s0, cpy_s0]
theorem kB_0 {σ : Nat → Nat → Int32} {t : Nat → Int32} : kB σ t 0 = kA σ t 6 := cpy_0
theorem kC_0 {σ : Nat → Nat → Int32} {t : Nat → Int32} : kC σ t 0 = kB σ t 24 := cpy_0
theorem kD_0 {σ : Nat → Nat → Int32} {t : Nat → Int32} : kD σ t 0 = kC σ t 36 := by simp only [kD, cpy_0]
theorem kE_0 {σ : Nat → Nat → Int32} {t : Nat → Int32} : kE σ t 0 = kD σ t 5 := by simp only [kE, cpy_0]
theorem kF_0 {σ : Nat → Nat → Int32} {t : Nat → Int32} : kF σ t 0 = kE σ t 10 := by simp only [kF, cpy_0]
/-- what again writes -/
def g3 (σ : Nat → Nat → Int32) (g : Nat → Int32) (i : Nat) : Nat → Nat → Int32 := u2 (u2 (u2 σ 1 (va_cpy g (σ 1) 0 0 i)) 2 (va_cpy g (σ 2) 6 0 i)) 3 (va_cpy g (σ 3) 12 0 i)
def g4 (σ : Nat → Nat → Int32) (g : Nat → Int32) (i : Nat) : Nat → Nat → Int32 := u2 (g3 σ g 6) 4 (va_cpy g (σ 4) 18 0 i)
def g5 (σ : Nat → Nat → Int32) (g : Nat → Int32) (i : Nat) : Nat → Nat → Int32 := u2 (g4 σ g 24) 5 (va_cpy g (σ 5) 42 0 i)
def g6 (σ : Nat → Nat → Int32) (g : Nat → Int32) (i : Nat) : Nat → Nat → Int32 := u2 (u2 (u2 (u2 (u2 (g5 σ g 36) 24 (va_cpy g (σ 24) 78 0 i)) 25 (va_cpy g (σ 25) 83 0 i)) 26 (va_cpy g (σ 26) 88 0 i)) 27 (va_cpy g (σ 27) 93 0 i)) 28 (va_cpy g (σ 28) 98 0 i)
def g7 (σ : Nat → Nat → Int32) (g : Nat → Int32) (i : Nat) : Nat → Nat → Int32 := u2 (u2 (g6 σ g 5) 30 (va_cpy g (σ 30) 103 0 i)) 31 (va_cpy g (σ 31) 113 0 i)
def g8 (σ : Nat → Nat → Int32) (g : Nat → Int32) (i : Nat) : Nat → Nat → Int32 := u2 (u2 (u2 (g7 σ g 10) 33 (va_cpy g (σ 33) 123 0 i)) 34 (va_cpy g (σ 34) 131 0 i)) 35 (va_cpy g (σ 35) 139 0 i)
def againF (σ : Nat → Nat → Int32) (g : Nat → Int32) : Nat → Nat → Int32 := u2 (g8 σ g 8) 14 (upd (σ 14) 0 (g 152))
theorem u2_swap {σ : Nat → Nat → Int32} {a b : Nat} {f g : Nat → Int32} (h : a ≠ b) : u2 (u2 σ a f) b g = u2 (u2 σ b g) a f := by
  funext c; simp only [u2]; (repeat' split) <;> first | rfl | omega
theorem cpy_1 {f g : Nat → Int32} {sp i : Nat} : upd (va_cpy f g sp 0 i) i (f (sp + i)) = va_cpy f g sp 0 (i + 1) := by
  have := cpy_s (f := f) (g := g) (sp := sp) (dp := 0) (i := i)
  rwa [Nat.zero_add] at this
theorem cpy_1z {f g : Nat → Int32} {i : Nat} : upd (va_cpy f g 0 0 i) i (f i) = va_cpy f g 0 0 (i + 1) := by
  have := cpy_1 (f := f) (g := g) (sp := 0) (i := i)
  rwa [Nat.zero_add] at this
theorem g3_0 {σ : Nat → Nat → Int32} {g : Nat → Int32} : g3 σ g 0 = σ := by
  unfold g3
  rw [cpy_0, cpy_0, cpy_0]
  funext c; simp only [u2]; (repeat' split) <;> first | rfl | (rename_i h; rw [h]) | omega
theorem g3_s {σ : Nat → Nat → Int32} {g : Nat → Int32} {i : Nat} : u2 (u2 (u2 (g3 σ g i) 1 (upd (va_cpy g (σ 1) 0 0 i) i (g i))) 2 (upd (va_cpy g (σ 2) 6 0 i) i (g (6 + i)))) 3 (upd (va_cpy g (σ 3) 12 0 i) i (g (12 + i))) = g3 σ g (i + 1) := by
  rw [cpy_1z, cpy_1, cpy_1]
  unfold g3
  funext c; simp only [u2]; (repeat' split) <;> first | rfl | omega
theorem g4_0 {σ : Nat → Nat → Int32} {g : Nat → Int32} : g4 σ g 0 = g3 σ g 6 := by
  unfold g4; rw [cpy_0]
  exact u2_self (σ := g3 σ g 6) (k := 4)
theorem g4_s {σ : Nat → Nat → Int32} {g : Nat → Int32} {i : Nat} : u2 (g4 σ g i) 4 (upd (va_cpy g (σ 4) 18 0 i) i (g (18 + i))) = g4 σ g (i + 1) := by
  rw [cpy_1]; unfold g4; rw [u2_u2]
theorem g5_0 {σ : Nat → Nat → Int32} {g : Nat → Int32} : g5 σ g 0 = g4 σ g 24 := by
  unfold g5; rw [cpy_0]
  exact u2_self (σ := g4 σ g 24) (k := 5)
theorem g5_s {σ : Nat → Nat → Int32} {g : Nat → Int32} {i : Nat} : u2 (g5 σ g i) 5 (upd (va_cpy g (σ 5) 42 0 i) i (g (42 + i))) = g5 σ g (i + 1) := by
  rw [cpy_1]; unfold g5; rw [u2_u2]
theorem u2_eq {σ τ : Nat → Nat → Int32} {k : Nat} {f : Nat → Int32} (h : ∀ c, c ≠ k → σ c = τ c) (hf : f = τ k) : u2 σ k f = τ := by
  funext c; by_cases hc : c = k
  · rw [hc, u2_s, hf]
  · rw [u2_n hc, h c hc]
theorem g6_0 {σ : Nat → Nat → Int32} {g : Nat → Int32} : g6 σ g 0 = g5 σ g 36 := by
  unfold g6; rw [cpy_0, cpy_0, cpy_0, cpy_0, cpy_0]
  have e : ∀ c, 20 ≤ c → g5 σ g 36 c = σ c := fun c hc => by
    unfold g5 g4 g3; rw [u2_n (by omega), u2_n (by omega), u2_n (by omega), u2_n (by omega), u2_n (by omega)]
  rw [← e 24 (by omega), ← e 25 (by omega), ← e 26 (by omega), ← e 27 (by omega), ← e 28 (by omega)]
  funext c; simp only [u2]; (repeat' split) <;> first | rfl | (rename_i h; rw [h]) | omega
theorem g6_s {σ : Nat → Nat → Int32} {g : Nat → Int32} {i : Nat} : u2 (u2 (u2 (u2 (u2 (g6 σ g i) 24 (upd (va_cpy g (σ 24) 78 0 i) i (g (78 + i)))) 25 (upd (va_cpy g (σ 25) 83 0 i) i (g (83 + i)))) 26 (upd (va_cpy g (σ 26) 88 0 i) i (g (88 + i)))) 27 (upd (va_cpy g (σ 27) 93 0 i) i (g (93 + i)))) 28 (upd (va_cpy g (σ 28) 98 0 i) i (g (98 + i))) = g6 σ g (i + 1) := by
  rw [cpy_1, cpy_1, cpy_1, cpy_1, cpy_1]
  unfold g6
  funext c; simp only [u2]; (repeat' split) <;> first | rfl | omega
theorem g7_0 {σ : Nat → Nat → Int32} {g : Nat → Int32} : g7 σ g 0 = g6 σ g 5 := by
  unfold g7; rw [cpy_0, cpy_0]
  have e : ∀ c, 29 ≤ c → g6 σ g 5 c = σ c := fun c hc => by
    unfold g6 g5 g4 g3; rw [u2_n (by omega), u2_n (by omega), u2_n (by omega), u2_n (by omega), u2_n (by omega), u2_n (by omega), u2_n (by omega), u2_n (by omega), u2_n (by omega), u2_n (by omega)]
  rw [← e 30 (by omega), ← e 31 (by omega)]
  funext c; simp only [u2]; (repeat' split) <;> first | rfl | (rename_i h; rw [h]) | omega
theorem g7_s {σ : Nat → Nat → Int32} {g : Nat → Int32} {i : Nat} : u2 (u2 (g7 σ g i) 30 (upd (va_cpy g (σ 30) 103 0 i) i (g (103 + i)))) 31 (upd (va_cpy g (σ 31) 113 0 i) i (g (113 + i))) = g7 σ g (i + 1) := by
  rw [cpy_1, cpy_1]
  unfold g7
  funext c; simp only [u2]; (repeat' split) <;> first | rfl | omega
theorem g8_0 {σ : Nat → Nat → Int32} {g : Nat → Int32} : g8 σ g 0 = g7 σ g 10 := by
  unfold g8; rw [cpy_0, cpy_0, cpy_0]
  have e : ∀ c, 32 ≤ c → g7 σ g 10 c = σ c := fun c hc => by
    unfold g7 g6 g5 g4 g3; rw [u2_n (by omega), u2_n (by omega), u2_n (by omega), u2_n (by omega), u2_n (by omega), u2_n (by omega), u2_n (by omega), u2_n (by omega), u2_n (by omega), u2_n (by omega), u2_n (by omega), u2_n (by omega)]
  rw [← e 33 (by omega), ← e 34 (by omega), ← e 35 (by omega)]
  funext c; simp only [u2]; (repeat' split) <;> first | rfl | (rename_i h; rw [h]) | omega
theorem g8_s {σ : Nat → Nat → Int32} {g : Nat → Int32} {i : Nat} : u2 (u2 (u2 (g8 σ g i) 33 (upd (va_cpy g (σ 33) 123 0 i) i (g (123 + i)))) 34 (upd (va_cpy g (σ 34) 131 0 i) i (g (131 + i)))) 35 (upd (va_cpy g (σ 35) 139 0 i) i (g (139 + i))) = g8 σ g (i + 1) := by
  rw [cpy_1, cpy_1, cpy_1]
  unfold g8
  funext c; simp only [u2]; (repeat' split) <;> first | rfl | omega
/-- how many of six bits are set -/
def popc (S : Nat) : Nat := (S >>> 0 &&& 1) + (S >>> 1 &&& 1) + (S >>> 2 &&& 1) + (S >>> 3 &&& 1) + (S >>> 4 &&& 1) + (S >>> 5 &&& 1)
def us (x y : Int32) : Int32 := (x.toUInt32 >>> (y.toUInt32 &&& Int32.toUInt32 31)).toInt32
def bc1 (x : Int32) : Int32 := x - (us x (nI 1) &&& nI 1431655765)
def bc2 (x : Int32) : Int32 := (x &&& nI 858993459) + (us x (nI 2) &&& nI 858993459)
def bc3 (x : Int32) : Int32 := (x + us x (nI 4)) &&& nI 252645135
def bc4 (x : Int32) : Int32 := x + us x (nI 8)
def bc5 (x : Int32) : Int32 := (x + us x (nI 16)) &&& nI 63
theorem bitCount_all : ∀ S : Fin 64, bc5 (bc4 (bc3 (bc2 (bc1 (nI S.val))))) = nI (popc S.val) := by decide +kernel
theorem bitCount_eq (S : Nat) (hS : S < 64) : bc5 (bc4 (bc3 (bc2 (bc1 (nI S))))) = nI (popc S) := bitCount_all ⟨S, hS⟩
theorem bitCount_some (S : Nat) (hS : S < 64) {x : Int32} (h : x = bc5 (bc4 (bc3 (bc2 (bc1 (nI S)))))) : some (Value.int x) = some (Value.int (nI (popc S))) := by rw [h, bitCount_eq S hS]
