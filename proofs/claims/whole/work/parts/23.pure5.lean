/-! LOOKED, ENDS, SHIFT -/
theorem lookF_s {de a b c : Nat → Int32} {m i : Nat} (h : i < m) : lookF de a b c m (m - i) = if de (6 * cn (a i) + cn (b i)) = c i then lookF de a b c m (m - (i + 1)) else nI i := by
  rw [show m - i = (m - (i + 1)) + 1 by omega, lookF, show m - (m - (i + 1) + 1) = i by omega]
theorem judF_s {n : Nat} {de : Nat → Int32} {so z : Int32} {τ : Nat → Int64} {b : Nat} {i : Int32} {k : Nat} (h : k < n) : judF n de so z τ b i (n - k) = if so = -1 ∨ i < 0 ∨ cn z ≤ cn i + k then nI (100 + k) else if τ (b + cn i + k) = (bal n de k).toInt64 then judF n de so z τ b i (n - (k + 1)) else nI k := by
  rw [show n - k = (n - (k + 1)) + 1 by omega, judF, show n - (n - (k + 1) + 1) = k by omega]
theorem pay_w {σ : Nat → Nat → Int32} {A B A1 B1 A2 : Nat → Int32} : u2 (u2 (u2 (u2 (u2 σ 3 A) 5 B) 3 A1) 5 B1) 3 A2 = u2 (u2 σ 3 A2) 5 B1 := by
  funext c; simp only [u2]; (repeat' split) <;> first | rfl | omega
theorem pay_0 {σ : Nat → Nat → Int32} : u2 (u2 σ 3 (σ 3)) 5 (σ 5) = σ := by
  funext c; simp only [u2]; (repeat' split) <;> first | rfl | (rename_i h; rw [h]) | omega
theorem u2_552 {σ : Nat → Nat → Int32} {A B B2 : Nat → Int32} : u2 (u2 (u2 σ 3 A) 5 B) 5 B2 = u2 (u2 σ 3 A) 5 B2 := u2_u2
theorem pays_again {σ : Nat → Nat → Int32} {A B A2 B2 : Nat → Int32} : u2 (u2 (u2 (u2 σ 3 A) 5 B) 3 A2) 5 B2 = u2 (u2 σ 3 A2) 5 B2 := by
  funext c; simp only [u2]; (repeat' split) <;> first | rfl | omega
theorem u1_same6 (ν : Nat → Nat) (x : Nat) : u1 (u1 (u1 (u1 (u1 (u1 ν 6 x) 0 (ν 0)) 6 (ν 6)) 23 (ν 23)) 29 (ν 29)) 32 (ν 32) = ν := by
  funext c; simp only [u1]; (repeat' split) <;> first | rfl | (rename_i h; rw [h]) | omega
theorem paysN_out {p : Nat} (hp : p < 6) {s : (Nat → Int32) × (Nat → Int32)} : ∀ k, k ≤ 6 → (∀ j, 6 ≤ j → (paysN p s k).1 j = s.1 j) ∧ ∀ j, 36 ≤ j → (paysN p s k).2 j = s.2 j := by
  intro k
  induction k with
  | zero => intro _; exact ⟨fun _ _ => rfl, fun _ _ => rfl⟩
  | succ k ih =>
    intro hk
    obtain ⟨h1, h2⟩ := ih (by omega)
    refine ⟨fun j hj => ?_, fun j hj => ?_⟩
    · simp only [paysN, payS]; rw [pk_un (by omega), pk_un (by omega)]; exact h1 j hj
    · simp only [paysN, payS]; rw [pk_un (by omega)]; exact h2 j hj
theorem z2_out {de : Nat → Int32} {p : Nat} (hp : p < 6) : ∀ k, k ≤ 6 → ∀ j, 36 ≤ j → z2 de p k j = de j := by
  intro k
  induction k with
  | zero => intro _ _ _; rfl
  | succ k ih => intro hk j hj; simp only [z2]; rw [pk_un (by omega)]; exact ih (by omega) j hj
theorem z3_out {de : Nat → Int32} {p : Nat} (hp : p < 6) : ∀ k, k ≤ 6 → ∀ j, 36 ≤ j → z3 de p k j = de j := by
  intro k
  induction k with
  | zero => intro _ _ _; rfl
  | succ k ih => intro hk j hj; simp only [z3]; rw [pk_un (by omega)]; exact ih (by omega) j hj
theorem planS_out {n w p : Nat} (hn : n ≤ 6) (hp : p < 6) {s : (Nat → Int32) × (Nat → Int32)} : (∀ j, 6 ≤ j → (planS n w p s).1 j = s.1 j) ∧ ∀ j, 36 ≤ j → (planS n w p s).2 j = s.2 j := by
  unfold planS
  split
  · exact ⟨fun _ _ => rfl, fun _ _ => rfl⟩
  · split
    · exact paysN_out hp n hn
    · split
      · exact ⟨fun _ _ => rfl, z2_out hp n hn⟩
      · exact ⟨fun _ _ => rfl, z3_out hp n hn⟩
theorem planN_out {n : Nat} (hn : n ≤ 6) {go wh : Nat → Int32} {s : (Nat → Int32) × (Nat → Int32)} : ∀ m, (∀ i, i < m → cn (wh i) < 6) → (∀ j, 6 ≤ j → (planN n go wh s m).1 j = s.1 j) ∧ ∀ j, 36 ≤ j → (planN n go wh s m).2 j = s.2 j := by
  intro m
  induction m with
  | zero => intro _; exact ⟨fun _ _ => rfl, fun _ _ => rfl⟩
  | succ m ih =>
    intro h
    obtain ⟨h1, h2⟩ := ih (fun i hi => h i (by omega))
    obtain ⟨h3, h4⟩ := planS_out (w := cn (go m)) hn (h m (by omega)) (s := planN n go wh s m)
    exact ⟨fun j hj => (h3 j hj).trans (h1 j hj), fun j hj => (h4 j hj).trans (h2 j hj)⟩
theorem planN_s {n : Nat} {go wh : Nat → Int32} {s : (Nat → Int32) × (Nat → Int32)} {i w p : Nat} (h1 : go i = nI w) (h2 : wh i = nI p) (hw : w < 2 ^ 31) (hp : p < 2 ^ 31) : planN n go wh s (i + 1) = planS n w p (planN n go wh s i) := by
  rw [planN, h1, h2, cn_nI hw, cn_nI hp]
theorem sub1 (m : Nat) : nI (m + 1) - nI 1 = nI m := by rw [← nI_add]; grind
theorem dec1 (m : Nat) : nI m + Int32.ofInt (-1) = nI m - nI 1 := by
  rw [show Int32.ofInt (-1) = -1 from by decide, nI_one]; grind
theorem neg1 (k : Nat) (h : k < 2 ^ 30) : nI k - nI 1 < 0 ↔ k = 0 := by
  rw [Int32.lt_iff_toInt_lt, pk_sub_toInt h (by omega)]
  simp; omega
theorem cpyL_f {τ : Nat → Int64} {s d k : Nat} (h : s + k < d ∨ d + k ≤ s + k) : vp_updL (va_cpy τ τ s d k) (d + k) (va_cpy τ τ s d k (s + k)) = va_cpy τ τ s d (k + 1) := by
  rw [show va_cpy τ τ s d k (s + k) = τ (s + k) from by simp only [va_cpy]; split <;> first | omega | rfl]
  funext j; simp only [va_cpy, vp_updL]
  (repeat' split) <;> first | rfl | omega | (congr 1; omega)
theorem cpyL_b {τ : Nat → Int64} {s d n m : Nat} (hm : m + 1 ≤ n) (h : s ≤ d ∨ d + n ≤ s) : vp_updL (va_cpy τ τ (s + (m + 1)) (d + (m + 1)) (n - (m + 1))) (d + m) (va_cpy τ τ (s + (m + 1)) (d + (m + 1)) (n - (m + 1)) (s + m)) = va_cpy τ τ (s + m) (d + m) (n - m) := by
  rw [show va_cpy τ τ (s + (m + 1)) (d + (m + 1)) (n - (m + 1)) (s + m) = τ (s + m) from by simp only [va_cpy]; split <;> first | omega | rfl]
  funext j; simp only [va_cpy, vp_updL]
  (repeat' split) <;> first | rfl | omega | (congr 1; omega)
theorem cpyL_0 {τ : Nat → Int64} {s d : Nat} : va_cpy τ τ s d 0 = τ := cpy_0
def b_shift (so sz : Nat → Int32) (t i o j n : Int32) : Bool := (inR t (nI 0) (nI 5) && inR o (nI 0) (nI 5)) && ((decide (0 ≤ so (cn t)) && decide (0 ≤ so (cn o))) && (decide (so (cn t) = so (cn o)) && ((decide (0 ≤ n) && (decide (0 ≤ i) && decide (0 ≤ j))) && (decide (cn i + cn n ≤ cn (sz (cn t))) && decide (cn j + cn n ≤ cn (sz (cn o)))))))
def R_shift (so sz : Nat → Int32) (t i o j n : Int32) : Int32 := if inR t (nI 0) (nI 5) = true ∧ inR o (nI 0) (nI 5) = true then (if so (cn t) < 0 ∨ so (cn o) < 0 then -11 else if so (cn t) = so (cn o) then (if b_shift so sz t i o j n = true then n else -13) else -12) else -1
