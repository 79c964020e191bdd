/-! WHOM ONE MUST RESCUE; PAYMENTS; RINGS -/
theorem u1_self (ν : Nat → Nat) (k : Nat) : u1 ν k (ν k) = ν := by
  funext c; by_cases h : c = k
  · rw [h, u1_s]
  · rw [u1_n h]
theorem u1_same5 (ν : Nat → Nat) : u1 (u1 (u1 (u1 (u1 ν 0 (ν 0)) 6 (ν 6)) 23 (ν 23)) 29 (ν 29)) 32 (ν 32) = ν := by
  rw [u1_self, u1_self, u1_self, u1_self, u1_self]
/-- one's purse is 99999 if its bit is set -/
def rich (pu : Nat → Int32) (S : Nat) : Nat → (Nat → Int32)
  | 0 => pu
  | k + 1 => if S >>> k &&& 1 = 1 then upd (rich pu S k) k (nI 99999) else rich pu S k
theorem rich_out' {pu : Nat → Int32} {S j : Nat} : ∀ k, k ≤ j → rich pu S k j = pu j := by
  intro k
  induction k with
  | zero => intro _; rfl
  | succ k ih =>
    intro h
    rw [rich]
    split
    · rw [pk_un (by omega)]; exact ih (by omega)
    · exact ih (by omega)
theorem rich_out {pu : Nat → Int32} {S j k : Nat} (h : 6 ≤ j) (hk : k ≤ 6 := by first | assumption | omega) : rich pu S k j = pu j := rich_out' k (by omega)
def sv (n : Nat) (pu de : Nat → Int32) (S : Nat) : Bool := decide (fails n (rich pu S n) de 0 = 0)
theorem keep_at {ν : Nat → Nat} {σ : Nat → Nat → Int32} {t : Nat → Int32} : (∀ j, j < 6 → keepF ν σ t j = σ 1 j) ∧ (∀ j, j < 6 → keepF ν σ t (6 + j) = σ 2 j) ∧ (∀ j, j < 6 → keepF ν σ t (12 + j) = σ 3 j) ∧ (∀ j, j < 24 → keepF ν σ t (18 + j) = σ 4 j) ∧ (∀ j, j < 36 → keepF ν σ t (42 + j) = σ 5 j) ∧ (∀ j, j < 5 → keepF ν σ t (78 + j) = σ 24 j ∧ keepF ν σ t (83 + j) = σ 25 j ∧ keepF ν σ t (88 + j) = σ 26 j ∧ keepF ν σ t (93 + j) = σ 27 j ∧ keepF ν σ t (98 + j) = σ 28 j) ∧ (∀ j, j < 10 → keepF ν σ t (103 + j) = σ 30 j ∧ keepF ν σ t (113 + j) = σ 31 j) ∧ (∀ j, j < 8 → keepF ν σ t (123 + j) = σ 33 j ∧ keepF ν σ t (131 + j) = σ 34 j ∧ keepF ν σ t (139 + j) = σ 35 j) ∧ keepF ν σ t 147 = nI (ν 0) ∧ keepF ν σ t 148 = nI (ν 6) ∧ keepF ν σ t 149 = nI (ν 23) ∧ keepF ν σ t 150 = nI (ν 29) ∧ keepF ν σ t 151 = nI (ν 32) ∧ keepF ν σ t 152 = σ 14 0 := by
  have key : ∀ j, j < 147 → keepF ν σ t j = kF σ t 8 j := fun j hj => by
    unfold keepF; rw [pk_un (by omega), pk_un (by omega), pk_un (by omega), pk_un (by omega), pk_un (by omega), pk_un (by omega)]
  have i1 : ∀ {f g : Nat → Int32} {dp n j : Nat}, j < n → va_cpy f g 0 dp n (dp + j) = f j := fun {f g dp n j} h => by
    rw [pk_cpy_in (by omega) (by omega)]; congr 1; omega
  have o1 : ∀ {f g : Nat → Int32} {dp n j : Nat}, j < dp ∨ dp + n ≤ j → va_cpy f g 0 dp n j = g j := fun h => pk_cpy_out h
  have F8 : ∀ j, j < 123 → kF σ t 8 j = kE σ t 10 j := fun j hj => by unfold kF; rw [o1 (by omega), o1 (by omega), o1 (by omega)]
  have E8 : ∀ j, j < 103 → kE σ t 10 j = kD σ t 5 j := fun j hj => by unfold kE; rw [o1 (by omega), o1 (by omega)]
  have D8 : ∀ j, j < 78 → kD σ t 5 j = kC σ t 36 j := fun j hj => by unfold kD; rw [o1 (by omega), o1 (by omega), o1 (by omega), o1 (by omega), o1 (by omega)]
  have C8 : ∀ j, j < 42 → kC σ t 36 j = kB σ t 24 j := fun j hj => by unfold kC; rw [o1 (by omega)]
  have B8 : ∀ j, j < 18 → kB σ t 24 j = kA σ t 6 j := fun j hj => by unfold kB; rw [o1 (by omega)]
  refine ⟨fun j h => ?_, fun j h => ?_, fun j h => ?_, fun j h => ?_, fun j h => ?_, fun j h => ⟨?_, ?_, ?_, ?_, ?_⟩, fun j h => ⟨?_, ?_⟩, fun j h => ⟨?_, ?_, ?_⟩, ?_, ?_, ?_, ?_, ?_, ?_⟩
  · rw [key _ (by omega), F8 _ (by omega), E8 _ (by omega), D8 _ (by omega), C8 _ (by omega), B8 _ (by omega)]; unfold kA; rw [o1 (by omega), o1 (by omega)]; have := i1 (f := σ 1) (g := t) (dp := 0) h; rwa [Nat.zero_add] at this
  · rw [key _ (by omega), F8 _ (by omega), E8 _ (by omega), D8 _ (by omega), C8 _ (by omega), B8 _ (by omega)]; unfold kA; rw [o1 (by omega), i1 h]
  · rw [key _ (by omega), F8 _ (by omega), E8 _ (by omega), D8 _ (by omega), C8 _ (by omega), B8 _ (by omega)]; unfold kA; rw [i1 h]
  · rw [key _ (by omega), F8 _ (by omega), E8 _ (by omega), D8 _ (by omega), C8 _ (by omega)]; unfold kB; rw [i1 h]
  · rw [key _ (by omega), F8 _ (by omega), E8 _ (by omega), D8 _ (by omega)]; unfold kC; rw [i1 h]
  · rw [key _ (by omega), F8 _ (by omega), E8 _ (by omega)]; unfold kD; rw [o1 (by omega), o1 (by omega), o1 (by omega), o1 (by omega), i1 h]
  · rw [key _ (by omega), F8 _ (by omega), E8 _ (by omega)]; unfold kD; rw [o1 (by omega), o1 (by omega), o1 (by omega), i1 h]
  · rw [key _ (by omega), F8 _ (by omega), E8 _ (by omega)]; unfold kD; rw [o1 (by omega), o1 (by omega), i1 h]
  · rw [key _ (by omega), F8 _ (by omega), E8 _ (by omega)]; unfold kD; rw [o1 (by omega), i1 h]
  · rw [key _ (by omega), F8 _ (by omega), E8 _ (by omega)]; unfold kD; rw [i1 h]
  · rw [key _ (by omega), F8 _ (by omega)]; unfold kE; rw [o1 (by omega), i1 h]
  · rw [key _ (by omega), F8 _ (by omega)]; unfold kE; rw [i1 h]
  · rw [key _ (by omega)]; unfold kF; rw [o1 (by omega), o1 (by omega), i1 h]
  · rw [key _ (by omega)]; unfold kF; rw [o1 (by omega), i1 h]
  · rw [key _ (by omega)]; unfold kF; rw [i1 h]
  · unfold keepF; rw [pk_un (by omega), pk_un (by omega), pk_un (by omega), pk_un (by omega), pk_un (by omega), pk_us]
  · unfold keepF; rw [pk_un (by omega), pk_un (by omega), pk_un (by omega), pk_un (by omega), pk_us]
  · unfold keepF; rw [pk_un (by omega), pk_un (by omega), pk_un (by omega), pk_us]
  · unfold keepF; rw [pk_un (by omega), pk_un (by omega), pk_us]
  · unfold keepF; rw [pk_un (by omega), pk_us]
  · unfold keepF; rw [pk_us]
theorem cpy_back {f g h : Nat → Int32} {sp n : Nat} (h1 : ∀ j, j < n → f (sp + j) = h j) (h2 : ∀ j, n ≤ j → g j = h j) : va_cpy f g sp 0 n = h := by
  funext j; simp only [va_cpy]
  split
  · rename_i hj; rw [Nat.sub_zero]; exact h1 j (by omega)
  · exact h2 j (by omega)
/-- what again restores, if but the purses and the debts have changed, and within their rows -/
theorem again_keep {ν : Nat → Nat} {σ σ2 : Nat → Nat → Int32} {t : Nat → Int32} (h0 : ∀ c, c ≠ 40 → c ≠ 3 → c ≠ 5 → σ2 c = σ c) (h40 : σ2 40 = keepF ν σ t) (h3 : ∀ j, 6 ≤ j → σ2 3 j = σ 3 j) (h5 : ∀ j, 36 ≤ j → σ2 5 j = σ 5 j) : againF σ2 (keepF ν σ t) = u2 σ 40 (keepF ν σ t) := by
  obtain ⟨k1, k2, k3, k4, k5, k6, k7, k8, k9, k10, k11, k12, k13, k14⟩ := keep_at (ν := ν) (σ := σ) (t := t)
  have hz : ∀ c, c ≠ 40 → c ≠ 3 → c ≠ 5 → ∀ j, σ2 c j = σ c j := fun c a b d j => by rw [h0 c a b d]
  funext c
  unfold againF g8 g7 g6 g5 g4 g3
  by_cases c14 : c = 14
  · subst c14; rw [u2_s, u2_n (by decide), k14, h0 14 (by decide) (by decide) (by decide), upd_self]
  rw [u2_n c14]
  by_cases c35 : c = 35
  · subst c35; rw [u2_s, u2_n (by decide)]; exact cpy_back (fun j hj => (k8 j hj).2.2) (fun j _ => hz 35 (by decide) (by decide) (by decide) j)
  rw [u2_n c35]
  by_cases c34 : c = 34
  · subst c34; rw [u2_s, u2_n (by decide)]; exact cpy_back (fun j hj => (k8 j hj).2.1) (fun j _ => hz 34 (by decide) (by decide) (by decide) j)
  rw [u2_n c34]
  by_cases c33 : c = 33
  · subst c33; rw [u2_s, u2_n (by decide)]; exact cpy_back (fun j hj => (k8 j hj).1) (fun j _ => hz 33 (by decide) (by decide) (by decide) j)
  rw [u2_n c33]
  by_cases c31 : c = 31
  · subst c31; rw [u2_s, u2_n (by decide)]; exact cpy_back (fun j hj => (k7 j hj).2) (fun j _ => hz 31 (by decide) (by decide) (by decide) j)
  rw [u2_n c31]
  by_cases c30 : c = 30
  · subst c30; rw [u2_s, u2_n (by decide)]; exact cpy_back (fun j hj => (k7 j hj).1) (fun j _ => hz 30 (by decide) (by decide) (by decide) j)
  rw [u2_n c30]
  by_cases c28 : c = 28
  · subst c28; rw [u2_s, u2_n (by decide)]; exact cpy_back (fun j hj => (k6 j hj).2.2.2.2) (fun j _ => hz 28 (by decide) (by decide) (by decide) j)
  rw [u2_n c28]
  by_cases c27 : c = 27
  · subst c27; rw [u2_s, u2_n (by decide)]; exact cpy_back (fun j hj => (k6 j hj).2.2.2.1) (fun j _ => hz 27 (by decide) (by decide) (by decide) j)
  rw [u2_n c27]
  by_cases c26 : c = 26
  · subst c26; rw [u2_s, u2_n (by decide)]; exact cpy_back (fun j hj => (k6 j hj).2.2.1) (fun j _ => hz 26 (by decide) (by decide) (by decide) j)
  rw [u2_n c26]
  by_cases c25 : c = 25
  · subst c25; rw [u2_s, u2_n (by decide)]; exact cpy_back (fun j hj => (k6 j hj).2.1) (fun j _ => hz 25 (by decide) (by decide) (by decide) j)
  rw [u2_n c25]
  by_cases c24 : c = 24
  · subst c24; rw [u2_s, u2_n (by decide)]; exact cpy_back (fun j hj => (k6 j hj).1) (fun j _ => hz 24 (by decide) (by decide) (by decide) j)
  rw [u2_n c24]
  by_cases c5 : c = 5
  · subst c5; rw [u2_s, u2_n (by decide)]; exact cpy_back k5 h5
  rw [u2_n c5]
  by_cases c4 : c = 4
  · subst c4; rw [u2_s, u2_n (by decide)]; exact cpy_back k4 (fun j _ => hz 4 (by decide) (by decide) (by decide) j)
  rw [u2_n c4]
  by_cases c3 : c = 3
  · subst c3; rw [u2_s, u2_n (by decide)]; exact cpy_back k3 h3
  rw [u2_n c3]
  by_cases c2 : c = 2
  · subst c2; rw [u2_s, u2_n (by decide)]; exact cpy_back k2 (fun j _ => hz 2 (by decide) (by decide) (by decide) j)
  rw [u2_n c2]
  by_cases c1 : c = 1
  · subst c1; rw [u2_s, u2_n (by decide)]; exact cpy_back (fun j hj => by rw [Nat.zero_add]; exact k1 j hj) (fun j _ => hz 1 (by decide) (by decide) (by decide) j)
  rw [u2_n c1]
  by_cases c40 : c = 40
  · subst c40; rw [u2_s]; exact h40
  · rw [u2_n c40, h0 c c40 c3 c5]
