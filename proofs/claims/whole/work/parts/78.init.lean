/-! THE TWO SIDES AT THEIR BIRTH -/
def nI0 (A : Nat) : Nat → Nat → Nat := fun c f => if c = 37 ∧ f = 6 then A else if 40 ≤ c ∧ c < 68 ∧ f = 5 then 5 else 0
def sI0 : Nat → Nat → Int32 := fun c k => if 71 ≤ c ∧ k = 1 then -1 else 0
def mI0 : Nat → Nat → Int32 := fun c _ => if c = 14 ∨ c = 43 then -1 else 0
theorem sI0_0 {c : Nat} (h : c < 71) : sI0 c = fun _ => 0 := by
  funext k; unfold sI0; exact if_neg (fun z => by omega)
theorem mI0_0 {c : Nat} (h : ¬ c = 14) (h2 : ¬ c = 43) : mI0 c = fun _ => 0 := by
  funext k; unfold mI0; exact if_neg (fun z => by omega)
theorem nI0_0 {A c f : Nat} (h : ¬ (c = 37 ∧ f = 6)) (h2 : ¬ (40 ≤ c ∧ c < 68 ∧ f = 5)) : nI0 A c f = 0 := by
  unfold nI0; rw [if_neg h, if_neg h2]
theorem REL_0 (A : Nat) : REL (nI0 A) sI0 (fun _ _ => 0) (fun _ => 0) mI0 (fun _ => 0) := by
  have s := @sI0_0
  have m := @mI0_0
  have hS : ∀ t, cSo sI0 t = -1 := fun t => by unfold cSo sI0; exact if_pos ⟨by omega, rfl⟩
  have hZ : ∀ t, nI0 A (71 + 2 * t) 2 = 0 := fun t => nI0_0 (by omega) (by omega)
  refine ⟨⟨⟨⟨?_, ?_, ?_, ?_, ?_, ?_⟩, ?_, ?_, ⟨?_, ?_⟩, ?_⟩, ?_, ?_⟩, Or.inl ⟨?_, ?_⟩, ⟨?_, by decide, ?_, fun j => ⟨0, by decide, ?_⟩⟩, ⟨?_, by decide, by decide, ?_, ?_, fun e he => absurd he (Nat.not_lt_zero _)⟩, ⟨?_, by decide, ?_, ?_⟩, ?_, ?_, ?_, ?_⟩
  · exact nI0_0 (by omega) (by omega)
  · exact nI0_0 (by omega) (by omega)
  · rw [nI0_0 (by omega) (by omega)]; decide
  · exact nI0_0 (by omega) (by omega)
  · exact nI0_0 (by omega) (by omega)
  · exact nI0_0 (by omega) (by omega)
  · refine ⟨?_, ?_, ?_, ?_, ?_⟩
    all_goals rw [s (by decide), m (by decide) (by decide)]
  · refine ⟨?_, ?_, ?_, ?_, ?_⟩
    all_goals
      rw [s (by decide), m (by decide) (by decide)]; rfl
  · rw [s (by decide), m (by decide) (by decide)]; rfl
  · intro i hi; exact absurd hi (Nat.not_lt_zero _)
  · refine ⟨?_, ?_, ?_⟩
    all_goals
      rw [s (by decide), m (by decide) (by decide)]; rfl
  · rw [nI0_0 (by omega) (by omega)]; exact Nat.zero_le _
  · refine ⟨⟨Nat.zero_le _, Nat.zero_le _, Nat.zero_le _, Nat.zero_le _, Nat.zero_le _⟩, ⟨?_, ?_, ?_, ?_, ?_⟩, ⟨?_, ?_⟩, fun i hi => absurd hi (Nat.not_lt_zero _), fun i hi => absurd hi (Nat.not_lt_zero _), fun i hi => absurd hi (Nat.not_lt_zero _), ?_⟩
    · rw [m (by decide) (by decide)]; exact rng_0 _ _
    · rw [m (by decide) (by decide)]; exact rng_0 _ _
    · rw [m (by decide) (by decide)]; exact rng_0 _ _
    · rw [m (by decide) (by decide)]; exact rng_0 _ _
    · rw [m (by decide) (by decide)]; exact rng_0 _ _
    · rw [m (by decide) (by decide)]; exact fun _ _ => rfl
    · rw [m (by decide) (by decide)]; exact fun _ _ _ _ _ => rfl
    · refine ⟨?_, ?_, ?_, ?_, ?_, ?_, ?_, ?_, ?_, ?_⟩
      all_goals
        rw [m (by decide) (by decide)]; exact tdy_0 _
  · exact nI0_0 (by omega) (by omega)
  · rw [m (by decide) (by decide)]; rfl
  · exact nI0_0 (by omega) (by omega)
  · rw [s (by decide), m (by decide) (by decide)]
  · rw [m (by decide) (by decide)]; rfl
  · exact nI0_0 (by omega) (by omega)
  · exact nI0_0 (by omega) (by omega)
  · rfl
  · exact nI0_0 (by omega) (by omega)
  · rw [s (by decide), m (by decide) (by decide)]
  · rw [s (by decide)]; rfl
  · funext t; rw [hS]; rfl
  · funext t; unfold cSz; rw [hZ, m (by decide) (by decide)]; rfl
  · rfl
  · intro t ht; rw [hZ, hS]; exact ⟨by decide, by decide, Or.inl ⟨rfl, rfl⟩⟩
