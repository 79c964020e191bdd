/-! THE CLASS AGAINST THE MODEL: squeezes, spans, what can be -/
theorem lfF_ext {f g : Nat → Int32} {s : Int32} {m : Nat} : ∀ k, k ≤ m → (∀ z, z < m → f z = g z) → lfF f s m k = lfF g s m k := by
  intro k
  induction k with
  | zero => intro _ _; rfl
  | succ k ih => intro hk h; rw [lfF, lfF, h (m - (k + 1)) (by omega), ih (by omega) h]
theorem cu_ext {f g : Nat → Int32} {s : Int32} : ∀ k, (∀ z, z < k → f z = g z) → cu f s k = cu g s k := by
  intro k
  induction k with
  | zero => intro _; rfl
  | succ k ih => intro h; rw [cu, cu, h k (by omega), ih (fun z hz => h z (by omega))]
theorem sq_lf {f : Nat → Int32} {s : Int32} : ∀ j, j ≤ 100 → (sq f s j).2 = lfF f s 100 j := by
  intro j
  induction j with
  | zero => intro _; rfl
  | succ j ih =>
    intro h
    rw [sq, lfF, show 100 - (j + 1) = 99 - j by omega]
    by_cases hc : f (99 - j) = s
    · rw [if_pos hc, if_pos hc]
    · rw [if_neg hc, if_neg hc, ih (by omega)]
theorem sq_cu {f : Nat → Int32} {s : Int32} : ∀ j, j ≤ 100 → (sq f s j).1 + cu f s (100 - j) = cu f s 100 := by
  intro j
  induction j with
  | zero => intro _; exact Nat.zero_add _
  | succ j ih =>
    intro h
    have h1 := ih (by omega)
    rw [show 100 - j = (99 - j) + 1 by omega, cu] at h1
    rw [sq, show 100 - (j + 1) = 99 - j by omega]
    by_cases hc : f (99 - j) = s
    · rw [if_pos hc] at h1; rw [if_pos hc]; dsimp only; omega
    · rw [if_neg hc] at h1; rw [if_neg hc]; omega
theorem sq_cu0 {f : Nat → Int32} {s : Int32} : (sq f s 100).1 = cu f s 100 := by
  have := sq_cu (f := f) (s := s) 100 (Nat.le_refl _)
  rw [Nat.sub_self, cu] at this; omega
theorem lf_skip {f : Nat → Int32} {s : Int32} : ∀ k, k ≤ 100 → (∀ i, i < k → ¬ f i = s) → lfF f s 100 100 = lfF f s 100 (100 - k) := by
  intro k
  induction k with
  | zero => intro _ _; rfl
  | succ k ih => intro h hn; rw [ih (by omega) (fun i hi => hn i (by omega)), lfF_s (show k < 100 by omega), if_neg (hn k (by omega))]
theorem lf_hit {f : Nat → Int32} {s : Int32} {i : Nat} (hi : i < 100) (he : f i = s) : ∀ t j, j + t = i → ∃ m, m ≤ i ∧ lfF f s 100 (100 - j) = nI m := by
  intro t
  induction t with
  | zero => intro j h; refine ⟨i, Nat.le_refl _, ?_⟩; rw [show j = i by omega, lfF_s hi, if_pos he]
  | succ t ih =>
    intro j h
    rw [lfF_s (show j < 100 by omega)]
    by_cases hc : f j = s
    · exact ⟨j, by omega, if_pos hc⟩
    · rw [if_neg hc]; exact ih (j + 1) (by omega)
theorem seenB_t {rd : Nat → Int32} {z : Int32} : ∀ s, seenB rd z s = true → ∃ k, k < s ∧ rd k = z := by
  intro s
  induction s with
  | zero => intro h; cases h
  | succ s ih =>
    intro h
    rw [seenB, Bool.or_eq_true, decide_eq_true_eq] at h
    rcases h with h | h
    · exact ⟨s, by omega, h⟩
    · obtain ⟨k, hk, e⟩ := ih h; exact ⟨k, by omega, e⟩
theorem seenB_i {rd : Nat → Int32} {z : Int32} {k : Nat} (he : rd k = z) : ∀ s, k < s → seenB rd z s = true := by
  intro s
  induction s with
  | zero => intro h; omega
  | succ s ih =>
    intro h
    rw [seenB, Bool.or_eq_true, decide_eq_true_eq]
    by_cases hk : k = s
    · exact Or.inl (by rw [← hk]; exact he)
    · exact Or.inr (ih (by omega))
theorem csp_sp {f : Nat → Int32} : ∀ k, k ≤ 100 → csp f k = spN f k := by
  intro k
  induction k with
  | zero => intro _; rfl
  | succ k ih =>
    intro h
    rw [csp, spN, ih (by omega)]
    by_cases h0 : f k = nI 0
    · rw [if_neg (fun z => z.1 h0), if_pos (Or.inl h0)]
    · cases hs : seenB f (f k) k with
      | true =>
        rw [if_pos (Or.inr rfl), if_neg]
        intro z
        obtain ⟨i, hi, e⟩ := seenB_t k hs
        obtain ⟨m, hm, e2⟩ := lf_hit (f := f) (s := f k) (i := i) (by omega) e i 0 (by omega)
        have e3 := z.2.symm.trans e2
        have := (nI_eq (by omega) (by omega)).mp e3
        omega
      | false =>
        have hn : ∀ i, i < k → ¬ f i = f k := fun i hi e => by
          have h9 := seenB_i e k hi
          rw [hs] at h9; exact Bool.noConfusion h9
        have hL : lfF f (f k) 100 100 = nI k := by
          rw [lf_skip k (by omega) hn, lfF_s (show k < 100 by omega)]; exact if_pos rfl
        rw [if_pos ⟨h0, hL⟩, if_neg (fun z => z.elim h0 (fun q => by cases q))]
theorem csp_ext {f g : Nat → Int32} (h : ∀ z, z < 100 → f z = g z) : ∀ k, k ≤ 100 → csp f k = csp g k := by
  intro k
  induction k with
  | zero => intro _; rfl
  | succ k ih =>
    intro hk
    rw [csp, csp, ih (by omega), h k (by omega), lfF_ext 100 (Nat.le_refl _) h]
theorem allU_ext {ok ok2 : Nat → Bool} {sb : Nat → Int32} {p m : Nat} (h : ∀ z, z < m → sb z = nI p → ok z = ok2 z) : ∀ k, k ≤ m → allU ok sb p m k = allU ok2 sb p m k := by
  intro k
  induction k with
  | zero => intro _; rfl
  | succ k ih =>
    intro hk
    rw [allU, allU, ih (by omega)]
    by_cases hc : sb (m - (k + 1)) = nI p
    · rw [h _ (by omega) hc]
    · rw [decide_eq_false hc]; rfl
theorem cnt9_ext {ok ok2 : Nat → Bool} : ∀ j, j ≤ 10 → (∀ k, k ≤ 9 → ok k = ok2 k) → cnt9 ok j = cnt9 ok2 j := by
  intro j
  induction j with
  | zero => intro _ _; rfl
  | succ j ih => intro hj h; rw [cnt9, cnt9, h (9 - j) (by omega), ih (by omega) h]
/-- who reads as seen, if p's number is k -/
def okK (x : EX) (kd rw : Nat → Int32) (d : Nat) (f : Nat → Int32) (m p k : Nat) : Bool := allU (fun z => soC x kd rw d f z (nI k)) (col f 0) p m m
theorem okK_V {x : EX} {kd v rw : Nat → Int32} {d : Nat} {f : Nat → Int32} {m p k : Nat} (hp : p < 2 ^ 31) : okK x kd rw d f m p k = okV x kd v rw d (col f 0) (col f 1) (col f 2) (col f 3) (col f 4) m p k := by
  unfold okK okV
  refine allU_ext (fun z _ e => ?_) m (Nat.le_refl _)
  have e2 : f (5 * z + 0) = nI p := e
  unfold soC soB col
  rw [e2, cn_nI hp, pk_us]
theorem soC_B {x : EX} {kd v rw : Nat → Int32} {d : Nat} {f : Nat → Int32} {i : Nat} : soB x kd v rw d (col f 0) (col f 1) (col f 2) (col f 3) (col f 4) i = soC x kd rw d f i (v (cn (f (5 * i + 0)))) := rfl
/-- kinds above -/
theorem ab_v : ∀ u : Fin 7, (u.val = 0 → aboveV.getD u.val 0 = -1) ∧ (¬ u.val = 0 → aboveV.getD u.val 0 = nI (abv u.val)) := by decide +kernel
theorem tk_step {u k i u0 : Nat} (hu : u ≤ 6) (hk : k ≤ 6) (hui : u + i ≤ 6) (hne : ¬ u = k) (hc : cls u k = cls u0 k) : (aboveV.getD u 0 = -1 ∧ cls u0 k = false) ∨ ∃ w, w ≤ 6 ∧ w + (i + 1) ≤ 6 ∧ aboveV.getD u 0 = nI w ∧ cls w k = cls u0 k := by
  by_cases h0 : u = 0
  · refine Or.inl ⟨(ab_v ⟨u, by omega⟩).1 h0, ?_⟩
    rw [← hc]
    exact (cls_0 ⟨u, by omega⟩ ⟨k, by omega⟩ (Or.inr h0)).trans (decide_eq_false hne)
  · have h1 := abv_lt ⟨u, by omega⟩ (by show 0 < u; omega)
    exact Or.inr ⟨abv u, by dsimp only at h1; omega, by dsimp only at h1; omega, (ab_v ⟨u, by omega⟩).2 h0, (cls_up ⟨u, by omega⟩ ⟨k, by omega⟩ hne (by show 0 < u; omega)).trans hc⟩
/-- a market as another one is -/
def cpN (ν : Nat → Nat → Nat) (c d : Nat) : Nat → Nat → Nat := pu (pu (pu (pu (pu ν (c + 1) (u1 (ν (c + 1)) 3 (ν (d + 1) 3))) (c + 8) (u1 (ν (c + 8)) 1 (ν (d + 8) 1))) (c + 10) (u1 (ν (c + 10)) 1 (ν (d + 10) 1))) (c + 12) (u1 (ν (c + 12)) 1 (ν (d + 12) 1))) c (u1 (u1 (ν c) 9 (ν d 9)) 10 (ν d 10))
def cpS (σ : Nat → Nat → Int32) (c d : Nat) : Nat → Nat → Int32 := u2 (u2 (u2 (u2 (u2 (u2 (u2 (u2 σ (c + 2) (σ (d + 2))) (c + 3) (σ (d + 3))) (c + 5) (σ (d + 5))) (c + 6) (σ (d + 6))) (c + 7) (σ (d + 7))) (c + 9) (σ (d + 9))) (c + 11) (σ (d + 11))) (c + 13) (σ (d + 13))
theorem nz_I {y : Nat} (h : y < 2 ^ 31) (h0 : ¬ y = 0) : ¬ nI y = 0 := fun z => h0 ((nI_eq h (by decide)).mp (show nI y = nI 0 from z))
