/-! what stands in the model's arrays when the clauses cs of exchange e have been read -/
def cl0 : Nat × Nat × List Nat := (0, 0, [])
def clA (e cd : Nat) (c f g h l : Nat → Int32) (i : Nat) (d : Nat × Nat × List Nat) : Prop := f (10 * e + i) = nI d.1 ∧ g (10 * e + i) = nI d.2.1 ∧ l (10 * e + i) = nI d.2.2.length ∧ ∃ b, h (10 * e + i) = nI b ∧ b + d.2.2.length ≤ cd ∧ ∀ j, j < d.2.2.length → c (b + j) = nI (d.2.2.getD j 0)
def below (σ : Nat → Nat → Int32) (e c0 : Nat) (c f g h l : Nat → Int32) : Prop := (∀ j, j < c0 → c j = σ 20 j) ∧ ∀ j, j < 10 * e → f j = σ 16 j ∧ g j = σ 17 j ∧ h j = σ 18 j ∧ l j = σ 19 j
def XI (σ : Nat → Nat → Int32) (e c0 : Nat) (cs : List (Nat × Nat × List Nat)) (s : TS) (f g h l : Nat → Int32) : Prop := c0 ≤ s.cd ∧ below σ e c0 s.c f g h l ∧ ∀ i, i < cs.length → clA e s.cd s.c f g h l i (cs.getD i cl0)
theorem putL_lo {c : Nat → Int32} {k j : Nat} {l : List Nat} (h : j < k) : putL c k l j = c j := by unfold putL; rw [if_neg (by omega)]
theorem putL_in {c : Nat → Int32} {k j : Nat} {l : List Nat} (h : j < l.length) : putL c k l (k + j) = nI (l.getD j 0) := by unfold putL; rw [if_pos ⟨by omega, by omega⟩, Nat.add_sub_cancel_left]
theorem XI_0 {σ : Nat → Nat → Int32} {e : Nat} {s : TS} (h : s.c = σ 20) : XI σ e s.cd [] s (σ 16) (σ 17) (σ 18) (σ 19) := ⟨Nat.le_refl _, ⟨fun j _ => by rw [h], fun j _ => ⟨rfl, rfl, rfl, rfl⟩⟩, fun i hi => absurd hi (Nat.not_lt_zero _)⟩
theorem XI_below {n e c0 : Nat} {tx : Nat → Nat} {σ : Nat → Nat → Int32} {cs : List (Nat × Nat × List Nat)} {s : TS} {f g h l f2 g2 h2 l2 : Nat → Int32} (hX : XI σ e c0 cs s f g h l) (hs : s.ax ≤ n) (hP : clP n tx (u4 σ f g h l) (10 * e + cs.length) s f2 g2 h2 l2) : below σ e c0 (tCl n tx s).2.c f2 g2 h2 l2 ∧ c0 ≤ (tCl n tx s).2.cd := by
  obtain ⟨_, _, ⟨a1, a2⟩, _⟩ := tCl_a (n := n) (tx := tx) s hs
  refine ⟨⟨fun j hj => ?_, fun j hj => ?_⟩, by rw [a1]; have := hX.1; omega⟩
  · rw [a2, putL_lo (by have := hX.1; omega)]; exact hX.2.1.1 j hj
  · obtain ⟨b1, b2, b3, b4⟩ := hP.1 j (by omega)
    obtain ⟨d1, d2, d3, d4⟩ := hX.2.1.2 j hj
    exact ⟨b1.trans d1, b2.trans d2, b3.trans d3, b4.trans d4⟩
theorem XI_s {n e c0 : Nat} {tx : Nat → Nat} {σ : Nat → Nat → Int32} {cs : List (Nat × Nat × List Nat)} {s : TS} {f g h l f2 g2 h2 l2 : Nat → Int32} (hX : XI σ e c0 cs s f g h l) (hs : s.ax ≤ n) (hP : clP n tx (u4 σ f g h l) (10 * e + cs.length) s f2 g2 h2 l2) (ht : (tCl n tx s).1 = true) : XI σ e c0 (cs ++ [(aKd n tx s.ax, (aCl n tx s.ax).2.2.1, (aCl n tx s.ax).2.2.2)]) (tCl n tx s).2 f2 g2 h2 l2 := by
  have hb := XI_below hX hs hP
  obtain ⟨_, _, ⟨a1, a2⟩, a3⟩ := tCl_a (n := n) (tx := tx) s hs
  obtain ⟨k1, k2, k3⟩ := a3 ht
  refine ⟨hb.2, hb.1, fun i hi => ?_⟩
  rw [List.length_append, List.length_singleton] at hi
  by_cases e1 : i < cs.length
  · rw [List.getD_eq_getElem?_getD, List.getElem?_append_left e1, ← List.getD_eq_getElem?_getD]
    obtain ⟨b1, b2, b3, b4⟩ := hP.1 (10 * e + i) (by omega)
    obtain ⟨d1, d2, d3, b, d4, d5, d6⟩ := hX.2.2 i e1
    refine ⟨b1.trans d1, b2.trans d2, b4.trans d3, b, b3.trans d4, by rw [a1]; omega, fun j hj => ?_⟩
    rw [a2, putL_lo (by omega)]; exact d6 j hj
  · have e2 : i = cs.length := by omega
    subst e2
    rw [List.getD_eq_getElem?_getD, List.getElem?_append_right (Nat.le_refl _), Nat.sub_self]
    obtain ⟨c1, c2, c3, c4⟩ := hP.2 ht
    refine ⟨by rw [c1, k2]; rfl, by rw [c2, k3]; rfl, ?_, s.cd, c3, ?_, fun j hj => ?_⟩
    · rw [c4, a1, Nat.add_sub_cancel_left]; rfl
    · rw [a1]; exact Nat.le_refl _
    · rw [a2]; exact putL_in hj
