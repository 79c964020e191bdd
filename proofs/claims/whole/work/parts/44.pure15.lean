/-! an exchange: its end -/
theorem tCl_g {n : Nat} {tx : Nat → Nat} (s : TS) (h : s.ax ≤ n) : s.ax ≤ (tCl n tx s).2.ax ∧ (tCl n tx s).2.ax ≤ n ∧ (tCl n tx s).2.cd + s.ax ≤ s.cd + (tCl n tx s).2.ax := by
  unfold tCl; split
  · unfold tCk
    obtain ⟨l3, l4, _⟩ := tAll_g (n := n) (tx := tx) (litC (3 + tKd n tx s)) s h
    have l6 := l3.2.1 h
    generalize tAll n tx (litC (3 + tKd n tx s)) s = A at l3 l4 l6 ⊢
    obtain ⟨m4, m5, _, _⟩ := tNum_g (n := n) (tx := tx) A.2
    have m7 := m4.2.1 l6
    generalize tNum n tx A.2 = C at m4 m5 m7 ⊢
    have z1 := l3.1; have z2 := m4.1
    split
    · split
      · split
        · have b := tIs_g (c := 32) (tx := tx) (s := tO C.2) (n := n) m7
          have b1 : C.2.ax ≤ (tIs n tx 32 (tO C.2)).2.ax := b.1
          have b2 := b.2.1 m7
          have b3 : (tIs n tx 32 (tO C.2)).2.cd + C.2.ax ≤ C.2.cd + (tIs n tx 32 (tO C.2)).2.ax := b.2.2.1
          split
          · have x := tEx_g (n := n) (tx := tx) (tIs n tx 32 (tO C.2)).2 b2
            have x1 := x.1; have x2 := x.2.1 b2; have x3 := x.2.2.1
            exact ⟨by omega, x2, by omega⟩
          · exact ⟨by show s.ax ≤ (tIs n tx 32 (tO C.2)).2.ax; omega, b2, by show (tIs n tx 32 (tO C.2)).2.cd + s.ax ≤ s.cd + (tIs n tx 32 (tO C.2)).2.ax; omega⟩
        · exact ⟨by show s.ax ≤ C.2.ax; omega, m7, by show C.2.cd + s.ax ≤ s.cd + C.2.ax; omega⟩
      · exact ⟨by show s.ax ≤ C.2.ax; omega, m7, by show C.2.cd + s.ax ≤ s.cd + C.2.ax; omega⟩
    · exact ⟨z1, l6, by show A.2.cd + s.ax ≤ s.cd + A.2.ax; omega⟩
  · exact ⟨Nat.le_refl _, h, Nat.le_refl _⟩
theorem u4_u4 (σ : Nat → Nat → Int32) (f g h l f2 g2 h2 l2 : Nat → Int32) : u4 (u4 σ f g h l) f2 g2 h2 l2 = u4 σ f2 g2 h2 l2 := by
  funext k; unfold u4
  by_cases h1 : k = 19
  · rw [h1, u2_s, u2_s]
  by_cases h2 : k = 18
  · rw [h2]; rfl
  by_cases h3 : k = 17
  · rw [h3]; rfl
  by_cases h4 : k = 16
  · rw [h4]; rfl
  rw [u2_n h1, u2_n h2, u2_n h3, u2_n h4, u2_n h1, u2_n h2, u2_n h3, u2_n h4, u2_n h1, u2_n h2, u2_n h3, u2_n h4]
def exQ (n : Nat) (tx : Nat → Nat) (ν : Nat → Nat) (σ : Nat → Nat → Int32) (ν' : Nat → Nat) (σ' : Nat → Nat → Int32) (v : Int32) : Prop :=
  (∀ k, k ≠ 7 → k ≠ 9 → k ≠ 11 → k ≠ 12 → k ≠ 13 → k ≠ 21 → ν' k = ν k) ∧ ν' 7 = 0 ∧ (∀ k, k ≠ 10 → k ≠ 14 → k ≠ 15 → k ≠ 16 → k ≠ 17 → k ≠ 18 → k ≠ 19 → k ≠ 20 → σ' k = σ k) ∧ below σ (ν 13) (ν 21) (σ' 20) (σ' 16) (σ' 17) (σ' 18) (σ' 19) ∧
  (if (exR n tx).1 = true then v = nI (ν 13) ∧ ν' 13 = ν 13 + 1 ∧ ν 21 ≤ ν' 21 ∧ ν' 21 ≤ ν 21 + 100 ∧ σ' 14 0 = nI (ν 13) ∧ (∀ j, j ≠ ν 13 → σ' 15 j = σ 15 j) ∧ σ' 15 (ν 13) = nI (exR n tx).2.2.length ∧ (exR n tx).2.2.length ≤ 10 ∧ ∀ i, i < (exR n tx).2.2.length → clA (ν 13) (ν' 21) (σ' 20) (σ' 16) (σ' 17) (σ' 18) (σ' 19) i ((exR n tx).2.2.getD i cl0)
   else v = -10 - nI (exR n tx).2.1 ∧ ν' 13 = ν 13 ∧ ν' 21 = ν 21 ∧ σ' 14 = σ 14 ∧ σ' 15 = σ 15)
theorem MT_0 (X : Xn) (a ν : Nat → Nat) (σ : Nat → Nat → Int32) (τ : Nat → Int64) (tx : Nat → Nat) (h8 : σ 8 = fun x => nI (tx x)) (p vl : Nat) (hv : σ 10 0 = nI vl) : MT X a ν σ τ tx (TSm p (ν 11) (ν 12) (ν 21) vl (σ 20)) = MW X a (u1 ν 9 p) σ τ := by
  have e : tS σ tx (TSm p (ν 11) (ν 12) (ν 21) vl (σ 20)) = σ := by
    funext k; unfold tS
    by_cases h1 : k = 8
    · rw [if_pos h1, h1, h8]
    by_cases h2 : k = 10
    · rw [if_neg h1, if_pos h2, h2]; show upd (σ 10) 0 (nI vl) = σ 10; rw [← hv, upd_self]
    by_cases h3 : k = 20
    · rw [if_neg h1, if_neg h2, if_pos h3, h3]; rfl
    rw [if_neg h1, if_neg h2, if_neg h3]
  unfold MT; rw [e]; rfl
