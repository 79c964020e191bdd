/-! THE SAME ANSWER, AND THE SIDES STAY TOGETHER -/
def PairI (X : Xn) (M1 M2 : XM) (as : List Value) : Prop := ∀ (a : Nat → Nat) (ν : Nat → Nat → Nat) (σ : Nat → Nat → Int32) (τ : Nat → Nat → Int64) (b νm : Nat → Nat) (σm : Nat → Nat → Int32) (τm : Nat → Int64), REL ν σ τ νm σm τm → ∃ (d1 d2 : Nat) (Q1 Q2 : Option Value → va_W → Prop), d1 ≤ 60 ∧ d2 ≤ 60 ∧ Does X d1 M1 (.ref (a 0) :: as) (CW X a ν σ τ) 0 0 Q1 ∧ Does X d2 M2 (.ref (b 0) :: as) (MW X b νm σm τm) 0 0 Q2 ∧ (∀ v w, Q1 v w → (∃ r : Int32, v = some (.int r)) ∧ w.map Prod.fst = (CW X a ν σ τ).map Prod.fst) ∧ (∀ v w, Q2 v w → w.map Prod.fst = (MW X b νm σm τm).map Prod.fst) ∧ ∀ v1 w1 v2 w2, Q1 v1 w1 → Q2 v2 w2 → v2 = v1 ∧ ∃ (ν' : Nat → Nat → Nat) (σ' : Nat → Nat → Int32) (τ' : Nat → Nat → Int64) (νm' : Nat → Nat) (σm' : Nat → Nat → Int32) (τm' : Nat → Int64), w1 = CW X a ν' σ' τ' ∧ w2 = MW X b νm' σm' τm' ∧ REL ν' σ' τ' νm' σm' τm'
def PairL (X : Xn) (M1 M2 : XM) (as : List Value) : Prop := ∀ (a : Nat → Nat) (ν : Nat → Nat → Nat) (σ : Nat → Nat → Int32) (τ : Nat → Nat → Int64) (b νm : Nat → Nat) (σm : Nat → Nat → Int32) (τm : Nat → Int64), REL ν σ τ νm σm τm → ∃ (d1 d2 : Nat) (r : Int64), d1 ≤ 60 ∧ d2 ≤ 60 ∧ Does X d1 M1 (.ref (a 0) :: as) (CW X a ν σ τ) 0 0 (fun vv ww => vv = some (.long r) ∧ ww = CW X a ν σ τ) ∧ Does X d2 M2 (.ref (b 0) :: as) (MW X b νm σm τm) 0 0 (fun vv ww => vv = some (.long r) ∧ ww = MW X b νm σm τm)
theorem CW_f {X : Xn} {a : Nat → Nat} {ν ν' : Nat → Nat → Nat} {σ σ' : Nat → Nat → Int32} {τ τ' : Nat → Nat → Int64} : (CW X a ν' σ' τ').map Prod.fst = (CW X a ν σ τ).map Prod.fst := rfl
theorem MW_f {X : Xn} {a ν ν' : Nat → Nat} {σ σ' : Nat → Nat → Int32} {τ τ' : Nat → Int64} : (MW X a ν' σ' τ').map Prod.fst = (MW X a ν σ τ).map Prod.fst := rfl
theorem PI_mk2 {X : Xn} {M1 M2 : XM} {as : List Value} (H : ∀ (a : Nat → Nat) (ν : Nat → Nat → Nat) (σ : Nat → Nat → Int32) (τ : Nat → Nat → Int64) (b νm : Nat → Nat) (σm : Nat → Nat → Int32) (τm : Nat → Int64), REL ν σ τ νm σm τm → ∃ (d1 d2 : Nat) (r : Int32) (P1 : (Nat → Nat → Nat) → (Nat → Nat → Int32) → (Nat → Nat → Int64) → Prop) (P2 : (Nat → Nat) → (Nat → Nat → Int32) → (Nat → Int64) → Prop), d1 ≤ 60 ∧ d2 ≤ 60 ∧ Does X d1 M1 (.ref (a 0) :: as) (CW X a ν σ τ) 0 0 (fun vv ww => vv = some (.int r) ∧ ∃ ν' σ' τ', ww = CW X a ν' σ' τ' ∧ P1 ν' σ' τ') ∧ Does X d2 M2 (.ref (b 0) :: as) (MW X b νm σm τm) 0 0 (fun vv ww => vv = some (.int r) ∧ ∃ νm' σm' τm', ww = MW X b νm' σm' τm' ∧ P2 νm' σm' τm') ∧ ∀ ν' σ' τ' νm' σm' τm', P1 ν' σ' τ' → P2 νm' σm' τm' → REL ν' σ' τ' νm' σm' τm') : PairI X M1 M2 as := by
  intro a ν σ τ b νm σm τm h
  obtain ⟨d1, d2, r, P1, P2, h1, h2, D1, D2, hR⟩ := H a ν σ τ b νm σm τm h
  refine ⟨d1, d2, _, _, h1, h2, D1, D2, fun v w q => ?_, fun v w q => ?_, fun v1 w1 v2 w2 q1 q2 => ?_⟩
  · obtain ⟨q1, ν', σ', τ', q2, -⟩ := q; exact ⟨⟨r, q1⟩, by rw [q2]; exact CW_f⟩
  · obtain ⟨q1, ν', σ', τ', q2, -⟩ := q; rw [q2]; exact MW_f
  · obtain ⟨a1, ν', σ', τ', a2, a3⟩ := q1
    obtain ⟨b1, νm', σm', τm', b2, b3⟩ := q2
    exact ⟨b1.trans a1.symm, ν', σ', τ', νm', σm', τm', a2, b2, hR _ _ _ _ _ _ a3 b3⟩
theorem PI_mk {X : Xn} {M1 M2 : XM} {as : List Value} (H : ∀ (a : Nat → Nat) (ν : Nat → Nat → Nat) (σ : Nat → Nat → Int32) (τ : Nat → Nat → Int64) (b νm : Nat → Nat) (σm : Nat → Nat → Int32) (τm : Nat → Int64), REL ν σ τ νm σm τm → ∃ (d1 d2 : Nat) (r : Int32) (ν' : Nat → Nat → Nat) (σ' : Nat → Nat → Int32) (τ' : Nat → Nat → Int64) (νm' : Nat → Nat) (σm' : Nat → Nat → Int32) (τm' : Nat → Int64), d1 ≤ 60 ∧ d2 ≤ 60 ∧ Does X d1 M1 (.ref (a 0) :: as) (CW X a ν σ τ) 0 0 (fun vv ww => vv = some (.int r) ∧ ww = CW X a ν' σ' τ') ∧ Does X d2 M2 (.ref (b 0) :: as) (MW X b νm σm τm) 0 0 (fun vv ww => vv = some (.int r) ∧ ww = MW X b νm' σm' τm') ∧ REL ν' σ' τ' νm' σm' τm') : PairI X M1 M2 as := by
  refine PI_mk2 (fun a ν σ τ b νm σm τm h => ?_)
  obtain ⟨d1, d2, r, ν', σ', τ', νm', σm', τm', h1, h2, D1, D2, hR⟩ := H a ν σ τ b νm σm τm h
  refine ⟨d1, d2, r, fun x y z => x = ν' ∧ y = σ' ∧ z = τ', fun x y z => x = νm' ∧ y = σm' ∧ z = τm', h1, h2, D1.mono (fun v w q => ⟨q.1, ν', σ', τ', q.2, rfl, rfl, rfl⟩), D2.mono (fun v w q => ⟨q.1, νm', σm', τm', q.2, rfl, rfl, rfl⟩), ?_⟩
  rintro _ _ _ _ _ _ ⟨rfl, rfl, rfl⟩ ⟨rfl, rfl, rfl⟩; exact hR
/-- the two sides' numbers, by name -/
theorem REL_eqs {ν : Nat → Nat → Nat} {σ : Nat → Nat → Int32} {τ : Nat → Nat → Int64} {νm : Nat → Nat} {σm : Nat → Nat → Int32} {τm : Nat → Int64} (h : REL ν σ τ νm σm τm) : (ν 2 3 = νm 0 ∧ ν 1 9 = νm 6 ∧ ν 9 1 = νm 23 ∧ ν 11 1 = νm 29 ∧ ν 13 1 = νm 32 ∧ ν 37 3 = νm 7 ∧ ν 37 4 = νm 13 ∧ ν 68 1 = νm 36) ∧ (σ 6 = σm 1 ∧ σ 7 = σm 2 ∧ σ 3 = σm 3 ∧ σ 8 = σm 4 ∧ σ 4 = σm 5 ∧ σ 38 = σm 8 ∧ σ 69 = σm 37) :=
  ⟨⟨h.1.1.1.1, h.1.1.1.2.1, h.1.1.1.2.2.2.1, h.1.1.1.2.2.2.2.1, h.1.1.1.2.2.2.2.2, h.2.2.1.1, h.2.2.2.1.1, h.2.2.2.2.1.1⟩, ⟨h.1.1.2.1.1, h.1.1.2.1.2.1, h.1.1.2.1.2.2.1, h.1.1.2.1.2.2.2.1, h.1.1.2.1.2.2.2.2, h.2.2.1.2.2.1, h.2.2.2.2.1.2.2.1⟩⟩
theorem pr_owe (X : Xn) (p q x : Int32) : PairI X M_HB_owe M_Mod_owe [.int p, .int q, .int x] := PI_mk (fun a ν σ τ b νm σm τm h => by
  obtain ⟨⟨e0, -⟩, -, -, -, -, e5, -⟩ := REL_eqs h
  have h6 := (REL_n h).2
  refine ⟨_, _, R_owe (νm 0) (σm 5) p q x, _, _, _, _, _, _, ?_, ?_, (c_HB_owe X a ν σ τ p q x (by omega)).mono (fun v w z => ⟨z.1.trans (by rw [e0, e5]), z.2⟩), c_Mod_owe X b νm σm τm h6 p q x, ?_⟩
  · decide
  · decide
  · rw [e0]
    by_cases hb : b_owe (νm 0) p q x = true
    · rw [if_pos hb, if_pos hb]
      simp only [b_owe, Bool.and_eq_true] at hb
      obtain ⟨⟨hp, hq⟩, hne, hx⟩ := hb
      obtain ⟨P, hP, rfl⟩ := isB_t h6 hp
      obtain ⟨R, hR, rfl⟩ := isB_t h6 hq
      obtain ⟨k, hk, rfl⟩ := inR_t (by decide) hx
      rw [cn_nI (show P < 2 ^ 31 by omega), cn_nI (show R < 2 ^ 31 by omega)]
      exact REL_debt h hP hR hk
    · rw [if_neg hb, if_neg hb]; exact h)
theorem pr_purse (X : Xn) (p x : Int32) : PairI X M_HB_purse M_Mod_purse [.int p, .int x] := PI_mk (fun a ν σ τ b νm σm τm h => by
  obtain ⟨⟨e0, -⟩, -, -, e3, -⟩ := REL_eqs h
  have h6 := (REL_n h).2
  refine ⟨_, _, R_purse (νm 0) (σm 3) p x, _, _, _, _, _, _, ?_, ?_, (c_HB_purse X a ν σ τ p x (by omega)).mono (fun v w z => ⟨z.1.trans (by rw [e0, e3]), z.2⟩), c_Mod_purse X b νm σm τm h6 p x, ?_⟩
  · decide
  · decide
  · rw [e0]
    by_cases hb : b_purse (νm 0) p x = true
    · rw [if_pos hb, if_pos hb]
      simp only [b_purse, Bool.and_eq_true] at hb
      obtain ⟨hp, hx⟩ := hb
      obtain ⟨P, hP, rfl⟩ := isB_t h6 hp
      obtain ⟨k, hk, rfl⟩ := inR_t (by decide) hx
      rw [cn_nI (show P < 2 ^ 31 by omega)]
      exact REL_purse h hP hk
    · rw [if_neg hb, if_neg hb]; exact h)
theorem pr_row (X : Xn) (p k x : Int32) : PairI X M_HB_row M_Mod_row [.int p, .int k, .int x] := PI_mk (fun a ν σ τ b νm σm τm h => by
  obtain ⟨⟨e0, -⟩, e1, -, -, e4, -⟩ := REL_eqs h
  have h6 := (REL_n h).2
  refine ⟨_, _, R_row (νm 0) (σm 1) (σm 4) p k x, _, _, _, _, _, _, ?_, ?_, (c_HB_row X a ν σ τ p k x (by omega)).mono (fun v w z => ⟨z.1.trans (by rw [e0, e1, e4]), z.2⟩), c_Mod_row X b νm σm τm h6 p k x, ?_⟩
  · decide
  · decide
  · rw [e0, e1]
    by_cases hb : b_row (νm 0) (σm 1) p k x = true
    · rw [if_pos hb, if_pos hb]
      simp only [b_row, Bool.and_eq_true] at hb
      obtain ⟨hp, hk, hx, -⟩ := hb
      obtain ⟨P, hP, rfl⟩ := isB_t h6 hp
      obtain ⟨j, hj, rfl⟩ := inR_t (by decide) hk
      obtain ⟨y, hy, rfl⟩ := inR_t (by decide) hx
      rw [cn_nI (show P < 2 ^ 31 by omega), cn_nI (show j < 2 ^ 31 by omega)]
      exact REL_row h hP hj hy
    · rw [if_neg hb, if_neg hb]; exact h)
theorem pr_pass (X : Xn) (x : Int32) : PairI X M_HB_pass M_Mod_pass [.int x] := PI_mk (fun a ν σ τ b νm σm τm h => by
  obtain ⟨⟨-, e9, -⟩, -⟩ := REL_eqs h
  have hd : νm 6 ≤ 9999 := h.1.2.2.1.2.1
  refine ⟨_, _, R_pass (νm 6) x, _, _, _, _, _, _, ?_, ?_, (c_HB_pass X a ν σ τ x (by omega)).mono (fun v w z => ⟨z.1.trans (by rw [e9]), z.2⟩), c_Mod_pass X b νm σm τm hd x, ?_⟩
  · decide
  · decide
  · rw [e9]
    by_cases hb : b_pass (νm 6) x = true
    · rw [if_pos hb, if_pos hb]
      simp only [b_pass, Bool.and_eq_true, decide_eq_true_eq] at hb
      exact REL_pass h hb.2
    · rw [if_neg hb, if_neg hb]; exact h)
theorem pr_feed (X : Xn) (x : Int32) : PairI X M_HB_feed M_Mod_feed [.int x] := PI_mk (fun a ν σ τ b νm σm τm h => by
  obtain ⟨⟨-, -, -, -, -, e7, -⟩, -⟩ := REL_eqs h
  have hd : νm 7 ≤ 100 := h.2.2.1.2.1
  refine ⟨_, _, R_feed (νm 7) x, _, _, _, _, _, _, ?_, ?_, (c_HB_feed X a ν σ τ x (by omega)).mono (fun v w z => ⟨z.1.trans (by rw [e7]), z.2⟩), c_Mod_feed X b νm σm τm hd x, ?_⟩
  · decide
  · decide
  · rw [e7]
    by_cases hb : b_feed (νm 7) x = true
    · rw [if_pos hb, if_pos hb, if_pos hb, if_pos hb]
      simp only [b_feed, Bool.and_eq_true, Bool.not_eq_true', decide_eq_false_iff_not] at hb
      obtain ⟨t, ht, rfl⟩ := inR_t (by decide) hb.1
      exact REL_feed h (by omega) (by omega)
    · rw [if_neg hb, if_neg hb, if_neg hb, if_neg hb]; exact h)
theorem pr_trader (X : Xn) (k v : Int32) : PairI X M_HB_trader M_Mod_trader [.int k, .int v] := PI_mk (fun a ν σ τ b νm σm τm h => by
  obtain ⟨⟨e0, -⟩, -⟩ := REL_eqs h
  have h6 := (REL_n h).2
  have hC := c_HB_trader X a ν σ τ k v (by omega)
  by_cases hn : νm 0 = 6
  · have hb : b_trader (ν 2 3) k v = false := by unfold b_trader; rw [e0, hn]; simp
    refine ⟨_, _, R_trader (νm 0) k v, _, _, _, _, _, _, ?_, ?_, hC.mono (fun v w z => ⟨z.1.trans (by rw [e0]), z.2⟩), c_Mod_trader6 X b νm σm τm hn k v, ?_⟩
    · decide
    · decide
    · rw [if_neg (by rw [hb]; decide), if_neg (by rw [hb]; decide)]; exact h
  · refine ⟨_, _, R_trader (νm 0) k v, _, _, _, _, _, _, ?_, ?_, hC.mono (fun v w z => ⟨z.1.trans (by rw [e0]), z.2⟩), c_Mod_trader X b νm σm τm h6 (fun i hi => h.1.2.2.2.2.1.1 _ (by omega)) (fun q hq => ⟨h.1.2.2.2.2.1.2 _ _ (by omega) hq (Or.inl (Nat.le_refl _)), h.1.2.2.2.2.1.2 _ _ hq (by omega) (Or.inr (Nat.le_refl _))⟩) k v, ?_⟩
    · decide
    · decide
    · by_cases hb : b_trader (νm 0) k v = true
      · have hb2 : b_trader (ν 2 3) k v = true := by rw [e0]; exact hb
        rw [if_pos hb, if_pos hb, if_pos hb2, if_pos hb2]
        simp only [b_trader, Bool.and_eq_true] at hb
        obtain ⟨K, hK, rfl⟩ := inR_t (by decide) hb.1
        obtain ⟨V, hV, rfl⟩ := inR_t (by decide) hb.2.1
        exact REL_trader h (by omega) hK hV
      · have hb2 : ¬ b_trader (ν 2 3) k v = true := by rw [e0]; exact hb
        rw [if_neg hb, if_neg hb, if_neg hb2, if_neg hb2]; exact h)
theorem pr_see (X : Xn) (p q s x y : Int32) : PairI X M_HB_see M_Mod_see [.int p, .int q, .int s, .int x, .int y] := PI_mk (fun a ν σ τ b νm σm τm h => by
  obtain ⟨⟨e0, -, e23, -⟩, -⟩ := REL_eqs h
  have h6 := (REL_n h).2
  have h5 : νm 23 ≤ 5 := h.1.2.2.1.2.2.1
  refine ⟨_, _, R_see (νm 0) (νm 23) p q s x y, _, _, _, _, _, _, ?_, ?_, (c_HB_see X a ν σ τ p q s x y (by omega) (by omega)).mono (fun v w z => ⟨z.1.trans (by rw [e0, e23]), z.2⟩), c_Mod_see X b νm σm τm h6 h5 p q s x y, ?_⟩
  · decide
  · decide
  · rw [e0, e23]
    by_cases hp1 : p = -1
    · have hb : b_see (νm 0) (νm 23) p q s x y = false := by unfold b_see; rw [hp1]; rfl
      unfold N_see
      rw [if_pos hp1, if_neg (by rw [hb]; decide), if_neg (by rw [hb]; decide)]; exact REL_see0 h
    · by_cases hb : b_see (νm 0) (νm 23) p q s x y = true
      · unfold N_see
        rw [if_neg hp1, if_pos hb, if_pos hb, if_pos hb]
        simp only [b_see, Bool.and_eq_true, Bool.not_eq_true', decide_eq_false_iff_not] at hb
        obtain ⟨-, ⟨hp, hq⟩, -, hs, hx, -, hm⟩ := hb
        obtain ⟨P, hP, rfl⟩ := isB_t h6 hp
        obtain ⟨R, hR, rfl⟩ := isB_t h6 hq
        obtain ⟨S0, hS, rfl⟩ := inR_t (by decide) hs
        obtain ⟨D0, hD, rfl⟩ := inR_t (by decide) hx
        exact REL_see h (by omega) (by omega) (by omega) hS hD
      · unfold N_see
        rw [if_neg hp1, if_neg hb, if_neg hb, if_neg hb]
        have e1 : u1 νm 23 (νm 23) = νm := u1_self νm 23
        have e2 : pu ν 9 (u1 (ν 9) 1 (νm 23)) = ν := by rw [← e23, u1_self, pu_self]
        rw [e1, e2]; exact h)
theorem pr_plan (X : Xn) (w p : Int32) : PairI X M_HB_plan M_Mod_plan [.int w, .int p] := PI_mk (fun a ν σ τ b νm σm τm h => by
  obtain ⟨⟨e0, -, -, e29, -⟩, -⟩ := REL_eqs h
  have h6 := (REL_n h).2
  have h5 : νm 29 ≤ 10 := h.1.2.2.1.2.2.2.1
  refine ⟨_, _, R_plan (νm 0) (νm 29) w p, _, _, _, _, _, _, ?_, ?_, (c_HB_plan X a ν σ τ w p (by omega) (by omega)).mono (fun v w z => ⟨z.1.trans (by rw [e0, e29]), z.2⟩), c_Mod_plan X b νm σm τm h6 h5 w p, ?_⟩
  · decide
  · decide
  · rw [e0, e29]
    by_cases hp1 : w = -1
    · have hb : b_plan (νm 0) (νm 29) w p = false := by unfold b_plan; rw [hp1]; rfl
      unfold N_plan
      rw [if_pos hp1, if_neg (by rw [hb]; decide), if_neg (by rw [hb]; decide)]; exact REL_plan0 h
    · by_cases hb : b_plan (νm 0) (νm 29) w p = true
      · unfold N_plan
        rw [if_neg hp1, if_pos hb, if_pos hb, if_pos hb]
        simp only [b_plan, Bool.and_eq_true, Bool.or_eq_true, Bool.not_eq_true', decide_eq_false_iff_not, decide_eq_true_eq] at hb
        obtain ⟨-, hw, hp, hm⟩ := hb
        obtain ⟨W, hW, rfl⟩ := inR_t (by decide) hw
        rw [cn_nI (show W < 2 ^ 31 by omega)] at hp ⊢
        by_cases hw0 : W = 0
        · exact REL_plan h (P := 0) (by omega) hW (by decide) (fun z => absurd hw0 z)
        · obtain ⟨P, hP, rfl⟩ := isB_t h6 (hp.resolve_left hw0)
          exact REL_plan h (by omega) hW (by omega) (fun _ => rfl)
      · unfold N_plan
        rw [if_neg hp1, if_neg hb, if_neg hb, if_neg hb]
        have e1 : u1 νm 29 (νm 29) = νm := u1_self νm 29
        have e2 : pu ν 11 (u1 (ν 11) 1 (νm 29)) = ν := by rw [← e29, u1_self, pu_self]
        rw [e1, e2]; exact h)
theorem pr_book (X : Xn) (p q x : Int32) : PairI X M_HB_book M_Mod_book [.int p, .int q, .int x] := PI_mk (fun a ν σ τ b νm σm τm h => by
  obtain ⟨⟨e0, -, -, -, e32, -⟩, -⟩ := REL_eqs h
  have h6 := (REL_n h).2
  have h5 : νm 32 ≤ 8 := h.1.2.2.1.2.2.2.2
  refine ⟨_, _, R_book (νm 0) (νm 32) p q x, _, _, _, _, _, _, ?_, ?_, (c_HB_book X a ν σ τ p q x (by omega) (by omega)).mono (fun v w z => ⟨z.1.trans (by rw [e0, e32]), z.2⟩), c_Mod_book X b νm σm τm h6 h5 p q x, ?_⟩
  · decide
  · decide
  · rw [e0, e32]
    by_cases hp1 : p = -1
    · have hb : b_book (νm 0) (νm 32) p q x = false := by unfold b_book; rw [hp1]; rfl
      unfold N_book
      rw [if_pos hp1, if_neg (by rw [hb]; decide), if_neg (by rw [hb]; decide)]; exact REL_book0 h
    · by_cases hb : b_book (νm 0) (νm 32) p q x = true
      · unfold N_book
        rw [if_neg hp1, if_pos hb, if_pos hb, if_pos hb]
        simp only [b_book, Bool.and_eq_true, Bool.not_eq_true', decide_eq_false_iff_not] at hb
        obtain ⟨-, ⟨hp, hq⟩, -, hx, hm⟩ := hb
        obtain ⟨P, hP, rfl⟩ := isB_t h6 hp
        obtain ⟨R, hR, rfl⟩ := isB_t h6 hq
        exact REL_book h (by omega) (by omega) (by omega)
      · unfold N_book
        rw [if_neg hp1, if_neg hb, if_neg hb, if_neg hb]
        have e1 : u1 νm 32 (νm 32) = νm := u1_self νm 32
        have e2 : pu ν 13 (u1 (ν 13) 1 (νm 32)) = ν := by rw [← e32, u1_self, pu_self]
        rw [e1, e2]; exact h)
theorem rng_N {f : Nat → Int32} {n b : Nat} (h : rng f n b) : isN f n b := h.1
theorem of_join {n : Nat} {kd v pu de : Nat → Int32} {p w r : Int32} (hn : n ≤ 6) (h : isN de 36 9999) (hp : isN pu 6 9999) (hr : ofP n kd v pu de p w r) : r = cofV n kd v pu de p w := by
  unfold ofP at hr; unfold cofV
  by_cases hb : isB n p = true
  · rw [if_pos hb] at hr ⊢
    obtain ⟨P, hP, rfl⟩ := isB_t hn hb
    (repeat' split at hr) <;> simp_all
    exact join_gift hn h hp (by rw [cn_nI (by omega)]; exact hP) hr
  · rw [if_neg hb] at hr ⊢; exact hr
theorem pr_of (X : Xn) (p w : Int32) : PairI X M_HB_of M_Mod_of [.int p, .int w] := PI_mk (fun a ν σ τ b νm σm τm h => by
  obtain ⟨⟨e0, -⟩, e1, e2, e3, e4, e5, -⟩ := REL_eqs h
  have h6 := (REL_n h).2
  refine ⟨_, _, cofV (νm 0) (σm 1) (σm 2) (σm 3) (σm 5) p w, _, _, _, _, _, _, ?_, ?_, (c_HB_of X a ν σ τ p w (by omega)).mono (fun v w z => ⟨z.1.trans (by rw [e0, e1, e2, e3, e5]), z.2⟩), (c_Mod_of X b νm σm τm h6 p w).mono (fun v w z => by obtain ⟨r, z1, z2, z3⟩ := z; exact ⟨by rw [z2, of_join h6 h.1.2.2.2.1.2.2.2.2.1 h.1.2.2.2.1.2.2.1.1 z1], z3⟩), h⟩
  · decide
  · decide)
theorem told_join {n : Nat} {pu de t : Nat → Int32} {d b : Nat} {x : EX} {w r : Int32} (hn : n ≤ 6) (h : isN de 36 9999) (hp : isN pu 6 9999) (ht : t 0 = nI 0) (hb : b = bd x x.1) (hr : toldP n pu de d x w r) : r = ctoldV n pu de t d b w := by
  unfold toldP at hr; unfold ctoldV
  by_cases h0 : w = 0
  · rw [if_pos h0] at hr ⊢; exact hr
  rw [if_neg h0] at hr ⊢
  by_cases h1 : w = 1
  · rw [if_pos h1] at hr ⊢; rw [hb]; exact hr
  rw [if_neg h1] at hr ⊢
  by_cases h2 : w = 2
  · rw [if_pos h2] at hr ⊢; exact hr
  rw [if_neg h2] at hr ⊢
  by_cases h3 : w = 3
  · rw [if_pos h3] at hr ⊢; rw [hr]; exact (join_rescue hn h hp).symm
  rw [if_neg h3] at hr ⊢
  by_cases h4 : w = 4
  · rw [if_pos h4] at hr ⊢
    obtain ⟨t0, hr⟩ := hr
    rw [hr, join_pay (t2 := t0) hn ht]
  rw [if_neg h4] at hr ⊢
  by_cases h5 : w = 5
  · rw [if_pos h5] at hr ⊢; exact hr
  rw [if_neg h5] at hr ⊢
  by_cases h6 : w = 6
  · rw [if_pos h6] at hr ⊢; exact hr
  rw [if_neg h6] at hr ⊢
  by_cases h7 : w = 7
  · rw [if_pos h7] at hr ⊢; exact hr
  rw [if_neg h7] at hr ⊢; exact hr
theorem pr_told (X : Xn) (w : Int32) : PairI X M_HB_told M_Mod_told [.int w] := PI_mk2 (fun a ν σ τ b νm σm τm h => by
  obtain ⟨⟨e0, e9, -⟩, e1, e2, e3, e4, e5, -⟩ := REL_eqs h
  have h6 := (REL_n h).2
  obtain ⟨hh, x, hx1, hx2⟩ := REL_held h
  refine ⟨_, _, ctoldV (νm 0) (σm 3) (σm 5) (σ 5) (νm 6) (ν (40 + 4 * ν 1 10) 5) w, fun x y z => x = ν ∧ (∃ g : Nat → Int32, g 0 = σ 5 0 ∧ y = u2 σ 5 g) ∧ z = τ, fun x y z => x = νm ∧ (∃ t t2 : Nat → Int32, y = u2 (u2 σm 40 t) 41 t2) ∧ z = τm, ?_, ?_, (c_HB_told X a ν σ τ w (by omega) hh).mono (fun v w z => by obtain ⟨z1, g, z2, z3⟩ := z; exact ⟨z1.trans (by rw [e0, e3, e5, e9]), _, _, _, z3, rfl, ⟨g, z2, rfl⟩, rfl⟩), (c_Mod_told X b νm σm τm h6 x hx2 w).mono (fun v w z => by obtain ⟨r, t, t2, z1, z2, z3⟩ := z; exact ⟨by rw [z2, told_join h6 h.1.2.2.2.1.2.2.2.2.1 h.1.2.2.2.1.2.2.1.1 h.2.2.2.2.1.2.2.2 hx1.2.1 z1], _, _, _, z3, rfl, ⟨t, t2, rfl⟩, rfl⟩), ?_⟩
  · decide
  · decide
  · rintro _ _ _ _ _ _ ⟨rfl, ⟨g, hg, rfl⟩, rfl⟩ ⟨rfl, ⟨t, t2, rfl⟩, rfl⟩
    exact REL_ms (REL_ms (REL_c5 h hg) (by decide)) (by decide))
