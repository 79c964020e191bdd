/-! THE SAME ANSWER: what is read, told, kept -/
theorem REL_v {ν : Nat → Nat → Nat} {σ : Nat → Nat → Int32} {τ : Nat → Nat → Int64} {νm : Nat → Nat} {σm : Nat → Nat → Int32} {τm : Nat → Int64} (h : REL ν σ τ νm σm τm) : νm 6 ≤ 9999 ∧ isN (σm 1) 6 6 ∧ isN (σm 2) 6 9 ∧ isN (σm 3) 6 9999 ∧ isN (σm 4) 24 9 ∧ isN (σm 5) 36 9999 :=
  ⟨h.1.2.2.1.2.1, h.1.2.2.2.1.1.1, h.1.2.2.2.1.2.1.1, h.1.2.2.2.1.2.2.1.1, h.1.2.2.2.1.2.2.2.1.1, h.1.2.2.2.1.2.2.2.2.1⟩
theorem pr_reads (X : Xn) (p q s m : Int32) : PairI X M_HB_reads M_Mod_reads [.int p, .int q, .int s, .int m] := PI_mk2 (fun a ν σ τ b νm σm τm h => by
  obtain ⟨⟨e0, e9, -⟩, e1, e2, e3, e4, e5, -⟩ := REL_eqs h
  have h6 := (REL_n h).2
  obtain ⟨hd, -⟩ := REL_v h
  obtain ⟨hh, x, hx1, hx2⟩ := REL_held h
  refine ⟨_, _, R_reads (νm 0) x (σm 1) (σm 2) (σm 4) (νm 6) p q s m, fun x y z => x = ν ∧ (∃ g : Nat → Int32, y = u2 σ 16 g) ∧ z = τ, fun x y z => x = νm ∧ (∃ t : Nat → Int32, y = u2 σm 22 t) ∧ z = τm, ?_, ?_, (c_HB_reads X a ν σ τ x p q s m (by omega) (by omega) hh hx1).mono (fun v w z => by obtain ⟨z1, g, z2⟩ := z; exact ⟨z1.trans (by rw [e0, e1, e2, e4, e9]), _, _, _, z2, rfl, ⟨g, rfl⟩, rfl⟩), (c_Mod_reads X b νm σm τm h6 hd x hx2 p q s m).mono (fun v w z => by obtain ⟨t, z1, z2⟩ := z; exact ⟨z1, _, _, _, z2, rfl, ⟨t, rfl⟩, rfl⟩), ?_⟩
  · decide
  · decide
  · rintro _ _ _ _ _ _ ⟨rfl, ⟨g, rfl⟩, rfl⟩ ⟨rfl, ⟨t, rfl⟩, rfl⟩
    exact REL_ms (REL_cs h (by decide)) (by decide))
theorem shakeV_N {x : EX} {kd v rw de : Nat → Int32} {d P R S : Nat} (hx : okX x) (hv : isN v 6 9) (hr : isN rw 24 9) (hd : isN de 36 9999) (hP : P < 6) (hR : R < 6) (hS : S ≤ 99) : ∃ k : Nat, k ≤ 9999 ∧ shakeV x kd v rw de d (nI P) (nI R) (nI S) = nI k := by
  obtain ⟨vv, hv9, ev⟩ := hv P hP
  obtain ⟨r, hr3, er⟩ := rd_nat hx (p := P) (q := R) (kd := kd P) (rw := rw) (s := S) (d := d) hS ev hv9 (hr _ (by have := Nat.mod_lt d (show 0 < 4 by decide); omega))
  obtain ⟨k, hk, ek⟩ := hd (6 * P + R) (by omega)
  unfold shakeV
  rw [cn_nI (show P < 2 ^ 31 by omega), cn_nI (show R < 2 ^ 31 by omega), cn_nI (show S < 2 ^ 31 by omega), er, ek, nI_add]
  unfold mn
  by_cases c : nI (k + r) < nI 9999
  · rw [if_pos c]
    rw [nI_ltI (by omega) (by decide)] at c
    exact ⟨k + r, by omega, rfl⟩
  · rw [if_neg c]; exact ⟨9999, Nat.le_refl _, rfl⟩
theorem pr_shake (X : Xn) (p q s : Int32) : PairI X M_HB_shake M_Mod_shake [.int p, .int q, .int s] := PI_mk2 (fun a ν σ τ b νm σm τm h => by
  obtain ⟨⟨e0, e9, -⟩, e1, e2, e3, e4, e5, -⟩ := REL_eqs h
  have h6 := (REL_n h).2
  obtain ⟨hd, v1, v2, v3, v4, v5⟩ := REL_v h
  obtain ⟨hh, x, hx1, hx2⟩ := REL_held h
  refine ⟨_, _, R_shake (νm 0) x (σm 1) (σm 2) (σm 4) (σm 5) (νm 6) p q s, fun x1 y z => x1 = ν ∧ (∃ g : Nat → Int32, y = u2 (if b_shake (νm 0) p q s = true then u2 σ 4 (upd (σ 4) (6 * cn p + cn q) (shakeV x (σm 1) (σm 2) (σm 4) (σm 5) (νm 6) p q s)) else σ) 16 g) ∧ z = τ, fun x1 y z => x1 = νm ∧ (∃ t : Nat → Int32, y = if b_shake (νm 0) p q s = true then u2 (u2 σm 22 t) 5 (upd (σm 5) (6 * cn p + cn q) (shakeV x (σm 1) (σm 2) (σm 4) (σm 5) (νm 6) p q s)) else u2 σm 22 t) ∧ z = τm, ?_, ?_, (c_HB_shake X a ν σ τ x p q s (by omega) (by omega) hh hx1).mono (fun v w z => by obtain ⟨z1, g, z2⟩ := z; exact ⟨z1.trans (by rw [e0, e1, e2, e4, e5, e9]), _, _, _, z2, rfl, ⟨g, by rw [e0, e1, e2, e4, e9, show shakeV x (σm 1) (σm 2) (σm 4) (σ 4) (νm 6) p q s = shakeV x (σm 1) (σm 2) (σm 4) (σm 5) (νm 6) p q s from by rw [e5]]⟩, rfl⟩), (c_Mod_shake X b νm σm τm h6 hd x hx2 p q s).mono (fun v w z => by obtain ⟨t, z1, z2⟩ := z; exact ⟨z1, _, _, _, z2, rfl, ⟨t, rfl⟩, rfl⟩), ?_⟩
  · decide
  · decide
  · intro ν' σ' τ' νm' σm' τm' q1 q2
    obtain ⟨qa, ⟨g, qb⟩, qc⟩ := q1
    obtain ⟨ra, ⟨t, rb⟩, rc⟩ := q2
    rw [qa, qb, qc, ra, rb, rc]
    refine REL_cs ?_ (by decide)
    have h' := REL_ms h (c := 22) (f := t) (by decide)
    by_cases hb : b_shake (νm 0) p q s = true
    · rw [if_pos hb, if_pos hb]
      simp only [b_shake, Bool.and_eq_true] at hb
      obtain ⟨⟨hp, hq⟩, -, hs⟩ := hb
      obtain ⟨P, hP, rfl⟩ := isB_t h6 hp
      obtain ⟨R, hR, rfl⟩ := isB_t h6 hq
      obtain ⟨S, hS, rfl⟩ := inR_t (by decide) hs
      obtain ⟨k, hk, ek⟩ := shakeV_N (kd := σm 1) (d := νm 6) hx2.1 v2 v4 v5 (show P < 6 by omega) (show R < 6 by omega) hS
      rw [ek, cn_nI (show P < 2 ^ 31 by omega), cn_nI (show R < 2 ^ 31 by omega)]
      exact REL_debt h' hP hR hk
    · rw [if_neg hb, if_neg hb]; exact h')
theorem pr_between (X : Xn) (p q w : Int32) : PairI X M_HB_between M_Mod_between [.int p, .int q, .int w] := PI_mk2 (fun a ν σ τ b νm σm τm h => by
  obtain ⟨⟨e0, e9, -⟩, e1, e2, e3, e4, e5, -⟩ := REL_eqs h
  have h6 := (REL_n h).2
  obtain ⟨hd, v1, v2, v3, v4, v5⟩ := REL_v h
  obtain ⟨hh, x, hx1, hx2⟩ := REL_held h
  refine ⟨_, _, R_between (νm 0) x (σm 1) (σm 2) (σm 4) (σm 5) (νm 6) p q w, fun x y z => x = ν ∧ (∃ sm g : Nat → Int32, y = u2 (u2 σ 15 sm) 16 g) ∧ z = τ, fun x y z => x = νm ∧ (∃ g t : Nat → Int32, y = u2 (u2 σm 42 g) 22 t) ∧ z = τm, ?_, ?_, (c_HB_between X a ν σ τ x p q w (by omega) (by omega) hh hx1).mono (fun v w z => by obtain ⟨z1, sm, g, z2⟩ := z; exact ⟨z1.trans (by rw [e0, e1, e2, e4, e5, e9]), _, _, _, z2, rfl, ⟨sm, g, rfl⟩, rfl⟩), (c_Mod_between X b νm σm τm h6 hd x hx2 v2 v4 p q w).mono (fun v w z => by obtain ⟨g, t, z1, z2⟩ := z; exact ⟨z1, _, _, _, z2, rfl, ⟨g, t, rfl⟩, rfl⟩), ?_⟩
  · decide
  · decide
  · rintro _ _ _ _ _ _ ⟨rfl, ⟨sm, g, rfl⟩, rfl⟩ ⟨rfl, ⟨g2, t, rfl⟩, rfl⟩
    exact REL_ms (REL_ms (REL_cs (REL_cs h (by decide)) (by decide)) (by decide)) (by decide))
theorem pr_squeezes (X : Xn) (p q s w : Int32) : PairI X M_HB_squeezes M_Mod_squeezes [.int p, .int q, .int s, .int w] := PI_mk2 (fun a ν σ τ b νm σm τm h => by
  obtain ⟨⟨e0, e9, -⟩, e1, e2, e3, e4, e5, -⟩ := REL_eqs h
  have h6 := (REL_n h).2
  obtain ⟨hd, -⟩ := REL_v h
  obtain ⟨hh, x, hx1, hx2⟩ := REL_held h
  refine ⟨_, _, R_squeezes (νm 0) x (σm 1) (σm 2) (σm 4) (νm 6) p q s w, fun x y z => x = ν ∧ (∃ sm g : Nat → Int32, y = u2 (u2 σ 15 sm) 16 g) ∧ z = τ, fun x y z => x = νm ∧ (∃ t : Nat → Int32, y = u2 σm 22 t) ∧ z = τm, ?_, ?_, (c_HB_squeezes X a ν σ τ x p q s w (by omega) (by omega) hh hx1).mono (fun v w z => by obtain ⟨z1, sm, g, z2⟩ := z; exact ⟨z1.trans (by rw [e0, e1, e2, e4, e9]), _, _, _, z2, rfl, ⟨sm, g, rfl⟩, rfl⟩), (c_Mod_squeezes X b νm σm τm h6 hd x hx2 p q s w).mono (fun v w z => by obtain ⟨t, z1, z2⟩ := z; exact ⟨z1, _, _, _, z2, rfl, ⟨t, rfl⟩, rfl⟩), ?_⟩
  · decide
  · decide
  · rintro _ _ _ _ _ _ ⟨rfl, ⟨sm, g, rfl⟩, rfl⟩ ⟨rfl, ⟨t, rfl⟩, rfl⟩
    exact REL_ms (REL_cs (REL_cs h (by decide)) (by decide)) (by decide))
theorem REL_seen {ν : Nat → Nat → Nat} {σ : Nat → Nat → Int32} {τ : Nat → Nat → Int64} {νm : Nat → Nat} {σm : Nat → Nat → Int32} {τm : Nat → Int64} (h : REL ν σ τ νm σm τm) : (col (σ 10) 0 = σm 24 ∧ col (σ 10) 1 = σm 25 ∧ col (σ 10) 2 = σm 26 ∧ col (σ 10) 3 = σm 27 ∧ col (σ 10) 4 = σm 28) ∧ νm 23 ≤ 5 ∧ seM (νm 23) (σm 24) (σm 25) (σm 26) (σm 27) ∧ seenOk (σ 10) (ν 9 1) := by
  obtain ⟨⟨⟨⟨n1, n2, n3, n4, n5⟩, k1, ⟨s0, s1, s2, s3, s4⟩, p1, b1⟩, hh, ⟨⟨o0, o1, o2, o3⟩, r1, z1, e1, e2⟩⟩, -⟩ := h
  refine ⟨⟨s0, s1, s2, s3, s4⟩, o2, e1, ?_⟩
  rw [show ν 9 1 = νm 23 from n4]
  refine ⟨o2, fun i hi => ?_⟩
  obtain ⟨P, R, S0, D0, hP, hR, hS, hD, a, b, c, d⟩ := e1 i hi
  exact ⟨P, R, S0, D0, hP, hR, hS, hD, (congrFun s0 i).trans a, (congrFun s1 i).trans b, (congrFun s2 i).trans c, (congrFun s3 i).trans d⟩
theorem pr_wrong (X : Xn) : PairI X M_HB_wrong M_Mod_wrong [] := PI_mk2 (fun a ν σ τ b νm σm τm h => by
  obtain ⟨⟨e0, e9, e23, -⟩, e1, e2, e3, e4, e5, -⟩ := REL_eqs h
  obtain ⟨hd, -⟩ := REL_v h
  obtain ⟨hh, x, hx1, hx2⟩ := REL_held h
  obtain ⟨⟨s0, s1, s2, s3, s4⟩, h5, hse, hso⟩ := REL_seen h
  refine ⟨_, _, wrF (fun z => soB x (σm 1) (σm 2) (σm 4) (νm 6) (σm 24) (σm 25) (σm 26) (σm 27) (σm 28) z) (νm 23) (νm 23), fun x y z => x = ν ∧ (∃ g : Nat → Int32, y = u2 σ 16 g) ∧ z = τ, fun x y z => x = νm ∧ (∃ t : Nat → Int32, y = u2 σm 22 t) ∧ z = τm, ?_, ?_, (c_HB_wrong X a ν σ τ x (by omega) hh hx1 hso).mono (fun v w z => by
      obtain ⟨z1, g, z2⟩ := z
      refine ⟨z1.trans ?_, _, _, _, z2, rfl, ⟨g, rfl⟩, rfl⟩
      show some (Value.int (wrF (fun z => soB x (σ 6) (σ 7) (σ 8) (ν 1 9) (col (σ 10) 0) (col (σ 10) 1) (col (σ 10) 2) (col (σ 10) 3) (col (σ 10) 4) z) (ν 9 1) (ν 9 1))) = _
      rw [e1, e2, e4, e9, e23, s0, s1, s2, s3, s4]), (c_Mod_wrong X b νm σm τm hd x hx2 h5 hse).mono (fun v w z => by obtain ⟨t, z1, z2⟩ := z; exact ⟨z1, _, _, _, z2, rfl, ⟨t, rfl⟩, rfl⟩), ?_⟩
  · decide
  · decide
  · rintro _ _ _ _ _ _ ⟨rfl, ⟨g, rfl⟩, rfl⟩ ⟨rfl, ⟨t, rfl⟩, rfl⟩
    exact REL_ms (REL_cs h (by decide)) (by decide))
theorem pr_can (X : Xn) (p w : Int32) : PairI X M_HB_can M_Mod_can [.int p, .int w] := PI_mk2 (fun a ν σ τ b νm σm τm h => by
  obtain ⟨⟨e0, e9, e23, -⟩, e1, e2, e3, e4, e5, -⟩ := REL_eqs h
  have h6 := (REL_n h).2
  obtain ⟨hd, -⟩ := REL_v h
  obtain ⟨hh, x, hx1, hx2⟩ := REL_held h
  obtain ⟨⟨s0, s1, s2, s3, s4⟩, h5, hse, hso⟩ := REL_seen h
  refine ⟨_, _, R_can (νm 0) x (σm 1) (σm 2) (σm 4) (νm 6) (σm 24) (σm 25) (σm 26) (σm 27) (σm 28) (νm 23) p w, fun x y z => x = ν ∧ (∃ g : Nat → Int32, y = u2 σ 16 g) ∧ z = τ, fun x y z => x = νm ∧ (∃ t : Nat → Int32, y = u2 σm 22 t) ∧ z = τm, ?_, ?_, (c_HB_can X a ν σ τ x p w (by omega) (by omega) hh hx1 hso).mono (fun v w z => by
      obtain ⟨z1, g, z2⟩ := z
      exact ⟨z1.trans (by rw [e0, e1, e2, e4, e9, e23, s0, s1, s2, s3, s4]), _, _, _, z2, rfl, ⟨g, rfl⟩, rfl⟩), (c_Mod_can X b νm σm τm h6 hd x hx2 h5 hse p w).mono (fun v w z => by obtain ⟨t, z1, z2⟩ := z; exact ⟨z1, _, _, _, z2, rfl, ⟨t, rfl⟩, rfl⟩), ?_⟩
  · decide
  · decide
  · rintro _ _ _ _ _ _ ⟨rfl, ⟨g, rfl⟩, rfl⟩ ⟨rfl, ⟨t, rfl⟩, rfl⟩
    exact REL_ms (REL_cs h (by decide)) (by decide))
theorem pr_odds (X : Xn) (p : Int32) : PairL X M_HB_odds M_Mod_odds [.int p] := fun a ν σ τ b νm σm τm h => by
  obtain ⟨⟨e0, -⟩, e1, e2, e3, e4, e5, -⟩ := REL_eqs h
  have h6 := (REL_n h).2
  refine ⟨_, _, R_odds (νm 0) (σm 3) (σm 5) p, ?_, ?_, (c_HB_odds X a ν σ τ p (by omega)).mono (fun v w z => ⟨z.1.trans (by rw [e0, e3, e5]), z.2⟩), c_Mod_odds X b νm σm τm h6 p⟩
  · decide
  · decide
theorem pr_mean (X : Xn) (p : Int32) : PairL X M_HB_mean M_Mod_mean [.int p] := fun a ν σ τ b νm σm τm h => by
  obtain ⟨⟨e0, -⟩, e1, e2, e3, e4, e5, -⟩ := REL_eqs h
  have h6 := (REL_n h).2
  obtain ⟨hd, v1, v2, v3, v4, v5⟩ := REL_v h
  have hN : ∀ i, i < 6 → σm 3 i = nI (dN (σm 3) i) ∧ dN (σm 3) i ≤ 9999 := fun i hi => isN_at v3 hi (by decide)
  refine ⟨_, _, R_mean (νm 0) (dN (σm 3)) p, ?_, ?_, (c_HB_mean X a ν σ τ (dN (σm 3)) p (by omega) (fun i hi => by rw [e3]; exact (hN i (by omega)).1) (fun i hi => (hN i (by omega)).2)).mono (fun v w z => ⟨z.1.trans (by rw [e0]), z.2⟩), c_Mod_mean X b νm σm τm h6 (dN (σm 3)) hN p⟩
  · decide
  · decide
theorem planN_ext {n : Nat} {go wh wh2 : Nat → Int32} {s : (Nat → Int32) × (Nat → Int32)} : ∀ m, (∀ i, i < m → ¬ cn (go i) = 0 → wh i = wh2 i) → planN n go wh s m = planN n go wh2 s m := by
  intro m
  induction m with
  | zero => intro _; rfl
  | succ m ih =>
    intro h
    rw [planN, planN, ih (fun i hi => h i (by omega))]
    exact planS_w (fun z => by rw [h m (by omega) z])
theorem pr_ends (X : Xn) (w : Int32) : PairI X M_HB_ends M_Mod_ends [.int w] := PI_mk2 (fun a ν σ τ b νm σm τm h => by
  obtain ⟨⟨e0, -, -, e29, -⟩, e1, e2, e3, e4, e5, -⟩ := REL_eqs h
  have h6 := (REL_n h).2
  obtain ⟨⟨⟨n1, k1, s1, ⟨p0, p1⟩, b1⟩, hh, ⟨⟨o0, o1, o2, o3, o4⟩, r1, z1, f1, f2, f3⟩⟩, -⟩ := id h
  have p0 : col (σ 12) 0 = σm 30 := p0
  have hne : ∀ i, i < νm 29 → ¬ cn (σm 30 i) = 0 → col (σ 12) 1 i = σm 31 i := fun i hi hc => p1 i hi (fun z => hc (by rw [z]; rfl))
  have hpl : planOk (σ 12) (ν 11 1) := by
    rw [e29]
    refine ⟨o3, fun i hi => ?_⟩
    obtain ⟨w', p', hw, hp, a, b⟩ := f2 i hi
    refine ⟨w', p', hw, hp, (congrFun p0 i).trans a, fun hz => ?_⟩
    exact (hne i hi (by rw [a, cn_nI (by omega)]; exact hz)).trans b
  refine ⟨_, _, R_ends (νm 0) (νm 29) (σm 30) (σm 31) (σm 3) (σm 5) w, fun x y z => (∃ f : Nat → Nat, x = pu ν 33 f) ∧ (∃ g1 g2 : Nat → Int32, y = u2 (u2 σ 34 g1) 35 g2) ∧ z = τ, fun x y z => x = νm ∧ (∃ t : Nat → Int32, y = u2 σm 40 t) ∧ z = τm, ?_, ?_, (c_HB_ends X a ν σ τ w (by omega) hpl).mono (fun v w z => by
      obtain ⟨z1, z0, g1, g2, z2⟩ := z
      refine ⟨z1.trans ?_, _, _, _, z2, ⟨_, rfl⟩, ⟨g1, g2, rfl⟩, rfl⟩
      unfold R_ends
      rw [e0, e29, e3, e5, p0, planN_ext (νm 29) hne]), (c_Mod_ends X b νm σm τm h6 o3 f2 w).mono (fun v w z => by obtain ⟨t, z1, z2⟩ := z; exact ⟨z1, _, _, _, z2, rfl, ⟨t, rfl⟩, rfl⟩), ?_⟩
  · decide
  · decide
  · rintro _ _ _ _ _ _ ⟨⟨f, rfl⟩, ⟨g1, g2, rfl⟩, rfl⟩ ⟨rfl, ⟨t, rfl⟩, rfl⟩
    exact REL_ms (REL_cn (REL_cs (REL_cs h (by decide)) (by decide))) (by decide))
theorem pr_looked (X : Xn) : PairI X M_HB_looked M_Mod_looked [] := PI_mk (fun a ν σ τ b νm σm τm h => by
  obtain ⟨⟨e0, -, -, -, e32, -⟩, e1, e2, e3, e4, e5, -⟩ := REL_eqs h
  obtain ⟨⟨⟨n1, k1, s1, p1, ⟨b0, b1, b2⟩⟩, hh, ⟨⟨o0, o1, o2, o3, o4⟩, r1, z1, f1, f2, f3, f4⟩⟩, -⟩ := id h
  have b0 : col (σ 14) 0 = σm 33 := b0
  have b1 : col (σ 14) 1 = σm 34 := b1
  have b2 : col (σ 14) 2 = σm 35 := b2
  have hbk : bookOk (σ 14) (ν 13 1) := by
    rw [e32]
    refine ⟨o4, fun i hi => ?_⟩
    obtain ⟨P, R, hP, hR, a, b⟩ := f3 i hi
    exact ⟨P, R, hP, hR, (congrFun b0 i).trans a, (congrFun b1 i).trans b⟩
  refine ⟨_, _, lookF (σm 5) (σm 33) (σm 34) (σm 35) (νm 32) (νm 32), _, _, _, _, _, _, ?_, ?_, (c_HB_looked X a ν σ τ hbk).mono (fun v w z => ⟨z.1.trans (by rw [e5, e32, b0, b1, b2]), z.2⟩), c_Mod_looked X b νm σm τm o4 f3, h⟩
  · decide
  · decide)
theorem REL_tp {ν : Nat → Nat → Nat} {σ : Nat → Nat → Int32} {τ : Nat → Nat → Int64} {νm : Nat → Nat} {σm : Nat → Nat → Int32} {τm : Nat → Int64} (h : REL ν σ τ νm σm τm) : (cSo σ = σm 43 ∧ cSz ν = σm 44 ∧ cTa τ = τm) ∧ (∀ t, t < 6 → ν (71 + 2 * t) 2 ≤ 60) ∧ (∀ t, t < 6 → (σ (71 + 2 * t) 1 = -1 ∧ ν (71 + 2 * t) 2 = 0) ∨ ¬ σ (71 + 2 * t) 1 < 0) ∧ (∀ t, t < 6 → ∃ z : Nat, z ≤ 60 ∧ σm 44 t = nI z) ∧ ∀ t, t < 6 → σ (71 + 2 * t) 1 ≤ nI 4 := by
  obtain ⟨t1, t2, t3, t4⟩ := h.2.2.2.2.2
  refine ⟨⟨t1, t2, t3⟩, fun t ht => (t4 t ht).1, fun t ht => (t4 t ht).2.2, fun t ht => ⟨_, (t4 t ht).1, by rw [← t2]; rfl⟩, fun t ht => (t4 t ht).2.1⟩
theorem pr_judge (X : Xn) (t i : Int32) : PairI X M_HB_judge M_Mod_judge [.int t, .int i] := PI_mk (fun a ν σ τ b νm σm τm h => by
  obtain ⟨⟨e0, -⟩, e1, e2, e3, e4, e5, -⟩ := REL_eqs h
  have h6 := (REL_n h).2
  obtain ⟨⟨t1, t2, t3⟩, g1, g2, g3, g4⟩ := REL_tp h
  refine ⟨_, _, R_judge (νm 0) (σm 5) (σm 43) (σm 44) τm t i, _, _, _, _, _, _, ?_, ?_, (c_HB_judge X a ν σ τ t i (by omega) g1 g2).mono (fun v w z => ⟨z.1.trans (by rw [e0, e5, t1, t2, t3]), z.2⟩), c_Mod_judge X b νm σm τm h6 g3 t i, h⟩
  · decide
  · decide)
theorem pr_read (X : Xn) (t i : Int32) : PairL X M_HB_read M_Mod_read [.int t, .int i] := fun a ν σ τ b νm σm τm h => by
  obtain ⟨⟨t1, t2, t3⟩, g1, g2, g3, g4⟩ := REL_tp h
  refine ⟨_, _, R_read (σm 43) (σm 44) τm t i, ?_, ?_, (c_HB_read X a ν σ τ t i g1 g2).mono (fun v w z => ⟨z.1.trans (by rw [t1, t2, t3]), z.2⟩), c_Mod_read X b νm σm τm g3 t i⟩
  · decide
  · decide
theorem pr_tape (X : Xn) (t s n : Int32) : PairI X M_HB_tape M_Mod_tape [.int t, .int s, .int n] := PI_mk (fun a ν σ τ b νm σm τm h => by
  refine ⟨_, _, R_tape t s n, _, _, _, _, _, _, ?_, ?_, c_HB_tape X a ν σ τ t s n, c_Mod_tape X b νm σm τm t s n, ?_⟩
  · decide
  · decide
  · by_cases hb : b_tape t s n = true
    · rw [if_pos hb, if_pos hb, if_pos hb, if_pos hb, if_pos hb]
      simp only [b_tape, Bool.and_eq_true, Bool.or_eq_true, decide_eq_true_eq] at hb
      obtain ⟨ht, hs, hn⟩ := hb
      obtain ⟨T, hT, rfl⟩ := inR_t (by decide) ht
      rw [cn_nI (show T < 2 ^ 31 by omega)]
      simp only [inR, Bool.and_eq_true, decide_eq_true_eq] at hs
      by_cases h0 : s < 0
      · rw [if_pos h0, if_pos h0]
        have hs1 : s = -1 := by
          have a1 := Int32.le_iff_toInt_le.mp hs.1
          have a2 := Int32.lt_iff_toInt_lt.mp h0
          have a3 : (-1 : Int32).toInt = -1 := by decide
          have a4 : (0 : Int32).toInt = 0 := rfl
          exact Int32.toInt_inj.mp (by omega)
        exact REL_tape h (by omega) (by decide) hs.2 (Or.inl ⟨hs1, rfl⟩)
      · rw [if_neg h0, if_neg h0]
        have hn := hn.resolve_left h0
        obtain ⟨N, hN, rfl⟩ := nI_of (x := n) (Int32.not_lt.mpr hn.2)
        have hn1 := hn.1
        rw [nI_leI hN (by decide)] at hn1
        rw [cn_nI hN]
        exact REL_tape h (by omega) hn1 hs.2 (Or.inr h0)
    · rw [if_neg hb, if_neg hb, if_neg hb, if_neg hb, if_neg hb]; exact h)
theorem pr_item (X : Xn) (t i : Int32) (v : Int64) : PairI X M_HB_item M_Mod_item [.int t, .int i, .long v] := PI_mk (fun a ν σ τ b νm σm τm h => by
  obtain ⟨⟨t1, t2, t3⟩, g1, g2, g3, g4⟩ := REL_tp h
  refine ⟨_, _, R_item (σm 43) (σm 44) t i, _, _, _, _, _, _, ?_, ?_, (c_HB_item X a ν σ τ t i v g1 g2).mono (fun v w z => ⟨z.1.trans (by rw [t1, t2]), z.2⟩), c_Mod_item X b νm σm τm g3 t i v, ?_⟩
  · decide
  · decide
  · rw [t1, t2]
    by_cases hb : b_item (σm 43) (σm 44) t i = true
    · rw [if_pos hb, if_pos hb]
      simp only [b_item, Bool.and_eq_true, decide_eq_true_eq] at hb
      obtain ⟨ht, hs, hi⟩ := hb
      obtain ⟨T, hT, rfl⟩ := inR_t (by decide) ht
      rw [cn_nI (show T < 2 ^ 31 by omega)] at hs hi ⊢
      obtain ⟨z, hz, ez⟩ := g3 T (by omega)
      rw [ez] at hi
      obtain ⟨I, hI, rfl⟩ := isB_tG (n := z) (by omega) hi
      rw [cn_nI (show I < 2 ^ 31 by omega)]
      have ek : σm 43 T = σ (71 + 2 * T) 1 := by rw [← t1]; rfl
      rw [ek] at hs ⊢
      rw [← kept_eq (g4 T (by omega)) (Int32.not_lt.mpr hs)]
      exact REL_item h (by omega)
    · rw [if_neg hb, if_neg hb]; exact h)
theorem pr_shift (X : Xn) (t i o j n : Int32) : PairI X M_HB_shift M_Mod_shift [.int t, .int i, .int o, .int j, .int n] := PI_mk (fun a ν σ τ b νm σm τm h => by
  have h6 := (REL_n h).2
  obtain ⟨⟨t1, t2, t3⟩, g1, g2, g3, g4⟩ := REL_tp h
  refine ⟨_, _, R_shift (σm 43) (σm 44) t i o j n, _, _, _, _, _, _, ?_, ?_, (c_HB_shift X a ν σ τ t i o j n g1 g2).mono (fun v w z => ⟨z.1.trans (by rw [t1, t2]), z.2⟩), c_Mod_shift X b νm σm τm h6 g3 t i o j n, ?_⟩
  · decide
  · decide
  · rw [t1, t2]
    by_cases hb : b_shift (σm 43) (σm 44) t i o j n = true
    · rw [if_pos hb, if_pos hb]
      simp only [b_shift, Bool.and_eq_true, decide_eq_true_eq] at hb
      obtain ⟨⟨ht, ho⟩, -, -, -, hi, hj⟩ := hb
      obtain ⟨T, hT, rfl⟩ := inR_t (by decide) ht
      obtain ⟨O, hO, rfl⟩ := inR_t (by decide) ho
      rw [cn_nI (show T < 2 ^ 31 by omega)] at hi ⊢
      rw [cn_nI (show O < 2 ^ 31 by omega)] at hj ⊢
      obtain ⟨z, hz, ez⟩ := g3 T (by omega)
      obtain ⟨z2, hz2, ez2⟩ := g3 O (by omega)
      rw [ez, cn_nI (show z < 2 ^ 31 by omega)] at hi
      rw [ez2, cn_nI (show z2 < 2 ^ 31 by omega)] at hj
      exact REL_shift h (by omega) (by omega)
    · rw [if_neg hb, if_neg hb]; exact h)
theorem pr_count (X : Xn) (w : Int32) : PairI X M_HB_count M_Mod_count [.int w] := PI_mk (fun a ν σ τ b νm σm τm h => by
  obtain ⟨⟨e0, e9, e23, e29, e32, e7, e13, e36⟩, -⟩ := REL_eqs h
  refine ⟨_, _, R_count νm w, _, _, _, _, _, _, ?_, ?_, (c_HB_count X a ν σ τ w).mono (fun v x z => ⟨z.1.trans (by unfold ccnt R_count; rw [e0, e23, e29, e32, e7, e13, e36]), z.2⟩), c_Mod_count X b νm σm τm w, h⟩
  · decide
  · decide)
theorem pr_trace (X : Xn) (i : Int32) : PairI X M_HB_trace M_Mod_trace [.int i] := PI_mk (fun a ν σ τ b νm σm τm h => by
  obtain ⟨⟨-, -, -, -, -, -, -, e36⟩, -, -, -, -, -, -, e37⟩ := REL_eqs h
  have ht : νm 36 < 100000 := h.2.2.2.2.1.2.1
  refine ⟨_, _, R_trace (νm 36) (σm 37) i, _, _, _, _, _, _, ?_, ?_, (c_HB_trace X a ν σ τ i (by omega)).mono (fun v x z => ⟨z.1.trans (by rw [e36, e37]), z.2⟩), c_Mod_trace X b νm σm τm ht i, h⟩
  · decide
  · decide)
theorem pr_taken (X : Xn) (p k : Int32) : PairI X M_HB_taken M_Mod_taken [.int p, .int k] := PI_mk (fun a ν σ τ b νm σm τm h => by
  obtain ⟨⟨e0, -⟩, e1, -⟩ := REL_eqs h
  have h6 := (REL_n h).2
  obtain ⟨hd, v1, -⟩ := REL_v h
  refine ⟨_, _, R_taken (νm 0) (σm 1) p k, _, _, _, _, _, _, ?_, ?_, (c_HB_taken X a ν σ τ p k (by omega) (fun i hi => by rw [e1]; exact v1 i (by omega))).mono (fun v x z => ⟨z.1.trans (by rw [e0, e1]), z.2⟩), c_Mod_taken X b νm σm τm h6 v1 p k, h⟩
  · decide
  · decide)
theorem act_cnt {n : Nat} {kd v tr : Nat → Int32} {p k x : Int32} : (R_act n kd v tr p k x).2.1 < 100000 := by
  unfold R_act
  split
  · split
    · exact Nat.lt_of_le_of_lt (gr_cnt _ _ _ _ _ _) (by show 0 + 7 < 100000; decide)
    · split
      · exact Nat.lt_of_le_of_lt (le_cnt _ _ _ _ _ _ _) (by show 0 + 16 * 7 < 100000; decide)
      · exact Nat.lt_of_le_of_lt (te_cnt _ _ _ _ _ _ _) (by show 0 + 256 * 7 < 100000; decide)
  · show 0 < 100000; decide
theorem pr_act (X : Xn) (p k x : Int32) : PairI X M_HB_act M_Mod_act [.int p, .int k, .int x] := PI_mk2 (fun a ν σ τ b νm σm τm h => by
  obtain ⟨⟨e0, -⟩, e1, e2, -, -, -, -, e37⟩ := REL_eqs h
  have h6 := (REL_n h).2
  obtain ⟨hd, v1, -⟩ := REL_v h
  have eT : R_act (ν 2 3) (σ 6) (σ 7) (σ 69) p k x = R_act (νm 0) (σm 1) (σm 2) (σm 37) p k x := by rw [e0, e1, e2, e37]
  refine ⟨_, _, (R_act (νm 0) (σm 1) (σm 2) (σm 37) p k x).1, fun x1 y z => x1 = pu ν 68 (u1 (ν 68) 1 (R_act (νm 0) (σm 1) (σm 2) (σm 37) p k x).2.1) ∧ (∃ g : Nat → Int32, y = u2 (u2 σ 68 g) 69 (R_act (νm 0) (σm 1) (σm 2) (σm 37) p k x).2.2) ∧ z = τ, fun x1 y z => x1 = u1 νm 36 (R_act (νm 0) (σm 1) (σm 2) (σm 37) p k x).2.1 ∧ y = u2 σm 37 (R_act (νm 0) (σm 1) (σm 2) (σm 37) p k x).2.2 ∧ z = τm, ?_, ?_, (c_HB_act X a ν σ τ p k x (by omega) (fun i hi => by rw [e1]; exact v1 i (by omega))).mono (fun v w z => by
      obtain ⟨z1, g, z2⟩ := z
      rw [eT] at z1 z2
      exact ⟨z1, _, _, _, z2, rfl, ⟨g, rfl⟩, rfl⟩), (c_Mod_act X b νm σm τm h6 v1 p k x).mono (fun v w z => ⟨z.1, _, _, _, z.2, rfl, rfl, rfl⟩), ?_⟩
  · decide
  · decide
  · rintro _ _ _ _ _ _ ⟨rfl, ⟨g, rfl⟩, rfl⟩ ⟨rfl, rfl, rfl⟩
    exact REL_act h act_cnt)
theorem pr_image (X : Xn) : PairI X M_HB_image M_Mod_image [] := PI_mk (fun a ν σ τ b νm σm τm h => by
  obtain ⟨⟨e0, -⟩, -⟩ := REL_eqs h
  refine ⟨_, _, nI (νm 0), _, _, _, _, _, _, ?_, ?_, (c_HB_image X a ν σ τ).mono (fun v w z => ⟨z.1.trans (by rw [e0]), z.2⟩), c_Mod_image X b νm σm τm, REL_image h⟩
  · decide
  · decide)
theorem pr_undo (X : Xn) : PairI X M_HB_undo M_Mod_undo [] := PI_mk (fun a ν σ τ b νm σm τm h => by
  rcases h.2.1 with ⟨i1, i2⟩ | ⟨i1, i2, νk, σk, i3, i4, i5, i6⟩
  · have D := c_HB_undo X a ν σ τ (by omega)
    rw [if_pos i1, if_pos i1] at D
    refine ⟨_, _, -3, _, _, _, _, _, _, ?_, ?_, D, c_Mod_undo0 X b νm σm τm i2, h⟩
    · decide
    · decide
  · have D := c_HB_undo X a ν σ τ (by omega)
    rw [if_neg (by omega), if_neg (by omega)] at D
    obtain ⟨-, -, -, -, -, -, -, -, k1, k2, k3, k4, k5, -⟩ := id i6
    refine ⟨_, _, nI (νk 0), _, _, _, _, _, _, ?_, ?_, D.mono (fun v w z => ⟨z.1.trans (by rw [show ν 18 3 = νk 0 from i3.1.1]), z.2⟩), c_Mod_undo1 X b νm σm τm i2 (νk 0) (νk 6) (νk 23) (νk 29) (νk 32) k1 k2 k3 k4 k5, REL_undo h i1 i2 i3 i4 i5 i6⟩
    · decide
    · decide)
