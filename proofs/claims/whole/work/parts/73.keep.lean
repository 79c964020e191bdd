/-! WHAT KEEPS THE TWO SIDES TOGETHER -/
theorem REL_now2 {ν ν' : Nat → Nat → Nat} {σ σ' : Nat → Nat → Int32} {τ : Nat → Nat → Int64} {νm νm' : Nat → Nat} {σm σm' : Nat → Nat → Int32} {τm : Nat → Int64} (h : REL ν σ τ νm σm τm) (hN : RNow ν' σ' νm' σm') (hs : ∀ c, 15 ≤ c → σ' c = σ c) (h5 : σ' 5 = σ 5) (hν : ∀ c, 15 ≤ c → ν' c = ν c) (h0 : ν' 0 = ν 0) (hm : ∀ c, (c = 8 ∨ (15 ≤ c ∧ c ≤ 20) ∨ 36 ≤ c) → σm' c = σm c) (hn : νm' 7 = νm 7 ∧ νm' 13 = νm 13 ∧ νm' 21 = νm 21 ∧ νm' 36 = νm 36) : REL ν' σ' τ νm' σm' τm := by
  obtain ⟨-, hI, hT, ⟨e1, e2, e3, e4, e5, e6⟩, hA, ⟨t1, t2, t3, t4⟩⟩ := h
  obtain ⟨n1, n2, n3, n4⟩ := hn
  have hSo : cSo σ' = cSo σ := by funext t; unfold cSo; rw [hs _ (by omega)]
  have hSz : cSz ν' = cSz ν := by funext t; unfold cSz; rw [hν _ (by omega)]
  refine ⟨hN, ?_, ?_, ?_, ?_, ?_⟩
  · unfold RImg at hI ⊢
    rw [h0, hm 38 (by omega), hm 39 (by omega), hν 17 (by omega), hν 37 (by omega)]
    rcases hI with hI | ⟨i1, i2, νk, σk, i3, i4, i5, i6⟩
    · exact Or.inl hI
    · refine Or.inr ⟨i1, i2, νk, σk, ?_, i4, i5, i6⟩
      unfold MkC at i3 ⊢
      rw [hν (17 + 1) (by omega), hν 17 (by omega), hν (17 + 8) (by omega), hν (17 + 10) (by omega), hν (17 + 12) (by omega), hs (17 + 5) (by omega), hs (17 + 6) (by omega), hs (17 + 2) (by omega), hs (17 + 7) (by omega), hs (17 + 3) (by omega), hs (17 + 9) (by omega), hs (17 + 11) (by omega), hs (17 + 13) (by omega)]
      exact i3
  · unfold RTxt at hT ⊢
    rw [hν 37 (by omega), hs 38 (by omega), hm 8 (by omega), n1]; exact hT
  · unfold RExc
    rw [hν 37 (by omega), hν 40 (by omega), n2, n3]
    refine ⟨e1, e2, e3, e4, e5, fun e he => ?_⟩
    obtain ⟨x, h1, h2⟩ := e6 e he
    refine ⟨x, ?_, ?_⟩
    · unfold exH at h1 ⊢
      rw [hν _ (by omega), hs _ (by omega), hs _ (by omega), hs _ (by omega)]; exact h1
    · unfold modZ at h2 ⊢
      rw [hm 15 (by omega), hm 16 (by omega), hm 17 (by omega), hm 18 (by omega), hm 19 (by omega), hm 20 (by omega)]; exact h2
  · unfold RAct at hA ⊢
    rw [hν 68 (by omega), hs 69 (by omega), hm 37 (by omega), n4, h5]; exact hA
  · unfold RTap
    rw [hSo, hSz, hm 43 (by omega), hm 44 (by omega)]
    refine ⟨t1, t2, t3, fun t ht => ?_⟩
    rw [hν _ (by omega)]; exact t4 t ht
theorem REL_n {ν : Nat → Nat → Nat} {σ : Nat → Nat → Int32} {τ : Nat → Nat → Int64} {νm : Nat → Nat} {σm : Nat → Nat → Int32} {τm : Nat → Int64} (h : REL ν σ τ νm σm τm) : ν 2 3 = νm 0 ∧ νm 0 ≤ 6 := ⟨h.1.1.1.1, h.1.2.2.1.1⟩
theorem REL_debt {ν : Nat → Nat → Nat} {σ : Nat → Nat → Int32} {τ : Nat → Nat → Int64} {νm : Nat → Nat} {σm : Nat → Nat → Int32} {τm : Nat → Int64} (h : REL ν σ τ νm σm τm) {p q k : Nat} (hp : p < νm 0) (hq : q < νm 0) (hk : k ≤ 9999) : REL ν (u2 σ 4 (upd (σ 4) (6 * p + q) (nI k))) τ νm (u2 σm 5 (upd (σm 5) (6 * p + q) (nI k))) τm := by
  obtain ⟨⟨⟨n1, ⟨k1, k2, k3, k4, k5⟩, s1, p1, b1⟩, hh, ⟨o1, ⟨r1, r2, r3, r4, r5⟩, ⟨z1, z2⟩, o4⟩⟩, -⟩ := id h
  have h6 := o1.1
  refine REL_now2 h ⟨⟨n1, ⟨k1, k2, k3, k4, ?_⟩, s1, p1, b1⟩, hh, ⟨o1, ⟨r1, r2, r3, r4, rng_upd r5 (by omega) hk⟩, ⟨z1, ?_⟩, o4⟩⟩ (fun c hc => u2_n (by omega)) rfl (fun c hc => rfl) rfl (fun c hc => u2_n (by omega)) ⟨rfl, rfl, rfl, rfl⟩
  · show upd (σ 4) (6 * p + q) (nI k) = upd (σm 5) (6 * p + q) (nI k)
    rw [show σ 4 = σm 5 from k5]
  · intro p' q' hp' hq' ho
    show upd (σm 5) (6 * p + q) (nI k) (6 * p' + q') = nI 0
    rw [pk_un (by omega)]; exact z2 p' q' hp' hq' ho
theorem REL_purse {ν : Nat → Nat → Nat} {σ : Nat → Nat → Int32} {τ : Nat → Nat → Int64} {νm : Nat → Nat} {σm : Nat → Nat → Int32} {τm : Nat → Int64} (h : REL ν σ τ νm σm τm) {p k : Nat} (hp : p < νm 0) (hk : k ≤ 9999) : REL ν (u2 σ 3 (upd (σ 3) p (nI k))) τ νm (u2 σm 3 (upd (σm 3) p (nI k))) τm := by
  obtain ⟨⟨⟨n1, ⟨k1, k2, k3, k4, k5⟩, s1, p1, b1⟩, hh, ⟨o1, ⟨r1, r2, r3, r4, r5⟩, ⟨z1, z2⟩, o4⟩⟩, -⟩ := id h
  have h6 := o1.1
  refine REL_now2 h ⟨⟨n1, ⟨k1, k2, ?_, k4, k5⟩, s1, p1, b1⟩, hh, ⟨o1, ⟨r1, r2, rng_upd r3 (by omega) hk, r4, r5⟩, ⟨z1, z2⟩, o4⟩⟩ (fun c hc => u2_n (by omega)) rfl (fun c hc => rfl) rfl (fun c hc => u2_n (by omega)) ⟨rfl, rfl, rfl, rfl⟩
  show upd (σ 3) p (nI k) = upd (σm 3) p (nI k)
  rw [show σ 3 = σm 3 from k3]
theorem REL_row {ν : Nat → Nat → Nat} {σ : Nat → Nat → Int32} {τ : Nat → Nat → Int64} {νm : Nat → Nat} {σm : Nat → Nat → Int32} {τm : Nat → Int64} (h : REL ν σ τ νm σm τm) {p j k : Nat} (hp : p < νm 0) (hj : j ≤ 3) (hk : k ≤ 9) : REL ν (u2 σ 8 (upd (σ 8) (4 * p + j) (nI k))) τ νm (u2 σm 4 (upd (σm 4) (4 * p + j) (nI k))) τm := by
  obtain ⟨⟨⟨n1, ⟨k1, k2, k3, k4, k5⟩, s1, p1, b1⟩, hh, ⟨o1, ⟨r1, r2, r3, r4, r5⟩, ⟨z1, z2⟩, o4⟩⟩, -⟩ := id h
  have h6 := o1.1
  refine REL_now2 h ⟨⟨n1, ⟨k1, k2, k3, ?_, k5⟩, s1, p1, b1⟩, hh, ⟨o1, ⟨r1, r2, r3, rng_upd r4 (by omega) hk, r5⟩, ⟨?_, z2⟩, o4⟩⟩ (fun c hc => u2_n (by omega)) rfl (fun c hc => rfl) rfl (fun c hc => u2_n (by omega)) ⟨rfl, rfl, rfl, rfl⟩
  · show upd (σ 8) (4 * p + j) (nI k) = upd (σm 4) (4 * p + j) (nI k)
    rw [show σ 8 = σm 4 from k4]
  · intro i hi
    show upd (σm 4) (4 * p + j) (nI k) i = nI 0
    rw [pk_un (by omega)]; exact z1 i hi
theorem REL_pass {ν : Nat → Nat → Nat} {σ : Nat → Nat → Int32} {τ : Nat → Nat → Int64} {νm : Nat → Nat} {σm : Nat → Nat → Int32} {τm : Nat → Int64} (h : REL ν σ τ νm σm τm) {d : Nat} (hd : d ≤ 9999) : REL (pu ν 1 (u1 (ν 1) 9 d)) σ τ (u1 νm 6 d) σm τm := by
  obtain ⟨⟨⟨⟨n1, n2, n3, n4⟩, k1, s1, p1, b1⟩, hh, ⟨⟨o0, o1, o2⟩, o4⟩⟩, -⟩ := id h
  exact REL_now2 h ⟨⟨⟨n1, rfl, n3, n4⟩, k1, s1, p1, b1⟩, hh, ⟨⟨o0, hd, o2⟩, o4⟩⟩ (fun c hc => rfl) rfl (fun c hc => pu_n (by omega)) rfl (fun c hc => rfl) ⟨rfl, rfl, rfl, rfl⟩
theorem REL_trader {ν : Nat → Nat → Nat} {σ : Nat → Nat → Int32} {τ : Nat → Nat → Int64} {νm : Nat → Nat} {σm : Nat → Nat → Int32} {τm : Nat → Int64} (h : REL ν σ τ νm σm τm) {k v : Nat} (hn : νm 0 < 6) (hk : k ≤ 6) (hv : v ≤ 9) : REL (pu ν 2 (u1 (ν 2) 3 (ν 2 3 + 1))) (u2 (u2 (u2 σ 6 (upd (σ 6) (ν 2 3) (nI k))) 7 (upd (σ 7) (ν 2 3) (nI v))) 3 (upd (σ 3) (ν 2 3) (nI 100))) τ (u1 νm 0 (νm 0 + 1)) (u2 (u2 (u2 σm 1 (upd (σm 1) (νm 0) (nI k))) 2 (upd (σm 2) (νm 0) (nI v))) 3 (upd (σm 3) (νm 0) (nI 100))) τm := by
  obtain ⟨⟨⟨⟨n1, n2, n3, n4⟩, ⟨k1, k2, k3, k4, k5⟩, s1, p1, b1⟩, hh, ⟨⟨o0, o1⟩, ⟨r1, r2, r3, r4, r5⟩, ⟨z1, z2⟩, o4⟩⟩, -⟩ := id h
  have n1 : ν 2 3 = νm 0 := n1
  rw [n1]
  refine REL_now2 h ⟨⟨⟨?_, n2, n3, n4⟩, ⟨?_, ?_, ?_, k4, k5⟩, s1, p1, b1⟩, hh, ⟨⟨?_, o1⟩, ⟨rng_upd r1 hn hk, rng_upd r2 hn hv, rng_upd r3 hn (by decide), r4, r5⟩, ⟨?_, ?_⟩, o4⟩⟩ (fun c hc => ?_) rfl (fun c hc => pu_n (by omega)) rfl (fun c hc => ?_) ⟨rfl, rfl, rfl, rfl⟩
  · rfl
  · show upd (σ 6) _ _ = upd (σm 1) _ _; rw [show σ 6 = σm 1 from k1]
  · show upd (σ 7) _ _ = upd (σm 2) _ _; rw [show σ 7 = σm 2 from k2]
  · show upd (σ 3) _ _ = upd (σm 3) _ _; rw [show σ 3 = σm 3 from k3]
  · show νm 0 + 1 ≤ 6; omega
  · intro i hi
    have hi : 4 * (νm 0 + 1) ≤ i := hi
    exact z1 i (by omega)
  · intro p q hp hq ho
    have ho : νm 0 + 1 ≤ p ∨ νm 0 + 1 ≤ q := ho
    exact z2 p q hp hq (by omega)
  · rw [u2_n (by omega), u2_n (by omega), u2_n (by omega)]
  · rw [u2_n (by omega), u2_n (by omega), u2_n (by omega)]
-- lists of rows
theorem col_up5 {f : Nat → Int32} {m : Nat} {x0 x1 x2 x3 x4 : Int32} : col (up5 f m x0 x1 x2 x3 x4) 0 = upd (col f 0) m x0 ∧ col (up5 f m x0 x1 x2 x3 x4) 1 = upd (col f 1) m x1 ∧ col (up5 f m x0 x1 x2 x3 x4) 2 = upd (col f 2) m x2 ∧ col (up5 f m x0 x1 x2 x3 x4) 3 = upd (col f 3) m x3 ∧ col (up5 f m x0 x1 x2 x3 x4) 4 = upd (col f 4) m x4 := by
  refine ⟨?_, ?_, ?_, ?_, ?_⟩ <;> funext i <;> unfold col up5 <;> by_cases e : i = m
  all_goals first | (subst e; simp only [upd]; (repeat' split) <;> first | rfl | omega) | (simp only [upd]; (repeat' split) <;> first | rfl | omega)
theorem REL_see0 {ν : Nat → Nat → Nat} {σ : Nat → Nat → Int32} {τ : Nat → Nat → Int64} {νm : Nat → Nat} {σm : Nat → Nat → Int32} {τm : Nat → Int64} (h : REL ν σ τ νm σm τm) : REL (pu ν 9 (u1 (ν 9) 1 0)) σ τ (u1 νm 23 0) σm τm := by
  obtain ⟨⟨⟨⟨n1, n2, n3, n4, n5⟩, k1, s1, p1, b1⟩, hh, ⟨⟨o0, o1, o2, o3⟩, r1, z1, e1, e2⟩⟩, -⟩ := id h
  exact REL_now2 h ⟨⟨⟨n1, n2, n3, rfl, n5⟩, k1, s1, p1, b1⟩, hh, ⟨⟨o0, o1, Nat.zero_le _, o3⟩, r1, z1, fun i hi => absurd hi (Nat.not_lt_zero _), e2⟩⟩ (fun c hc => rfl) rfl (fun c hc => pu_n (by omega)) rfl (fun c hc => rfl) ⟨rfl, rfl, rfl, rfl⟩
theorem REL_plan0 {ν : Nat → Nat → Nat} {σ : Nat → Nat → Int32} {τ : Nat → Nat → Int64} {νm : Nat → Nat} {σm : Nat → Nat → Int32} {τm : Nat → Int64} (h : REL ν σ τ νm σm τm) : REL (pu ν 11 (u1 (ν 11) 1 0)) σ τ (u1 νm 29 0) σm τm := by
  obtain ⟨⟨⟨⟨n1, n2, n3, n4, n5, n6⟩, k1, s1, ⟨p0, p1⟩, b1⟩, hh, ⟨⟨o0, o1, o2, o3, o4⟩, r1, z1, e1, e2, e3⟩⟩, -⟩ := id h
  exact REL_now2 h ⟨⟨⟨n1, n2, n3, n4, rfl, n6⟩, k1, s1, ⟨p0, fun i hi => absurd hi (Nat.not_lt_zero _)⟩, b1⟩, hh, ⟨⟨o0, o1, o2, Nat.zero_le _, o4⟩, r1, z1, e1, fun i hi => absurd hi (Nat.not_lt_zero _), e3⟩⟩ (fun c hc => rfl) rfl (fun c hc => pu_n (by omega)) rfl (fun c hc => rfl) ⟨rfl, rfl, rfl, rfl⟩
theorem REL_book0 {ν : Nat → Nat → Nat} {σ : Nat → Nat → Int32} {τ : Nat → Nat → Int64} {νm : Nat → Nat} {σm : Nat → Nat → Int32} {τm : Nat → Int64} (h : REL ν σ τ νm σm τm) : REL (pu ν 13 (u1 (ν 13) 1 0)) σ τ (u1 νm 32 0) σm τm := by
  obtain ⟨⟨⟨⟨n1, n2, n3, n4, n5, n6⟩, k1, s1, p1, b1⟩, hh, ⟨⟨o0, o1, o2, o3, o4⟩, r1, z1, e1, e2, e3, e4⟩⟩, -⟩ := id h
  exact REL_now2 h ⟨⟨⟨n1, n2, n3, n4, n5, rfl⟩, k1, s1, p1, b1⟩, hh, ⟨⟨o0, o1, o2, o3, Nat.zero_le _⟩, r1, z1, e1, e2, fun i hi => absurd hi (Nat.not_lt_zero _), e4⟩⟩ (fun c hc => rfl) rfl (fun c hc => pu_n (by omega)) rfl (fun c hc => rfl) ⟨rfl, rfl, rfl, rfl⟩
theorem REL_see {ν : Nat → Nat → Nat} {σ : Nat → Nat → Int32} {τ : Nat → Nat → Int64} {νm : Nat → Nat} {σm : Nat → Nat → Int32} {τm : Nat → Int64} (h : REL ν σ τ νm σm τm) {P R S0 D0 : Nat} {y : Int32} (hm : νm 23 < 5) (hP : P < 6) (hR : R < 6) (hS : S0 ≤ 99) (hD : D0 ≤ 20) : REL (pu ν 9 (u1 (ν 9) 1 (νm 23 + 1))) (u2 σ 10 (up5 (σ 10) (νm 23) (nI P) (nI R) (nI S0) (nI D0) y)) τ (u1 νm 23 (νm 23 + 1)) (u2 (u2 (u2 (u2 (u2 σm 24 (upd (σm 24) (νm 23) (nI P))) 25 (upd (σm 25) (νm 23) (nI R))) 26 (upd (σm 26) (νm 23) (nI S0))) 27 (upd (σm 27) (νm 23) (nI D0))) 28 (upd (σm 28) (νm 23) y)) τm := by
  obtain ⟨⟨⟨⟨n1, n2, n3, n4, n5⟩, k1, ⟨s0, s1, s2, s3, s4⟩, p1, b1⟩, hh, ⟨⟨o0, o1, o2, o3⟩, r1, z1, e1, e2, e3, ⟨d0, d1, d2, d3, d4, d5⟩⟩⟩, -⟩ := id h
  obtain ⟨c0, c1, c2, c3, c4⟩ := col_up5 (f := σ 10) (m := νm 23) (x0 := nI P) (x1 := nI R) (x2 := nI S0) (x3 := nI D0) (x4 := y)
  refine REL_now2 h ⟨⟨⟨n1, n2, n3, rfl, n5⟩, k1, ⟨?_, ?_, ?_, ?_, ?_⟩, p1, b1⟩, hh, ⟨⟨o0, o1, hm, o3⟩, r1, z1, ?_, e2, e3, ⟨tdy_upd d0 hm, tdy_upd d1 hm, tdy_upd d2 hm, tdy_upd d3 hm, tdy_upd d4 hm, d5⟩⟩⟩ (fun c hc => u2_n (by omega)) rfl (fun c hc => pu_n (by omega)) rfl (fun c hc => ?_) ⟨rfl, rfl, rfl, rfl⟩
  · exact c0.trans (by rw [show col (σ 10) 0 = σm 24 from s0]; rfl)
  · exact c1.trans (by rw [show col (σ 10) 1 = σm 25 from s1]; rfl)
  · exact c2.trans (by rw [show col (σ 10) 2 = σm 26 from s2]; rfl)
  · exact c3.trans (by rw [show col (σ 10) 3 = σm 27 from s3]; rfl)
  · exact c4.trans (by rw [show col (σ 10) 4 = σm 28 from s4]; rfl)
  · intro i hi
    have hi : i < νm 23 + 1 := hi
    show ∃ P' R' S' D' : Nat, P' < 6 ∧ R' < 6 ∧ S' ≤ 99 ∧ D' ≤ 20 ∧ upd (σm 24) (νm 23) (nI P) i = nI P' ∧ upd (σm 25) (νm 23) (nI R) i = nI R' ∧ upd (σm 26) (νm 23) (nI S0) i = nI S' ∧ upd (σm 27) (νm 23) (nI D0) i = nI D'
    by_cases e : i = νm 23
    · subst e; rw [pk_us, pk_us, pk_us, pk_us]; exact ⟨P, R, S0, D0, hP, hR, hS, hD, rfl, rfl, rfl, rfl⟩
    · rw [pk_un e, pk_un e, pk_un e, pk_un e]; exact e1 i (by omega)
  · rw [u2_n (by omega), u2_n (by omega), u2_n (by omega), u2_n (by omega), u2_n (by omega)]
theorem REL_plan {ν : Nat → Nat → Nat} {σ : Nat → Nat → Int32} {τ : Nat → Nat → Int64} {νm : Nat → Nat} {σm : Nat → Nat → Int32} {τm : Nat → Int64} (h : REL ν σ τ νm σm τm) {w P : Nat} {p : Int32} (hm : νm 29 < 10) (hw : w ≤ 3) (hP : P < 6) (hp : ¬ w = 0 → p = nI P) : REL (pu ν 11 (u1 (ν 11) 1 (νm 29 + 1))) (u2 σ 12 (up5 (σ 12) (νm 29) (nI w) p (nI 0) (nI 0) (nI 0))) τ (u1 νm 29 (νm 29 + 1)) (u2 (u2 σm 30 (upd (σm 30) (νm 29) (nI w))) 31 (upd (σm 31) (νm 29) (if w = 0 then nI 0 else p))) τm := by
  obtain ⟨⟨⟨⟨n1, n2, n3, n4, n5, n6⟩, k1, s1, ⟨p0, p1⟩, b1⟩, hh, ⟨⟨o0, o1, o2, o3, o4⟩, r1, z1, e1, e2, e3, ⟨d0, d1, d2, d3, d4, d5, d6, d7⟩⟩⟩, -⟩ := id h
  obtain ⟨c0, c1, -⟩ := col_up5 (f := σ 12) (m := νm 29) (x0 := nI w) (x1 := p) (x2 := nI 0) (x3 := nI 0) (x4 := nI 0)
  refine REL_now2 h ⟨⟨⟨n1, n2, n3, n4, rfl, n6⟩, k1, s1, ⟨?_, ?_⟩, b1⟩, hh, ⟨⟨o0, o1, o2, hm, o4⟩, r1, z1, e1, ?_, e3, ⟨d0, d1, d2, d3, d4, tdy_upd d5 hm, tdy_upd d6 hm, d7⟩⟩⟩ (fun c hc => u2_n (by omega)) rfl (fun c hc => pu_n (by omega)) rfl (fun c hc => ?_) ⟨rfl, rfl, rfl, rfl⟩
  · exact c0.trans (by rw [show col (σ 12) 0 = σm 30 from p0]; rfl)
  · intro i hi hz
    have hi : i < νm 29 + 1 := hi
    have hz : ¬ upd (σm 30) (νm 29) (nI w) i = nI 0 := hz
    show col (up5 (σ 12) (νm 29) (nI w) p (nI 0) (nI 0) (nI 0)) 1 i = upd (σm 31) (νm 29) (if w = 0 then nI 0 else p) i
    rw [c1]
    by_cases e : i = νm 29
    · subst e
      rw [pk_us] at hz ⊢; rw [pk_us, if_neg (fun q => hz (by rw [q]))]
    · rw [pk_un e] at hz ⊢; rw [pk_un e]; exact p1 i (by omega) hz
  · intro i hi
    have hi : i < νm 29 + 1 := hi
    show ∃ w' p' : Nat, w' ≤ 3 ∧ p' < 6 ∧ upd (σm 30) (νm 29) (nI w) i = nI w' ∧ upd (σm 31) (νm 29) (if w = 0 then nI 0 else p) i = nI p'
    by_cases e : i = νm 29
    · subst e; rw [pk_us, pk_us]
      by_cases hw0 : w = 0
      · exact ⟨w, 0, hw, by decide, rfl, by rw [if_pos hw0]⟩
      · exact ⟨w, P, hw, hP, rfl, by rw [if_neg hw0]; exact hp hw0⟩
    · rw [pk_un e, pk_un e]; exact e2 i (by omega)
  · rw [u2_n (by omega), u2_n (by omega)]
theorem REL_book {ν : Nat → Nat → Nat} {σ : Nat → Nat → Int32} {τ : Nat → Nat → Int64} {νm : Nat → Nat} {σm : Nat → Nat → Int32} {τm : Nat → Int64} (h : REL ν σ τ νm σm τm) {P R : Nat} {y : Int32} (hm : νm 32 < 8) (hP : P < 6) (hR : R < 6) : REL (pu ν 13 (u1 (ν 13) 1 (νm 32 + 1))) (u2 σ 14 (up5 (σ 14) (νm 32) (nI P) (nI R) y (nI 0) (nI 0))) τ (u1 νm 32 (νm 32 + 1)) (u2 (u2 (u2 σm 33 (upd (σm 33) (νm 32) (nI P))) 34 (upd (σm 34) (νm 32) (nI R))) 35 (upd (σm 35) (νm 32) y)) τm := by
  obtain ⟨⟨⟨⟨n1, n2, n3, n4, n5, n6⟩, k1, s1, p1, ⟨b0, b1, b2⟩⟩, hh, ⟨⟨o0, o1, o2, o3, o4⟩, r1, z1, e1, e2, e3, ⟨d0, d1, d2, d3, d4, d5, d6, d7, d8, d9⟩⟩⟩, -⟩ := id h
  obtain ⟨c0, c1, c2, -⟩ := col_up5 (f := σ 14) (m := νm 32) (x0 := nI P) (x1 := nI R) (x2 := y) (x3 := nI 0) (x4 := nI 0)
  refine REL_now2 h ⟨⟨⟨n1, n2, n3, n4, n5, rfl⟩, k1, s1, p1, ⟨?_, ?_, ?_⟩⟩, hh, ⟨⟨o0, o1, o2, o3, hm⟩, r1, z1, e1, e2, ?_, ⟨d0, d1, d2, d3, d4, d5, d6, tdy_upd d7 hm, tdy_upd d8 hm, tdy_upd d9 hm⟩⟩⟩ (fun c hc => u2_n (by omega)) rfl (fun c hc => pu_n (by omega)) rfl (fun c hc => ?_) ⟨rfl, rfl, rfl, rfl⟩
  · exact c0.trans (by rw [show col (σ 14) 0 = σm 33 from b0]; rfl)
  · exact c1.trans (by rw [show col (σ 14) 1 = σm 34 from b1]; rfl)
  · exact c2.trans (by rw [show col (σ 14) 2 = σm 35 from b2]; rfl)
  · intro i hi
    have hi : i < νm 32 + 1 := hi
    show ∃ P' R' : Nat, P' < 6 ∧ R' < 6 ∧ upd (σm 33) (νm 32) (nI P) i = nI P' ∧ upd (σm 34) (νm 32) (nI R) i = nI R'
    by_cases e : i = νm 32
    · subst e; rw [pk_us, pk_us]; exact ⟨P, R, hP, hR, rfl, rfl⟩
    · rw [pk_un e, pk_un e]; exact e3 i (by omega)
  · rw [u2_n (by omega), u2_n (by omega), u2_n (by omega)]
