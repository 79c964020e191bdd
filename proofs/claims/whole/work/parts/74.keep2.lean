/-! WHAT KEEPS THE TWO SIDES TOGETHER: texts, acts, tapes, images, exchanges -/
theorem REL_feed {ν : Nat → Nat → Nat} {σ : Nat → Nat → Int32} {τ : Nat → Nat → Int64} {νm : Nat → Nat} {σm : Nat → Nat → Int32} {τm : Nat → Int64} (h : REL ν σ τ νm σm τm) {t : Nat} (ht : t < 128) (h7 : νm 7 < 100) : REL (pu ν 37 (u1 (ν 37) 3 (νm 7 + 1))) (u2 σ 38 (upd (σ 38) (νm 7) (nI t))) τ (u1 νm 7 (νm 7 + 1)) (u2 σm 8 (upd (σm 8) (νm 7) (nI t))) τm := by
  obtain ⟨hN, hI, ⟨x1, x2, x3, x4⟩, ⟨e1, e2, e3, e4, e5, e6⟩, hA, ⟨t1, t2, t3, t4⟩⟩ := h
  refine ⟨hN, hI, ⟨rfl, h7, ?_, fun j => ?_⟩, ⟨e1, e2, e3, e4, e5, ?_⟩, hA, ⟨(cSo_u2 (by decide)).trans t1, (cSz_pu (by decide)).trans t2, t3, ?_⟩⟩
  · show upd (σ 38) (νm 7) (nI t) = upd (σm 8) (νm 7) (nI t); rw [x3]
  · show ∃ s : Nat, s < 128 ∧ upd (σm 8) (νm 7) (nI t) j = nI s
    by_cases e : j = νm 7
    · rw [e, pk_us]; exact ⟨t, ht, rfl⟩
    · rw [pk_un e]; exact x4 j
  · exact EXS_u2 (EXS_pu e6 (by omega) e2) (by omega) e2
  · rw [cSo_u2 (by decide)]; exact TPS_pu t4 (by decide)
theorem REL_act {ν : Nat → Nat → Nat} {σ : Nat → Nat → Int32} {τ : Nat → Nat → Int64} {νm : Nat → Nat} {σm : Nat → Nat → Int32} {τm : Nat → Int64} (h : REL ν σ τ νm σm τm) {t : Nat} {g bo : Nat → Int32} (ht : t < 100000) : REL (pu ν 68 (u1 (ν 68) 1 t)) (u2 (u2 σ 68 g) 69 bo) τ (u1 νm 36 t) (u2 σm 37 bo) τm := by
  obtain ⟨hN, hI, hT, ⟨e1, e2, e3, e4, e5, e6⟩, ⟨a1, a2, a3, a4⟩, ⟨t1, t2, t3, t4⟩⟩ := h
  refine ⟨hN, hI, hT, ⟨e1, e2, e3, e4, e5, EXS_u2 (EXS_u2 (EXS_pu e6 (by omega) e2) (by omega) e2) (by omega) e2⟩, ⟨rfl, ht, rfl, a4⟩, ⟨(cSo_u2 (by decide)).trans ((cSo_u2 (by decide)).trans t1), (cSz_pu (by decide)).trans t2, t3, ?_⟩⟩
  rw [cSo_u2 (by decide), cSo_u2 (by decide)]; exact TPS_pu t4 (by decide)
theorem REL_tap {ν ν' : Nat → Nat → Nat} {σ σ' : Nat → Nat → Int32} {τ τ' : Nat → Nat → Int64} {νm : Nat → Nat} {σm σm' : Nat → Nat → Int32} {τm τm' : Nat → Int64} (h : REL ν σ τ νm σm τm) (hν : ∀ c, c < 71 → ν' c = ν c) (hs : ∀ c, c < 71 → σ' c = σ c) (hm : ∀ c, ¬ c = 43 → ¬ c = 44 → σm' c = σm c) (hT : RTap ν' σ' τ' σm' τm') : REL ν' σ' τ' νm σm' τm' := by
  obtain ⟨hN, hI, hX, ⟨e1, e2, e3, e4, e5, e6⟩, hA, -⟩ := h
  have hMk : ∀ c (νk : Nat → Nat) (σk : Nat → Nat → Int32), c ≤ 17 → MkC c ν σ νk σk → MkC c ν' σ' νk σk := fun c νk σk hc z => by
    unfold MkC at z ⊢
    rw [hν (c + 1) (by omega), hν c (by omega), hν (c + 8) (by omega), hν (c + 10) (by omega), hν (c + 12) (by omega), hs (c + 5) (by omega), hs (c + 6) (by omega), hs (c + 2) (by omega), hs (c + 7) (by omega), hs (c + 3) (by omega), hs (c + 9) (by omega), hs (c + 11) (by omega), hs (c + 13) (by omega)]
    exact z
  have hMm : ∀ c, MkC c ν' σ' νm σm → MkC c ν' σ' νm σm' := fun c z => by
    unfold MkC at z ⊢
    rw [hm 14 (by decide) (by decide), hm 1 (by decide) (by decide), hm 2 (by decide) (by decide), hm 3 (by decide) (by decide), hm 4 (by decide) (by decide), hm 5 (by decide) (by decide), hm 24 (by decide) (by decide), hm 25 (by decide) (by decide), hm 26 (by decide) (by decide), hm 27 (by decide) (by decide), hm 28 (by decide) (by decide), hm 30 (by decide) (by decide), hm 31 (by decide) (by decide), hm 33 (by decide) (by decide), hm 34 (by decide) (by decide), hm 35 (by decide) (by decide)]
    exact z
  refine ⟨⟨hMm 1 (hMk 1 _ _ (by decide) hN.1), ?_, ?_⟩, ?_, ?_, ?_, ?_, hT⟩
  · rw [hν 1 (by omega), hν 37 (by omega)]; exact hN.2.1
  · have z := hN.2.2
    unfold OKM tdS at z ⊢
    rw [hm 1 (by decide) (by decide), hm 2 (by decide) (by decide), hm 3 (by decide) (by decide), hm 4 (by decide) (by decide), hm 5 (by decide) (by decide), hm 24 (by decide) (by decide), hm 25 (by decide) (by decide), hm 26 (by decide) (by decide), hm 27 (by decide) (by decide), hm 28 (by decide) (by decide), hm 30 (by decide) (by decide), hm 31 (by decide) (by decide), hm 33 (by decide) (by decide), hm 34 (by decide) (by decide), hm 35 (by decide) (by decide)]
    exact z
  · unfold RImg at hI ⊢
    rw [hν 0 (by omega), hm 38 (by decide) (by decide), hm 39 (by decide) (by decide), hν 17 (by omega), hν 37 (by omega)]
    rcases hI with hI | ⟨i1, i2, νk, σk, i3, i4⟩
    · exact Or.inl hI
    · exact Or.inr ⟨i1, i2, νk, σk, hMk 17 _ _ (by decide) i3, i4⟩
  · unfold RTxt at hX ⊢
    rw [hν 37 (by omega), hs 38 (by omega), hm 8 (by decide) (by decide)]; exact hX
  · unfold RExc
    rw [hν 37 (by omega), hν 40 (by omega)]
    refine ⟨e1, e2, e3, e4, e5, fun e he => ?_⟩
    obtain ⟨x, h1, h2⟩ := e6 e he
    refine ⟨x, ?_, ?_⟩
    · unfold exH at h1 ⊢
      rw [hν _ (by omega), hs _ (by omega), hs _ (by omega), hs _ (by omega)]; exact h1
    · unfold modZ at h2 ⊢
      rw [hm 15 (by decide) (by decide), hm 16 (by decide) (by decide), hm 17 (by decide) (by decide), hm 18 (by decide) (by decide), hm 19 (by decide) (by decide), hm 20 (by decide) (by decide)]; exact h2
  · unfold RAct at hA ⊢
    rw [hν 68 (by omega), hs 69 (by omega), hm 37 (by decide) (by decide), hs 5 (by omega)]; exact hA
theorem zeroL_at {τ : Nat → Int64} {b j : Nat} : ∀ k, zeroL τ b k j = if b ≤ j ∧ j < b + k then 0 else τ j := by
  intro k
  induction k with
  | zero => rw [if_neg (by omega)]; rfl
  | succ k ih =>
    rw [zeroL]; unfold vp_updL
    by_cases e : j = b + k
    · rw [if_pos e, if_pos ⟨by omega, by omega⟩]
    · rw [if_neg e, ih]
      by_cases c : b ≤ j ∧ j < b + k
      · rw [if_pos c, if_pos ⟨c.1, by omega⟩]
      · rw [if_neg c, if_neg (fun z => c ⟨z.1, by omega⟩)]
theorem cTa_pu {τ : Nat → Nat → Int64} {t : Nat} {f : Nat → Int64} {x : Nat} : cTa (pu τ (72 + 2 * t) f) x = if x / 60 = t then f (x % 60) else cTa τ x := by
  unfold cTa pu
  by_cases e : x / 60 = t
  · rw [if_pos (by omega), if_pos e]
  · rw [if_neg (by omega), if_neg e]
theorem REL_tape {ν : Nat → Nat → Nat} {σ : Nat → Nat → Int32} {τ : Nat → Nat → Int64} {νm : Nat → Nat} {σm : Nat → Nat → Int32} {τm : Nat → Int64} (h : REL ν σ τ νm σm τm) {t z : Nat} {s : Int32} (ht : t < 6) (hz : z ≤ 60) (hs4 : s ≤ nI 4) (hs : (s = -1 ∧ z = 0) ∨ ¬ s < 0) : REL (pu ν (71 + 2 * t) (u1 (ν (71 + 2 * t)) 2 z)) (u2 σ (71 + 2 * t) (upd (σ (71 + 2 * t)) 1 s)) (pu τ (72 + 2 * t) (zeroL (τ (72 + 2 * t)) 0 60)) νm (u2 (u2 σm 43 (upd (σm 43) t s)) 44 (upd (σm 44) t (nI z))) (zeroL τm (60 * t) 60) := by
  obtain ⟨t1, t2, t3, t4⟩ := h.2.2.2.2.2
  have a1 : cSo (u2 σ (71 + 2 * t) (upd (σ (71 + 2 * t)) 1 s)) = upd (cSo σ) t s := by
    funext u; unfold cSo
    by_cases e : u = t
    · subst e; rw [u2_s, pk_us, pk_us]
    · rw [u2_n (by omega), pk_un e]
  refine REL_tap h (fun c hc => pu_n (by omega)) (fun c hc => u2_n (by omega)) (fun c h1 h2 => by rw [u2_n h2, u2_n h1]) ⟨?_, ?_, ?_, ?_⟩
  · show _ = upd (σm 43) t s
    rw [a1, t1]
  · show _ = upd (σm 44) t (nI z)
    rw [← t2]; funext u; unfold cSz
    by_cases e : u = t
    · subst e; rw [pu_s, pk_us]; rfl
    · rw [pu_n (by omega), pk_un e]
  · funext x
    rw [cTa_pu, ← t3]
    by_cases e : x / 60 = t
    · rw [if_pos e, zeroL_at, if_pos ⟨Nat.zero_le _, by omega⟩, zeroL_at, if_pos ⟨by omega, by omega⟩]
    · rw [if_neg e, zeroL_at, if_neg (fun q => by omega)]
  · rw [a1]
    intro u hu
    by_cases e : u = t
    · subst e; rw [pk_us, pu_s]; exact ⟨hz, hs4, hs⟩
    · rw [pk_un e, pu_n (by omega)]; exact t4 u hu
theorem REL_item {ν : Nat → Nat → Nat} {σ : Nat → Nat → Int32} {τ : Nat → Nat → Int64} {νm : Nat → Nat} {σm : Nat → Nat → Int32} {τm : Nat → Int64} (h : REL ν σ τ νm σm τm) {t i : Nat} {v : Int64} (hi : i < 60) : REL ν σ (pu τ (72 + 2 * t) (vp_updL (τ (72 + 2 * t)) i v)) νm σm (vp_updL τm (60 * t + i) v) := by
  obtain ⟨t1, t2, t3, t4⟩ := h.2.2.2.2.2
  refine REL_tap h (fun c hc => rfl) (fun c hc => rfl) (fun c h1 h2 => rfl) ⟨t1, t2, ?_, t4⟩
  funext x
  rw [cTa_pu, ← t3]; unfold vp_updL
  by_cases e : x / 60 = t
  · rw [if_pos e]
    by_cases e2 : x % 60 = i
    · rw [if_pos e2, if_pos (by omega)]
    · rw [if_neg e2, if_neg (by omega)]; unfold cTa; rw [e]
  · rw [if_neg e, if_neg (by omega)]
theorem REL_shift {ν : Nat → Nat → Nat} {σ : Nat → Nat → Int32} {τ : Nat → Nat → Int64} {νm : Nat → Nat} {σm : Nat → Nat → Int32} {τm : Nat → Int64} (h : REL ν σ τ νm σm τm) {t o i j n : Nat} (hi : i + n ≤ 60) (hj : j + n ≤ 60) : REL ν σ (pu τ (72 + 2 * o) (va_cpy (τ (72 + 2 * t)) (τ (72 + 2 * o)) i j n)) νm σm (va_cpy τm τm (60 * t + i) (60 * o + j) n) := by
  obtain ⟨t1, t2, t3, t4⟩ := h.2.2.2.2.2
  refine REL_tap h (fun c hc => rfl) (fun c hc => rfl) (fun c h1 h2 => rfl) ⟨t1, t2, ?_, t4⟩
  funext x
  rw [cTa_pu, ← t3]; unfold va_cpy
  by_cases e : x / 60 = o
  · rw [if_pos e]
    by_cases c : j ≤ x % 60 ∧ x % 60 < j + n
    · rw [if_pos c, if_pos ⟨by omega, by omega⟩]
      unfold cTa
      rw [show (60 * t + i + (x - (60 * o + j))) / 60 = t by omega, show (60 * t + i + (x - (60 * o + j))) % 60 = i + (x % 60 - j) by omega]
    · rw [if_neg c, if_neg (fun z => c ⟨by omega, by omega⟩)]; unfold cTa; rw [e]
  · rw [if_neg e, if_neg (fun z => by omega)]
theorem kept_eq {s : Int32} {v : Int64} (h4 : s ≤ nI 4) (h0 : ¬ s < 0) : keptC s v = keptV s v := by
  obtain ⟨k, hk, rfl⟩ := nI_of (x := s) h0
  rw [nI_leI hk (by decide)] at h4
  rcases (show k = 0 ∨ k = 1 ∨ k = 2 ∨ k = 3 ∨ k = 4 by omega) with rfl | rfl | rfl | rfl | rfl <;> rfl
theorem cpS_hi {σ : Nat → Nat → Int32} {c d k : Nat} (h : c + 14 ≤ k) : cpS σ c d k = σ k := by
  unfold cpS
  rw [u2_n (by omega), u2_n (by omega), u2_n (by omega), u2_n (by omega), u2_n (by omega), u2_n (by omega), u2_n (by omega), u2_n (by omega)]
theorem cpN_hi {ν : Nat → Nat → Nat} {c d k : Nat} (h : c + 13 ≤ k) : cpN ν c d k = ν k := by
  unfold cpN
  rw [pu_n (by omega), pu_n (by omega), pu_n (by omega), pu_n (by omega), pu_n (by omega)]
theorem REL_image {ν : Nat → Nat → Nat} {σ : Nat → Nat → Int32} {τ : Nat → Nat → Int64} {νm : Nat → Nat} {σm : Nat → Nat → Int32} {τm : Nat → Int64} (h : REL ν σ τ νm σm τm) : REL (pu (cpN ν 17 1) 0 (u1 (ν 0) 6 1)) (cpS σ 17 1) τ νm (u2 (u2 σm 38 (upd (σm 38) 0 (nI 1))) 39 (keepF νm (u2 σm 38 (upd (σm 38) 0 (nI 1))) (σm 39))) τm := by
  obtain ⟨⟨hM, hh, hO⟩, -, hT, ⟨e1, e2, e3, e4, e5, e6⟩, hA, ⟨t1, t2, t3, t4⟩⟩ := h
  have s1 : cSo (cpS σ 17 1) = cSo σ := by funext t; unfold cSo; rw [cpS_hi (by omega)]
  have n1 : cSz (pu (cpN ν 17 1) 0 (u1 (ν 0) 6 1)) = cSz ν := by funext t; unfold cSz; rw [pu_n (by omega), cpN_hi (by omega)]
  refine ⟨⟨hM, hh, hO⟩, Or.inr ⟨rfl, rfl, νm, σm, hM, hh, hO, KI_keep (σ := u2 σm 38 (upd (σm 38) 0 (nI 1)))⟩, hT, ⟨e1, e2, e3, e4, e5, fun e he => ?_⟩, hA, ⟨s1.trans t1, n1.trans t2, t3, ?_⟩⟩
  · obtain ⟨x, h1, h2⟩ := e6 e he
    refine ⟨x, ?_, h2⟩
    unfold exH at h1 ⊢
    rw [pu_n (by omega), cpN_hi (by omega), cpS_hi (by omega), cpS_hi (by omega), cpS_hi (by omega)]; exact h1
  · rw [s1]; intro t ht; rw [pu_n (by omega), cpN_hi (by omega)]; exact t4 t ht
theorem again_K {σm σk : Nat → Nat → Int32} {νm νk : Nat → Nat} {g : Nat → Int32} (hK : KI g νk σk) (h1 : OKM νm σm) (h2 : OKM νk σk) :
    (againF σm g 1 = σk 1 ∧ againF σm g 2 = σk 2 ∧ againF σm g 3 = σk 3 ∧ againF σm g 4 = σk 4 ∧ againF σm g 5 = σk 5) ∧ (againF σm g 24 = σk 24 ∧ againF σm g 25 = σk 25 ∧ againF σm g 26 = σk 26 ∧ againF σm g 27 = σk 27 ∧ againF σm g 28 = σk 28) ∧ (againF σm g 30 = σk 30 ∧ againF σm g 31 = σk 31) ∧ (againF σm g 33 = σk 33 ∧ againF σm g 34 = σk 34 ∧ againF σm g 35 = σk 35) ∧ againF σm g 14 0 = σk 14 0 := by
  obtain ⟨g1, g2, g3, g4, g5, g6, g7, g8, g9, g10, g11, g12, g13, g14⟩ := hK
  obtain ⟨-, ⟨r1, r2, r3, r4, r5⟩, -, -, -, -, ⟨d0, d1, d2, d3, d4, d5, d6, d7, d8, d9⟩⟩ := h1
  obtain ⟨-, ⟨q1, q2, q3, q4, q5⟩, -, -, -, -, ⟨f0, f1, f2, f3, f4, f5, f6, f7, f8, f9⟩⟩ := h2
  refine ⟨⟨?_, ?_, ?_, ?_, ?_⟩, ⟨?_, ?_, ?_, ?_, ?_⟩, ⟨?_, ?_⟩, ⟨?_, ?_, ?_⟩, ?_⟩
  · exact cpy_back (fun j hj => by rw [Nat.zero_add]; exact g1 j hj) (fun j hj => (r1.2 j hj).trans (q1.2 j hj).symm)
  · exact cpy_back g2 (fun j hj => (r2.2 j hj).trans (q2.2 j hj).symm)
  · exact cpy_back g3 (fun j hj => (r3.2 j hj).trans (q3.2 j hj).symm)
  · exact cpy_back g4 (fun j hj => (r4.2 j hj).trans (q4.2 j hj).symm)
  · exact cpy_back g5 (fun j hj => (r5.2 j hj).trans (q5.2 j hj).symm)
  · exact cpy_back (fun j hj => (g6 j hj).1) (fun j hj => (d0 j hj).trans (f0 j hj).symm)
  · exact cpy_back (fun j hj => (g6 j hj).2.1) (fun j hj => (d1 j hj).trans (f1 j hj).symm)
  · exact cpy_back (fun j hj => (g6 j hj).2.2.1) (fun j hj => (d2 j hj).trans (f2 j hj).symm)
  · exact cpy_back (fun j hj => (g6 j hj).2.2.2.1) (fun j hj => (d3 j hj).trans (f3 j hj).symm)
  · exact cpy_back (fun j hj => (g6 j hj).2.2.2.2) (fun j hj => (d4 j hj).trans (f4 j hj).symm)
  · exact cpy_back (fun j hj => (g7 j hj).1) (fun j hj => (d5 j hj).trans (f5 j hj).symm)
  · exact cpy_back (fun j hj => (g7 j hj).2) (fun j hj => (d6 j hj).trans (f6 j hj).symm)
  · exact cpy_back (fun j hj => (g8 j hj).1) (fun j hj => (d7 j hj).trans (f7 j hj).symm)
  · exact cpy_back (fun j hj => (g8 j hj).2.1) (fun j hj => (d8 j hj).trans (f8 j hj).symm)
  · exact cpy_back (fun j hj => (g8 j hj).2.2) (fun j hj => (d9 j hj).trans (f9 j hj).symm)
  · show upd (σm 14) 0 (g 152) 0 = σk 14 0
    rw [pk_us]; exact g14
theorem REL_undo {ν : Nat → Nat → Nat} {σ : Nat → Nat → Int32} {τ : Nat → Nat → Int64} {νm νk : Nat → Nat} {σm σk : Nat → Nat → Int32} {τm : Nat → Int64} (h : REL ν σ τ νm σm τm) (i1 : ν 0 6 = 1) (i2 : σm 38 0 = nI 1) (i3 : MkC 17 ν σ νk σk) (i4 : ν 17 10 ≤ ν 37 4) (i5 : OKM νk σk) (i6 : KI (σm 39) νk σk) : REL (cpN ν 1 17) (cpS σ 1 17) τ (u1 (u1 (u1 (u1 (u1 νm 0 (νk 0)) 6 (νk 6)) 23 (νk 23)) 29 (νk 29)) 32 (νk 32)) (againF σm (σm 39)) τm := by
  obtain ⟨⟨hM, hh, hO⟩, -, hT, ⟨e1, e2, e3, e4, e5, e6⟩, hA, ⟨t1, t2, t3, t4⟩⟩ := h
  obtain ⟨⟨k1, k2, k3, k4, k5⟩, ⟨s0, s1, s2, s3, s4⟩, ⟨p0, p1⟩, ⟨b0, b1, b2⟩, k14⟩ := again_K i6 hO i5
  obtain ⟨⟨m1, m2, m3, m4⟩, ⟨a1, a2, a3, a4, a5⟩, ⟨c0, c1, c2, c3, c4⟩, ⟨d0, d1⟩, ⟨f0, f1, f2⟩⟩ := id i3
  have cs1 : cSo (cpS σ 1 17) = cSo σ := by funext t; unfold cSo; rw [cpS_hi (by omega)]
  have cn1 : cSz (cpN ν 1 17) = cSz ν := by funext t; unfold cSz; rw [cpN_hi (by omega)]
  refine ⟨⟨⟨⟨m1, m2, ?_, m4⟩, ⟨?_, ?_, ?_, ?_, ?_⟩, ⟨?_, ?_, ?_, ?_, ?_⟩, ⟨?_, ?_⟩, ⟨?_, ?_, ?_⟩⟩, i4, ?_⟩, Or.inr ⟨i1, i2, νk, σk, i3, i4, i5, i6⟩, hT, ⟨e1, e2, e3, e4, e5, fun e he => ?_⟩, hA, ⟨cs1.trans t1, cn1.trans t2, t3, ?_⟩⟩
  · exact k14.trans m3
  · exact a1.trans k1.symm
  · exact a2.trans k2.symm
  · exact a3.trans k3.symm
  · exact a4.trans k4.symm
  · exact a5.trans k5.symm
  · exact c0.trans s0.symm
  · exact c1.trans s1.symm
  · exact c2.trans s2.symm
  · exact c3.trans s3.symm
  · exact c4.trans s4.symm
  · exact d0.trans p0.symm
  · rw [p0, p1]; exact d1
  · exact f0.trans b0.symm
  · exact f1.trans b1.symm
  · exact f2.trans b2.symm
  · unfold OKM tdS at i5 ⊢
    rw [k1, k2, k3, k4, k5, s0, s1, s2, s3, s4, p0, p1, b0, b1, b2]
    exact i5
  · obtain ⟨x, h1, h2⟩ := e6 e he
    refine ⟨x, ?_, h2⟩
    unfold exH at h1 ⊢
    rw [cpN_hi (by omega), cpS_hi (by omega), cpS_hi (by omega), cpS_hi (by omega)]; exact h1
  · rw [cs1]; intro t ht; rw [cpN_hi (by omega)]; exact t4 t ht
theorem REL_ex {ν ν' : Nat → Nat → Nat} {σ σ' : Nat → Nat → Int32} {τ : Nat → Nat → Int64} {νm νm' : Nat → Nat} {σm σm' : Nat → Nat → Int32} {τm : Nat → Int64} (h : REL ν σ τ νm σm τm) (hν : ∀ c, ¬ c = 1 → ¬ c = 37 → (c < 44 ∨ 68 ≤ c) → ν' c = ν c) (h19 : ν' 1 9 = ν 1 9) (h373 : ν' 37 3 = 0) (hkn : ν' 37 4 = νm' 13) (hmo : νm 13 ≤ νm' 13) (hk6 : νm' 13 ≤ 6) (hcd : νm' 21 ≤ 100 * νm' 13) (hσ : ∀ c, (c < 44 ∨ 68 ≤ c) → σ' c = σ c) (hold : σm' 14 0 = nI (ν' 1 10) - 1) (hle : ν' 1 10 ≤ νm' 13) (hνm : ∀ k, k ≠ 7 → k ≠ 9 → k ≠ 11 → k ≠ 12 → k ≠ 13 → k ≠ 21 → νm' k = νm k) (h7 : νm' 7 = 0) (hσm : ∀ k, k ≠ 10 → k ≠ 14 → k ≠ 15 → k ≠ 16 → k ≠ 17 → k ≠ 18 → k ≠ 19 → k ≠ 20 → σm' k = σm k) (hE : EXS ν' σ' (νm' 13) (νm' 21) σm') : REL ν' σ' τ νm' σm' τm := by
  obtain ⟨⟨⟨⟨m1, m2, m3, m4⟩, hM⟩, hh, hO⟩, hI, ⟨x1, x2, x3, x4⟩, ⟨e1, e2, e3, e4, e5, e6⟩, ⟨a1, a2, a3, a4⟩, ⟨t1, t2, t3, t4⟩⟩ := h
  have hm : ∀ k, (k < 10 ∨ 21 ≤ k) → σm' k = σm k := fun k hk => hσm k (by omega) (by omega) (by omega) (by omega) (by omega) (by omega) (by omega) (by omega)
  have hn : ∀ k, (k < 7 ∨ 22 ≤ k) → νm' k = νm k := fun k hk => hνm k (by omega) (by omega) (by omega) (by omega) (by omega) (by omega)
  have hSo : cSo σ' = cSo σ := by funext t; unfold cSo; rw [hσ _ (by omega)]
  have hSz : cSz ν' = cSz ν := by funext t; unfold cSz; rw [hν _ (by omega) (by omega) (by omega)]
  refine ⟨⟨⟨⟨?_, ?_, hold, ?_⟩, ?_⟩, by omega, ?_⟩, ?_, ⟨?_, ?_, ?_, ?_⟩, ⟨hkn, hk6, hcd, ?_, ?_, hE⟩, ⟨?_, ?_, ?_, ?_⟩, ⟨?_, ?_, t3, ?_⟩⟩
  · rw [hν (1 + 1) (by omega) (by omega) (by omega), hn 0 (by omega)]; exact m1
  · rw [h19, hn 6 (by omega)]; exact m2
  · rw [hν (1 + 8) (by omega) (by omega) (by omega), hν (1 + 10) (by omega) (by omega) (by omega), hν (1 + 12) (by omega) (by omega) (by omega), hn 23 (by omega), hn 29 (by omega), hn 32 (by omega)]; exact m4
  · rw [hσ (1 + 5) (by omega), hσ (1 + 6) (by omega), hσ (1 + 2) (by omega), hσ (1 + 7) (by omega), hσ (1 + 3) (by omega), hσ (1 + 9) (by omega), hσ (1 + 11) (by omega), hσ (1 + 13) (by omega), hm 1 (by omega), hm 2 (by omega), hm 3 (by omega), hm 4 (by omega), hm 5 (by omega), hm 24 (by omega), hm 25 (by omega), hm 26 (by omega), hm 27 (by omega), hm 28 (by omega), hm 30 (by omega), hm 31 (by omega), hm 33 (by omega), hm 34 (by omega), hm 35 (by omega), hn 29 (by omega)]; exact hM
  · unfold OKM tdS at hO ⊢
    rw [hn 0 (by omega), hn 6 (by omega), hn 23 (by omega), hn 29 (by omega), hn 32 (by omega), hm 1 (by omega), hm 2 (by omega), hm 3 (by omega), hm 4 (by omega), hm 5 (by omega), hm 24 (by omega), hm 25 (by omega), hm 26 (by omega), hm 27 (by omega), hm 28 (by omega), hm 30 (by omega), hm 31 (by omega), hm 33 (by omega), hm 34 (by omega), hm 35 (by omega)]; exact hO
  · unfold RImg at hI ⊢
    rw [hν 0 (by omega) (by omega) (by omega), hm 38 (by omega), hm 39 (by omega), hν 17 (by omega) (by omega) (by omega)]
    rcases hI with hI | ⟨i1, i2, νk, σk, i3, i4, i5⟩
    · exact Or.inl hI
    · refine Or.inr ⟨i1, i2, νk, σk, ?_, by omega, i5⟩
      unfold MkC at i3 ⊢
      rw [hν (17 + 1) (by omega) (by omega) (by omega), hν 17 (by omega) (by omega) (by omega), hν (17 + 8) (by omega) (by omega) (by omega), hν (17 + 10) (by omega) (by omega) (by omega), hν (17 + 12) (by omega) (by omega) (by omega), hσ (17 + 5) (by omega), hσ (17 + 6) (by omega), hσ (17 + 2) (by omega), hσ (17 + 7) (by omega), hσ (17 + 3) (by omega), hσ (17 + 9) (by omega), hσ (17 + 11) (by omega), hσ (17 + 13) (by omega)]
      exact i3
  · rw [h373, h7]
  · omega
  · rw [hσ 38 (by omega), hm 8 (by omega)]; exact x3
  · rw [hm 8 (by omega)]; exact x4
  · rw [hν 40 (by omega) (by omega) (by omega)]; exact e4
  · rw [hν 40 (by omega) (by omega) (by omega)]; exact e5
  · rw [hν 68 (by omega) (by omega) (by omega), hn 36 (by omega)]; exact a1
  · rw [hn 36 (by omega)]; exact a2
  · rw [hσ 69 (by omega), hm 37 (by omega)]; exact a3
  · rw [hσ 5 (by omega)]; exact a4
  · rw [hSo, hm 43 (by omega)]; exact t1
  · rw [hSz, hm 44 (by omega)]; exact t2
  · rw [hSo]; intro t ht; rw [hν _ (by omega) (by omega) (by omega)]; exact t4 t ht
