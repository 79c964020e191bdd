/-! AN EXCHANGE IS CLOSED, on both sides -/
theorem exN_n {ν : Nat → Nat → Nat} {e kn p A k C b c : Nat} (h1 : ¬ c = 37) (h2 : ¬ c = 44 + 4 * e) : exN ν e kn p A k C b c = ν c := by
  unfold exN; rw [pu_n h2, pu_n h1]
theorem exN_37 {ν : Nat → Nat → Nat} {e kn p A k C b : Nat} : exN ν e kn p A k C b 37 3 = 0 := by
  unfold exN; rw [pu_n (by omega), pu_s]; rfl
theorem exN_s {ν : Nat → Nat → Nat} {e kn p A k C b : Nat} : exN ν e kn p A k C b (44 + 4 * e) 4 = C ∧ exN ν e kn p A k C b (44 + 4 * e) 5 = b := by
  unfold exN; rw [pu_s]; exact ⟨rfl, rfl⟩
theorem exS_n {σ : Nat → Nat → Int32} {e c : Nat} {f s w : Nat → Int32} (h : c < 45 + 4 * e ∨ 47 + 4 * e < c) : exS σ e f s w c = σ c := by
  unfold exS; rw [u2_n (by omega), u2_n (by omega), u2_n (by omega)]
theorem exS_s {σ : Nat → Nat → Int32} {e : Nat} {f s w : Nat → Int32} : exS σ e f s w (45 + 4 * e) = f ∧ exS σ e f s w (46 + 4 * e) = s ∧ exS σ e f s w (47 + 4 * e) = w := by
  refine ⟨?_, ?_, ?_⟩
  · unfold exS; rw [u2_n (by omega), u2_n (by omega), u2_s]
  · unfold exS; rw [u2_n (by omega), u2_s]
  · unfold exS; rw [u2_s]
theorem modZ_below {σ σ' : Nat → Nat → Int32} {e kn cd cd' : Nat} {x : EX} (hz : modZ σ e cd x) (hx : x.1 ≤ 10) (he : e < kn) (hc : cd ≤ cd') (h15 : σ' 15 e = σ 15 e) (hb : below σ kn cd (σ' 20) (σ' 16) (σ' 17) (σ' 18) (σ' 19)) : modZ σ' e cd' x := by
  refine ⟨h15.trans hz.1, fun i hi => ?_⟩
  obtain ⟨g1, g2, b, g3, g4, g5, g6⟩ := hz.2 i hi
  obtain ⟨f1, f2, f3, f4⟩ := hb.2 (10 * e + i) (by omega)
  refine ⟨f1.trans g1, f2.trans g2, b, f3.trans g3, f4.trans g4, by omega, fun j hj => ?_⟩
  rw [hb.1 _ (by omega)]; exact g6 j hj
theorem EXS_lo {ν : Nat → Nat → Nat} {σ : Nat → Nat → Int32} {σm σm' : Nat → Nat → Int32} {kn cd cd' p A k C b kn' : Nat} {c s w : Nat → Int32} (h : EXS ν σ kn cd σm) (hc : cd ≤ cd') (h15 : ∀ j, j ≠ kn → σm' 15 j = σm 15 j) (hb : below σm kn cd (σm' 20) (σm' 16) (σm' 17) (σm' 18) (σm' 19)) (hk : kn ≤ 6) {f : Nat → Nat} : EXS (pu (exN ν kn kn' p A k C b) 1 f) (exS σ kn c s w) kn cd' σm' := fun e he => by
  obtain ⟨x, x1, x2⟩ := h e he
  unfold exH at x1
  refine ⟨x, ?_, modZ_below x2 x1.1.1 he hc (h15 e (by omega)) hb⟩
  unfold exH
  rw [pu_n (by omega), exN_n (by omega) (by omega), exS_n (by omega), exS_n (by omega), exS_n (by omega)]; exact x1
theorem pr_exchange (X : Xn) : PairI X M_HB_exchange M_Mod_exchange [] := by
  refine PI_mk2 (fun a ν σ τ b νm σm τm h => ?_)
  obtain ⟨⟨e0, e9, -, -, -, e3, e4, -⟩, -, -, -, -, -, e38, -⟩ := REL_eqs h
  obtain ⟨⟨_, hle, hO⟩, hI, ⟨y1, y2, y3, y4⟩, ⟨z1, z2, z3, z4, z5, z6⟩, -⟩ := id h
  have htx : σm 8 = fun x => nI ((fun j => cn (σm 8 j)) x) := by
    funext x
    obtain ⟨t, ht, et⟩ := y4 x
    show σm 8 x = nI (cn (σm 8 x))
    rw [et, cn_nI (show t < 2 ^ 31 by omega)]
  have hct : ∀ x, (fun j => cn (σm 8 j)) x < 128 := fun x => by
    obtain ⟨t, ht, et⟩ := y4 x
    show cn (σm 8 x) < 128
    rw [et, cn_nI (show t < 2 ^ 31 by omega)]; exact ht
  generalize hT : (fun j => cn (σm 8 j)) = tx at htx hct
  have D1 := c_HB_exchange X a ν σ τ tx (by omega) (fun j _ => by rw [e38, htx]) hct (by omega)
  have D2 := c_Mod_exchange X b νm σm τm tx y2 hct htx z2 z3
  by_cases h6 : νm 13 = 6
  · refine ⟨_, _, -4, fun x y z => x = ν ∧ y = σ ∧ z = τ, fun x y z => x = νm ∧ y = σm ∧ z = τm, ?_, ?_, D1.mono (fun v w q => ?_), D2.mono (fun v w q => ?_), ?_⟩
    · decide
    · decide
    · obtain ⟨q1, q2⟩ := q.1 (by omega); exact ⟨q1, _, _, _, q2, rfl, rfl, rfl⟩
    · obtain ⟨q1, q2⟩ := q.1 h6; exact ⟨q1, _, _, _, q2, rfl, rfl, rfl⟩
    · rintro _ _ _ _ _ _ ⟨rfl, rfl, rfl⟩ ⟨rfl, rfl, rfl⟩; exact h
  · rw [e3, e4] at D1
    refine ⟨_, _, if (exR (νm 7) tx).1 = true then nI (νm 13) else -10 - nI (exR (νm 7) tx).2.1, fun x y z => z = τ ∧ ∃ (p' A k' C' b' : Nat) (c' s' w' : Nat → Int32), y = exS σ (νm 13) c' s' w' ∧ if (exR (νm 7) tx).1 = true then x = pu (exN ν (νm 13) (νm 13 + 1) p' A k' C' b') 1 (u1 ((exN ν (νm 13) (νm 13 + 1) p' A k' C' b') 1) 10 (νm 13 + 1)) ∧ CI (exR (νm 7) tx).2.2 k' C' b' c' s' w' else x = exN ν (νm 13) (νm 13) p' A k' C' b', fun x y z => z = τm ∧ ∃ v, exQ (νm 7) tx νm σm x y v, ?_, ?_, D1.mono (fun v w q => ?_), D2.mono (fun v w q => ?_), ?_⟩
    · decide
    · decide
    · obtain ⟨p', k', C', b', c', s', w', -, q⟩ := q.2 h6
      by_cases hr : (exR (νm 7) tx).1 = true
      · rw [if_pos hr] at q ⊢
        exact ⟨q.1, _, _, _, q.2.1, rfl, _, _, _, _, _, _, _, _, rfl, by rw [if_pos hr]; exact ⟨rfl, q.2.2⟩⟩
      · rw [if_neg hr] at q ⊢
        exact ⟨q.1, _, _, _, q.2, rfl, _, _, _, _, _, _, _, _, rfl, by rw [if_neg hr]⟩
    · obtain ⟨ν2, σ2, r, q1, q2, q3⟩ := q.2 h6
      refine ⟨?_, _, _, _, q2, rfl, _, q3⟩
      obtain ⟨-, -, -, -, q4⟩ := q3
      by_cases hr : (exR (νm 7) tx).1 = true
      · rw [if_pos hr] at q4 ⊢; rw [q1, q4.1]
      · rw [if_neg hr] at q4 ⊢; rw [q1, q4.1]
    · intro ν' σ' τ' νm' σm' τm' q1 q2
      obtain ⟨qt, p', A, k', C', b', c', s', w', qs, qn⟩ := q1
      obtain ⟨rt, v, r1, r2, r3, r4, r5⟩ := q2
      rw [qt, rt]
      have hσ : ∀ c, (c < 44 ∨ 68 ≤ c) → σ' c = σ c := fun c hc => by rw [qs]; exact exS_n (by omega)
      by_cases hr : (exR (νm 7) tx).1 = true
      · rw [if_pos hr] at qn r5
        obtain ⟨qn, qC⟩ := qn
        obtain ⟨-, s13, s21, s21', s14, s15, s15', sl, sc⟩ := r5
        have h110 : ν' 1 10 = νm 13 + 1 := by rw [qn, pu_s]; rfl
        refine REL_ex h (fun c c1 c2 c3 => ?_) ?_ ?_ ?_ (by omega) (by omega) (by omega) hσ ?_ (by omega) r1 r2 r3 ?_
        · rw [qn, pu_n c1, exN_n c2 (by omega)]
        · rw [qn, pu_s]; show exN ν (νm 13) (νm 13 + 1) p' A k' C' b' 1 9 = _; rw [exN_n (by omega) (by omega)]
        · rw [qn, pu_n (by omega), exN_37]
        · rw [qn, pu_n (by omega), exN_kn, s13]
        · rw [s14, h110]; exact (nI_pred _).symm
        · rw [s13, qn, qs]
          have hlo := EXS_lo (kn' := νm 13 + 1) (p := p') (A := A) (k := k') (C := C') (b := b') (c := c') (s := s') (w := w') (f := u1 ((exN ν (νm 13) (νm 13 + 1) p' A k' C' b') 1) 10 (νm 13 + 1)) z6 s21 s15 r4 z2
          intro e he
          by_cases e1 : e = νm 13
          · subst e1
            refine ⟨exX (exR (νm 7) tx).2.2, ?_, s15', fun i hi => ?_⟩
            · unfold exH
              rw [pu_n (by omega), exN_s.1, exN_s.2, exS_s.1, exS_s.2.1, exS_s.2.2]
              exact CI_held qC (exR_okX hct)
            · exact ⟨(sc i hi).1, (sc i hi).2.1, by
                obtain ⟨-, -, l, bb, l1, l2, l3⟩ := sc i hi
                exact ⟨bb, l1, l, l2, l3⟩⟩
          · exact hlo e (by omega)
      · rw [if_neg hr] at qn r5
        obtain ⟨-, s13, s21, s14, s15⟩ := r5
        have h1 : ν' 1 = ν 1 := by rw [qn]; exact exN_n (by omega) (by omega)
        refine REL_ex h (fun c c1 c2 c3 => ?_) ?_ ?_ ?_ (by omega) (by omega) (by omega) hσ ?_ ?_ r1 r2 r3 ?_
        · rw [qn, exN_n c2 (by omega)]
        · rw [h1]
        · rw [qn, exN_37]
        · rw [qn, exN_kn, s13]
        · rw [s14, h1]; exact h.1.1.1.2.2.1
        · rw [h1]; omega
        · rw [s13, s21, qs]
          have hlo := EXS_lo (kn' := νm 13) (p := p') (A := A) (k := k') (C := C') (b := b') (c := c') (s := s') (w := w') (f := (exN ν (νm 13) (νm 13) p' A k' C' b') 1) z6 (Nat.le_refl _) (fun j _ => by rw [s15]) r4 z2
          rw [pu_self] at hlo
          rw [qn]; exact hlo
