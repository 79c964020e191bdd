/-! TOKENS: how many wait; clauses as the class holds them -/
def nxd (t d : Nat) : Nat := if 3 ≤ t then d + 1 else if t = 0 then d else d - 1
/-- from depth d over the tokens to depth e, never more than M deep -/
def okr (M : Nat) : Nat → List Nat → Nat → Prop
  | d, [], e => d = e
  | d, t :: l, e => t < 1803 ∧ d ≤ M ∧ (t = 0 → 1 ≤ d) ∧ (t = 1 ∨ t = 2 → 2 ≤ d) ∧ okr M (nxd t d) l e
theorem okr_app {M : Nat} : ∀ (l m : List Nat) (d e f : Nat), okr M d l e → okr M e m f → okr M d (l ++ m) f
  | [], m, d, e, f, h, h2 => by
    have h : d = e := h
    subst h; exact h2
  | t :: l, m, d, e, f, h, h2 => ⟨h.1, h.2.1, h.2.2.1, h.2.2.2.1, okr_app l m _ e f h.2.2.2.2 h2⟩
theorem okr_mono {M N : Nat} (hM : M ≤ N) : ∀ (l : List Nat) (d e : Nat), okr M d l e → okr N d l e
  | [], _, _, h => h
  | _ :: l, _, e, h => ⟨h.1, Nat.le_trans h.2.1 hM, h.2.2.1, h.2.2.2.1, okr_mono hM l _ e h.2.2.2.2⟩
theorem okr_all {M : Nat} : ∀ (l pre : List Nat) (d e : Nat), dp (fun j => (pre ++ l).getD j 0) pre.length = d → okr M d l e → (∀ j, pre.length ≤ j → j < (pre ++ l).length → (pre ++ l).getD j 0 < 1803 ∧ dp (fun j => (pre ++ l).getD j 0) j ≤ M ∧ ((pre ++ l).getD j 0 = 0 → 1 ≤ dp (fun j => (pre ++ l).getD j 0) j) ∧ ((pre ++ l).getD j 0 = 1 ∨ (pre ++ l).getD j 0 = 2 → 2 ≤ dp (fun j => (pre ++ l).getD j 0) j)) ∧ dp (fun j => (pre ++ l).getD j 0) (pre ++ l).length = e
  | [], pre, d, e, hd, h => by
    have h : d = e := h
    subst h
    refine ⟨fun j h1 h2 => ?_, ?_⟩
    · rw [List.append_nil] at h2; omega
    · rw [List.append_nil] at hd ⊢; exact hd
  | t :: l, pre, d, e, hd, h => by
    obtain ⟨h1, h2, h3, h4, h5⟩ := h
    have key : (pre ++ t :: l).getD pre.length 0 = t := by
      rw [List.getD_eq_getElem?_getD, List.getElem?_append_right (Nat.le_refl _), Nat.sub_self]; rfl
    have hL : (pre ++ [t]) ++ l = pre ++ t :: l := by rw [List.append_assoc]; rfl
    have hl : (pre ++ [t]).length = pre.length + 1 := by rw [List.length_append]; rfl
    have hd2 : dp (fun j => (pre ++ t :: l).getD j 0) (pre.length + 1) = nxd t d := by
      rw [dp, key, hd]; rfl
    have I := okr_all l (pre ++ [t]) (nxd t d) e (by rw [hL, hl]; exact hd2) h5
    rw [hL, hl] at I
    refine ⟨fun j g1 g2 => ?_, I.2⟩
    by_cases hj : j = pre.length
    · subst hj; rw [key, hd]; exact ⟨h1, h2, h3, h4⟩
    · exact I.1 j (by omega) g2
theorem okr_T {M : Nat} {l : List Nat} (hM : M ≤ 20) (h : okr M 0 l 1) : okT (fun j => l.getD j 0) l.length := by
  obtain ⟨h1, h2⟩ := okr_all l [] 0 1 rfl h
  refine ⟨fun j hj => ?_, h2⟩
  obtain ⟨a, b, c, d⟩ := h1 j (Nat.zero_le _) hj
  exact ⟨a, Nat.le_trans b hM, c, d⟩
theorem aTest_r {n p d : Nat} {tx : Nat → Nat} (hct : ∀ j, tx j < 128) (h : (aTest n tx p).1 = true) : okr (d + 1) d (aTest n tx p).2.2 (d + 1) := by
  unfold aTest at h ⊢
  by_cases h1 : p < n
  · rw [if_pos h1] at h ⊢
    rcases ix6 ⟨tx p, hct p⟩ with ⟨l, l6, ls, _⟩ | ⟨ln, _⟩
    · simp only at ls
      rw [ls] at h ⊢
      dsimp only at h ⊢
      by_cases h2 : p + 1 < n
      · rw [if_pos h2] at h ⊢
        rcases ix7 ⟨tx (p + 1), hct (p + 1)⟩ with ⟨g, g3, gs, _⟩ | ⟨gn, _⟩
        · simp only at gs
          rw [gs] at h ⊢
          dsimp only at h ⊢
          have hv := aNum_v (n := n) (p := p + 1 + 1) (tx := tx)
          by_cases h3 : (aNum n tx (p + 1 + 1)).1 = true
          · rw [if_pos h3]
            refine ⟨by omega, by omega, fun z => by omega, fun z => by omega, ?_⟩
            show nxd _ d = d + 1
            unfold nxd; rw [if_pos (by omega)]
          · rw [if_neg h3] at h; cases h
        · simp only at gn
          rw [gn] at h; cases h
      · rw [if_neg h2] at h; cases h
    · simp only at ln
      rw [ln] at h; cases h
  · rw [if_neg h1] at h; cases h
theorem aLoop_r {n c t B : Nat} {tx : Nat → Nat} {g : Nat → Rd} (hB : 1 ≤ B) (ht : t = 1 ∨ t = 2) (hg : ∀ p d, (g p).1 = true → okr (d + B) d (g p).2.2 (d + 1)) : ∀ (f p d : Nat), (aLoop n tx g c t f p).1 = true → okr (d + (B + 1)) (d + 1) (aLoop n tx g c t f p).2.2 (d + 1) := by
  intro f
  induction f with
  | zero => intro p d h; cases h
  | succ f ih =>
    intro p d h
    rw [aLoop] at h ⊢
    by_cases h1 : aIs n tx c p = true
    · rw [if_pos h1] at h ⊢
      by_cases h2 : (g (p + 1)).1 = true
      · rw [if_pos h2] at h ⊢
        refine okr_app _ _ _ (d + 1) _ (okr_app _ _ _ (d + 1 + 1) _ (okr_mono (by omega) _ _ _ (hg (p + 1) (d + 1) h2)) ?_) (ih _ d h)
        refine ⟨by omega, by omega, fun z => by omega, fun z => by omega, ?_⟩
        show nxd t (d + 1 + 1) = d + 1
        unfold nxd; rw [if_neg (by omega), if_neg (by omega)]; rfl
      · rw [if_neg h2] at h; cases h
    · rw [if_neg h1]; exact rfl
theorem aRow_r {n c t B : Nat} {tx : Nat → Nat} {g : Nat → Rd} (hB : 1 ≤ B) (ht : t = 1 ∨ t = 2) (hg : ∀ p d, (g p).1 = true → okr (d + B) d (g p).2.2 (d + 1)) (p d : Nat) (h : (aRow n tx g c t p).1 = true) : okr (d + (B + 1)) d (aRow n tx g c t p).2.2 (d + 1) := by
  rw [aRow] at h ⊢
  by_cases h1 : (g p).1 = true
  · rw [if_pos h1] at h ⊢
    exact okr_app _ _ _ (d + 1) _ (okr_mono (by omega) _ _ _ (hg p d h1)) (aLoop_r hB ht hg 101 _ d h)
  · rw [if_neg h1] at h; cases h
theorem aF_r {n : Nat} {tx : Nat → Nat} (hct : ∀ j, tx j < 128) : ∀ (r p d : Nat), (aF n tx r p).1 = true → okr (d + (2 * r + 1)) d (aF n tx r p).2.2 (d + 1) := by
  intro r
  induction r with
  | zero => intro p d h; exact aTest_r hct h
  | succ r ih =>
    intro p d h
    rw [aF] at h ⊢
    by_cases h1 : aIs n tx 33 p = true
    · rw [if_pos h1] at h ⊢
      by_cases h2 : (aF n tx r (p + 1)).1 = true
      · rw [if_pos h2]
        refine okr_app _ _ _ (d + 1) _ (okr_mono (by omega) _ _ _ (ih (p + 1) d h2)) ?_
        refine ⟨by omega, by omega, fun z => by omega, fun z => by omega, ?_⟩
        show nxd 0 (d + 1) = d + 1
        unfold nxd; rw [if_neg (by omega), if_pos rfl]
      · rw [if_neg h2] at h; cases h
    · rw [if_neg h1] at h ⊢
      by_cases h2 : aIs n tx 40 p = true
      · rw [if_pos h2] at h ⊢
        by_cases h3 : (aRow n tx (aRow n tx (aF n tx r) 38 1) 124 2 (p + 1)).1 = true
        · rw [if_pos h3] at h ⊢
          have k := aRow_r (n := n) (c := 124) (t := 2) (B := 2 * r + 1 + 1) (tx := tx) (g := aRow n tx (aF n tx r) 38 1) (by omega) (Or.inr rfl) (fun p d => aRow_r (by omega) (Or.inl rfl) ih p d) (p + 1) d h3
          by_cases h4 : aIs n tx 41 (aRow n tx (aRow n tx (aF n tx r) 38 1) 124 2 (p + 1)).2.1 = true
          · rw [if_pos h4]; exact okr_mono (by omega) _ _ _ k
          · rw [if_neg h4] at h; cases h
        · rw [if_neg h3] at h; cases h
      · rw [if_neg h2] at h ⊢; exact okr_mono (by omega) _ _ _ (aTest_r hct h)
theorem aEx_T {n p : Nat} {tx : Nat → Nat} (hct : ∀ j, tx j < 128) (h : (aEx n tx p).1 = true) : okT (fun j => (aEx n tx p).2.2.getD j 0) (aEx n tx p).2.2.length :=
  okr_T (M := 0 + (2 * 4 + 1 + 1 + 1)) (by decide) (aRow_r (n := n) (c := 124) (t := 2) (B := 2 * 4 + 1 + 1) (tx := tx) (g := aRow n tx (aF n tx 4) 38 1) (by omega) (Or.inr rfl) (fun p d => aRow_r (by omega) (Or.inl rfl) (aF_r hct 4) p d) p 0 h)
def okc (d : Nat × Nat × List Nat) : Prop := d.1 ≤ 2 ∧ d.2.1 ≤ 99 ∧ (d.1 < 2 → okT (fun j => d.2.2.getD j 0) d.2.2.length)
theorem aCl_ok {n p : Nat} {tx : Nat → Nat} (hct : ∀ j, tx j < 128) (h : (aCl n tx p).1 = true) : okc (aKd n tx p, (aCl n tx p).2.2.1, (aCl n tx p).2.2.2) := by
  unfold aCl at h ⊢
  by_cases h1 : aKd n tx p < 3
  · rw [if_pos h1] at h ⊢
    generalize aKd n tx p = k at h h1 ⊢
    unfold aCk at h ⊢
    by_cases h2 : (aAll n tx (litC (3 + k)) p).1 = true
    · rw [if_pos h2] at h ⊢
      have hv := aNum_v (n := n) (p := (aAll n tx (litC (3 + k)) p).2) (tx := tx)
      by_cases h3 : (aNum n tx (aAll n tx (litC (3 + k)) p).2).1 = true
      · rw [if_pos h3] at h ⊢
        by_cases h4 : k < 2
        · rw [if_pos h4] at h ⊢
          by_cases h5 : aIs n tx 32 (aNum n tx (aAll n tx (litC (3 + k)) p).2).2.1 = true
          · rw [if_pos h5] at h ⊢
            exact ⟨by dsimp only; omega, by dsimp only; omega, fun _ => aEx_T hct h⟩
          · rw [if_neg h5] at h; cases h
        · rw [if_neg h4] at h ⊢
          exact ⟨by dsimp only; omega, by dsimp only; omega, fun z => absurd z h4⟩
      · rw [if_neg h3] at h; cases h
    · rw [if_neg h2] at h; cases h
  · rw [if_neg h1] at h; cases h
theorem aXs_ok {n : Nat} {tx : Nat → Nat} (hct : ∀ j, tx j < 128) : ∀ (f p : Nat) (cs : List (Nat × Nat × List Nat)), (∀ d, d ∈ cs → okc d) → (∀ d, d ∈ (aXs n tx f p cs).2.2 → okc d) ∧ (aXs n tx f p cs).2.2.length ≤ cs.length + f := by
  intro f
  induction f with
  | zero => intro p cs h; exact ⟨h, Nat.le_refl _⟩
  | succ f ih =>
    intro p cs h
    rw [aXs]
    by_cases h1 : (aCl n tx p).1 = true
    · have hc : ∀ d, d ∈ cs ++ [(aKd n tx p, (aCl n tx p).2.2.1, (aCl n tx p).2.2.2)] → okc d := fun d hd => by
        rcases List.mem_append.mp hd with z | z
        · exact h d z
        · rw [List.mem_singleton.mp z]; exact aCl_ok hct h1
      have hl : (cs ++ [(aKd n tx p, (aCl n tx p).2.2.1, (aCl n tx p).2.2.2)]).length = cs.length + 1 := by rw [List.length_append]; rfl
      rw [if_pos h1]
      split
      · exact ⟨hc, by dsimp only; omega⟩
      · split
        · exact ⟨hc, by dsimp only; omega⟩
        · split
          · obtain ⟨a, b⟩ := ih ((aCl n tx p).2.1 + 1) _ hc
            exact ⟨a, by omega⟩
          · exact ⟨hc, by dsimp only; omega⟩
    · rw [if_neg h1]; exact ⟨h, by dsimp only; omega⟩
theorem exX_lo {cs : List (Nat × Nat × List Nat)} {d z : Nat × Nat × List Nat} {i : Nat} (h : i < cs.length) : (cs ++ [d]).getD i z = cs.getD i z := by
  rw [List.getD_eq_getElem?_getD, List.getElem?_append_left h, ← List.getD_eq_getElem?_getD]
theorem exX_hi {cs : List (Nat × Nat × List Nat)} {d z : Nat × Nat × List Nat} : (cs ++ [d]).getD cs.length z = d := by
  rw [List.getD_eq_getElem?_getD, List.getElem?_append_right (Nat.le_refl _), Nat.sub_self]; rfl
theorem exR_okX {n : Nat} {tx : Nat → Nat} (hct : ∀ j, tx j < 128) : okX (exX (exR n tx).2.2) := by
  obtain ⟨h1, h2⟩ := aXs_ok (n := n) (tx := tx) hct 10 0 [] (fun d hd => absurd hd List.not_mem_nil)
  refine ⟨by show (exR n tx).2.2.length ≤ 10; unfold exR; have h3 : ([] : List (Nat × Nat × List Nat)).length = 0 := rfl; omega, fun i hi => ?_⟩
  have hi : i < (exR n tx).2.2.length := hi
  have hm : (exR n tx).2.2.getD i (0, 0, []) ∈ (exR n tx).2.2 := by
    rw [List.getD_eq_getElem?_getD, List.getElem?_eq_getElem hi]; exact List.getElem_mem hi
  exact h1 _ hm
theorem fcF_ext {x y : CX} {p q : Nat} {kd v : Int32} {s d : Nat} : ∀ k, (∀ i, i < k → x.2.1 i = y.2.1 i ∧ x.2.2.1 i = y.2.2.1 i ∧ x.2.2.1 (i + 1) = y.2.2.1 (i + 1) ∧ x.2.2.2 i = y.2.2.2 i) → fcF x p q kd v s d k = fcF y p q kd v s d k := by
  intro k
  induction k with
  | zero => intro _; rfl
  | succ k ih =>
    intro h
    obtain ⟨a, b, c, e⟩ := h k (by omega)
    rw [fcF, fcF, ih (fun i hi => h i (by omega))]; unfold truC; rw [a, b, c, e]
theorem fx_ext {x y : EX} {p q : Nat} {kd v : Int32} {s d : Nat} : ∀ k, (∀ i, i < k → x.2.1 i = y.2.1 i ∧ x.2.2.1 i = y.2.2.1 i ∧ x.2.2.2.1 i = y.2.2.2.1 i ∧ x.2.2.2.2 i = y.2.2.2.2 i) → fx x p q kd v s d k = fx y p q kd v s d k := by
  intro k
  induction k with
  | zero => intro _; rfl
  | succ k ih =>
    intro h
    obtain ⟨a, b, c, e⟩ := h k (by omega)
    rw [fx, fx, ih (fun i hi => h i (by omega))]; unfold truth; rw [a, b, c, e]
theorem bd_ext {x y : EX} : ∀ k, (∀ i, i < k → x.2.1 i = y.2.1 i ∧ x.2.2.1 i = y.2.2.1 i) → bd x k = bd y k := by
  intro k
  induction k with
  | zero => intro _; rfl
  | succ k ih =>
    intro h
    obtain ⟨a, b⟩ := h k (by omega)
    rw [bd, bd, ih (fun i hi => h i (by omega)), a, b]
/-- what a clause leaves in the exchange -/
def clS (kd v : Nat) (l : List Nat) (k C b : Nat) (c s w : Nat → Int32) (k' C' b' : Nat) (c' s' w' : Nat → Int32) : Prop :=
  if kd = 2 then k' = k ∧ C' = C ∧ b' = v ∧ c' = c ∧ s' = s ∧ w' = w
  else k' = k + l.length ∧ C' = C + 1 ∧ b' = b ∧ c' = putS c k l ∧ s' = upd s C (nI (k + l.length)) ∧ w' = upd w C (if kd = 0 then nI v else -(nI v))
def CI (cs : List (Nat × Nat × List Nat)) (k C b : Nat) (c s w : Nat → Int32) : Prop := C ≤ cs.length ∧ b = bd (exX cs) cs.length ∧ ∃ cx : CX, cx.1 = C ∧ cx.2.2.1 C = k ∧ cx.2.2.1 0 = 0 ∧ (∀ i, i < C → cx.2.2.1 i ≤ cx.2.2.1 (i + 1) ∧ cx.2.2.1 (i + 1) ≤ 100 ∧ okT (cx.2.2.2 i) (cx.2.2.1 (i + 1) - cx.2.2.1 i)) ∧ clX c s w cx ∧ ∀ (p q : Nat) (kd v : Int32) (S d : Nat), fcF cx p q kd v S d C = fx (exX cs) p q kd v S d cs.length
theorem CI_0 (c s w : Nat → Int32) : CI [] 0 0 5 c s w :=
  ⟨Nat.le_refl _, rfl, (0, fun _ => 0, fun _ => 0, fun _ _ => 0), rfl, rfl, rfl, fun i hi => absurd hi (Nat.not_lt_zero _), fun i hi => absurd hi (Nat.not_lt_zero _), fun _ _ _ _ _ _ => rfl⟩
theorem beg_le {f : Nat → Nat} {C : Nat} (h : ∀ i, i < C → f i ≤ f (i + 1)) : ∀ m, m ≤ C → ∀ i, i ≤ m → f i ≤ f m := by
  intro m
  induction m with
  | zero => intro _ i hi; rw [show i = 0 by omega]; exact Nat.le_refl _
  | succ m ih =>
    intro hm i hi
    by_cases e : i = m + 1
    · rw [e]; exact Nat.le_refl _
    · exact Nat.le_trans (ih (by omega) i (by omega)) (h m (by omega))
theorem CI_s {cs : List (Nat × Nat × List Nat)} {k C b : Nat} {c s w : Nat → Int32} {kd v : Nat} {l : List Nat} {k' C' b' : Nat} {c' s' w' : Nat → Int32} (h : CI cs k C b c s w) (hs : clS kd v l k C b c s w k' C' b' c' s' w') (hk : okc (kd, v, l)) (h100 : k' ≤ 100) : CI (cs ++ [(kd, v, l)]) k' C' b' c' s' w' := by
  obtain ⟨h0, hb, cx, x1, x2, x3, x4, x5, x6⟩ := h
  have hl : (cs ++ [(kd, v, l)]).length = cs.length + 1 := by rw [List.length_append]; rfl
  have elo : ∀ i, i < cs.length → (exX (cs ++ [(kd, v, l)])).2.1 i = (exX cs).2.1 i ∧ (exX (cs ++ [(kd, v, l)])).2.2.1 i = (exX cs).2.2.1 i ∧ (exX (cs ++ [(kd, v, l)])).2.2.2.1 i = (exX cs).2.2.2.1 i ∧ (exX (cs ++ [(kd, v, l)])).2.2.2.2 i = (exX cs).2.2.2.2 i := fun i hi => by
    unfold exX; dsimp only; rw [exX_lo hi]; exact ⟨rfl, rfl, rfl, rfl⟩
  have ehi : (exX (cs ++ [(kd, v, l)])).2.1 cs.length = kd ∧ (exX (cs ++ [(kd, v, l)])).2.2.1 cs.length = v ∧ (exX (cs ++ [(kd, v, l)])).2.2.2.1 cs.length = l.length ∧ (exX (cs ++ [(kd, v, l)])).2.2.2.2 cs.length = fun j => l.getD j 0 := by
    unfold exX; dsimp only; rw [exX_hi]; exact ⟨rfl, rfl, rfl, rfl⟩
  obtain ⟨e1, e2, e3, e4⟩ := ehi
  unfold clS at hs
  by_cases h2 : kd = 2
  · rw [if_pos h2] at hs
    obtain ⟨rfl, rfl, rfl, rfl, rfl, rfl⟩ := hs
    refine ⟨by omega, ?_, cx, x1, x2, x3, x4, x5, fun p q kd v S d => ?_⟩
    · rw [hl, bd, e1, if_pos h2, e2]
    · rw [hl, fx, e1, if_neg (fun z => by omega), x6]; exact (fx_ext _ elo).symm
  · rw [if_neg h2] at hs
    obtain ⟨rfl, rfl, rfl, rfl, rfl, rfl⟩ := hs
    have hkd : kd < 2 := by have h9 : kd ≤ 2 := hk.1; omega
    have hT : okT (fun j => l.getD j 0) l.length := hk.2.2 hkd
    have hmono := beg_le (f := cx.2.2.1) (C := C) (fun i hi => (x4 i hi).1)
    refine ⟨by omega, ?_, (C + 1, upd cx.2.1 C (if kd = 0 then nI v else -(nI v)), fun i => if i ≤ C then cx.2.2.1 i else k + l.length, fun i => if i = C then (fun j => l.getD j 0) else cx.2.2.2 i), rfl, ?_, ?_, fun i hi => ?_, fun i hi => ?_, fun p q kd2 v2 S d => ?_⟩
    · rw [hl, bd, e1, if_neg h2, hb]; exact (bd_ext _ (fun i hi => ⟨(elo i hi).1, (elo i hi).2.1⟩)).symm
    · exact if_neg (show ¬ C + 1 ≤ C by omega)
    · show (if 0 ≤ C then cx.2.2.1 0 else k + l.length) = 0
      rw [if_pos (Nat.zero_le _)]; exact x3
    · dsimp only
      by_cases hi2 : i = C
      · subst hi2
        rw [if_pos (Nat.le_refl _), if_neg (by omega), if_pos rfl, x2]
        exact ⟨by omega, h100, by rw [Nat.add_sub_cancel_left]; exact hT⟩
      · rw [if_pos (show i ≤ C by omega), if_pos (show i + 1 ≤ C by omega), if_neg hi2]; exact x4 i (by omega)
    · have hi : i < C + 1 := hi
      dsimp only
      by_cases hi2 : i = C
      · subst hi2
        rw [if_pos (Nat.le_refl _), if_neg (by omega), if_pos rfl, x2, pk_us, pk_us]
        refine ⟨rfl, pk_us.symm, fun j hj => ?_⟩
        exact putS_in (by omega)
      · rw [if_pos (show i ≤ C by omega), if_pos (show i + 1 ≤ C by omega), if_neg hi2, pk_un hi2, pk_un hi2, pk_un hi2]
        obtain ⟨y1, y2, y3⟩ := x5 i (by omega)
        refine ⟨y1, y2, fun j hj => ?_⟩
        have := hmono C (Nat.le_refl _) (i + 1) (by omega)
        rw [putS_lo (by omega)]; exact y3 j hj
    · have E : fcF (C + 1, upd cx.2.1 C (if kd = 0 then nI v else -(nI v)), fun i => if i ≤ C then cx.2.2.1 i else k + l.length, fun i => if i = C then (fun j => l.getD j 0) else cx.2.2.2 i) p q kd2 v2 S d C = fcF cx p q kd2 v2 S d C := fcF_ext C (fun i hi => by
        dsimp only
        rw [pk_un (by omega), if_pos (show i ≤ C by omega), if_pos (show i + 1 ≤ C by omega), if_neg (by omega)]; exact ⟨rfl, rfl, rfl, rfl⟩)
      have ET : truC (C + 1, upd cx.2.1 C (if kd = 0 then nI v else -(nI v)), fun i => if i ≤ C then cx.2.2.1 i else k + l.length, fun i => if i = C then (fun j => l.getD j 0) else cx.2.2.2 i) p q kd2 v2 S d C = truth (exX (cs ++ [(kd, v, l)])) p q kd2 v2 S d cs.length := by
        unfold truC truth
        rw [e3, e4]
        dsimp only
        rw [if_pos (Nat.le_refl C), if_neg (show ¬ C + 1 ≤ C by omega), if_pos rfl, x2, Nat.add_sub_cancel_left]
      have EW : upd cx.2.1 C (if kd = 0 then nI v else -(nI v)) C = if kd = 0 then nI v else -(nI v) := pk_us
      rw [hl, fx, e1, e2, fcF, E, x6, ← fx_ext _ elo, ET]
      show (if _ then _ + upd cx.2.1 C (if kd = 0 then nI v else -(nI v)) C else _) = _
      rw [EW]
      by_cases hev : truth (exX (cs ++ [(kd, v, l)])) p q kd2 v2 S d cs.length = true
      · rw [if_pos hev]; exact (if_pos ⟨hkd, hev⟩).symm
      · rw [if_neg hev]; exact (if_neg (fun z => hev z.2)).symm
theorem CI_held {cs : List (Nat × Nat × List Nat)} {k C b : Nat} {c s w : Nat → Int32} (h : CI cs k C b c s w) (hx : okX (exX cs)) : heldC C b c s w (exX cs) := by
  obtain ⟨h0, hb, cx, x1, x2, x3, x4, x5, x6⟩ := h
  have h10 : cs.length ≤ 10 := hx.1
  refine ⟨hx, hb, cx, x1, ⟨by omega, x3, fun i hi => x4 i (by omega)⟩, x5, fun p q kd v S d => x6 p q kd v S d⟩
/-- an exchange's last words, by what has been read -/
theorem aXs_go {n f p : Nat} {tx : Nat → Nat} {cs : List (Nat × Nat × List Nat)} (h : (aCl n tx p).1 = true) : aXs n tx (f + 1) p cs = if (aCl n tx p).2.1 = n then (true, (aCl n tx p).2.1, cs ++ [(aKd n tx p, (aCl n tx p).2.2.1, (aCl n tx p).2.2.2)]) else if f = 0 then (false, (aCl n tx p).2.1, cs ++ [(aKd n tx p, (aCl n tx p).2.2.1, (aCl n tx p).2.2.2)]) else if aIs n tx 59 (aCl n tx p).2.1 = true then aXs n tx f ((aCl n tx p).2.1 + 1) (cs ++ [(aKd n tx p, (aCl n tx p).2.2.1, (aCl n tx p).2.2.2)]) else (false, (aCl n tx p).2.1, cs ++ [(aKd n tx p, (aCl n tx p).2.2.1, (aCl n tx p).2.2.2)]) := by rw [aXs, if_pos h]
theorem aXs_no {n f p : Nat} {tx : Nat → Nat} {cs : List (Nat × Nat × List Nat)} (h : (aCl n tx p).1 = false) : aXs n tx (f + 1) p cs = (false, (aCl n tx p).2.1, cs) := by rw [aXs, if_neg (by rw [h]; decide)]
