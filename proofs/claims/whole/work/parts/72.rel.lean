/-! THE TWO SIDES TOGETHER -/
def rng (f : Nat → Int32) (n b : Nat) : Prop := (∀ i, i < n → ∃ k : Nat, k ≤ b ∧ f i = nI k) ∧ ∀ i, n ≤ i → f i = nI 0
def tdy (f : Nat → Int32) (n : Nat) : Prop := ∀ i, n ≤ i → f i = nI 0
theorem rng_upd {f : Nat → Int32} {n b i k : Nat} (h : rng f n b) (hi : i < n) (hk : k ≤ b) : rng (upd f i (nI k)) n b := by
  refine ⟨fun j hj => ?_, fun j hj => ?_⟩
  · by_cases e : j = i
    · subst e; exact ⟨k, hk, pk_us⟩
    · rw [pk_un e]; exact h.1 j hj
  · rw [pk_un (by omega)]; exact h.2 j hj
theorem tdy_upd {f : Nat → Int32} {n i : Nat} {x : Int32} (h : tdy f n) (hi : i < n) : tdy (upd f i x) n := fun j hj => by rw [pk_un (by omega)]; exact h j hj
theorem rng_0 (n b : Nat) : rng (fun _ => 0) n b := ⟨fun _ _ => ⟨0, Nat.zero_le _, rfl⟩, fun _ _ => rfl⟩
theorem tdy_0 (n : Nat) : tdy (fun _ => 0) n := fun _ _ => rfl
/-- nothing behind the last trader -/
def zrow (n : Nat) (f : Nat → Int32) : Prop := ∀ i, 4 * n ≤ i → f i = nI 0
def zdeb (n : Nat) (f : Nat → Int32) : Prop := ∀ p q, p < 6 → q < 6 → (n ≤ p ∨ n ≤ q) → f (6 * p + q) = nI 0
def seM (m : Nat) (a b c d : Nat → Int32) : Prop := ∀ i, i < m → ∃ P R S0 D0 : Nat, P < 6 ∧ R < 6 ∧ S0 ≤ 99 ∧ D0 ≤ 20 ∧ a i = nI P ∧ b i = nI R ∧ c i = nI S0 ∧ d i = nI D0
def plM (m : Nat) (a b : Nat → Int32) : Prop := ∀ i, i < m → ∃ w p : Nat, w ≤ 3 ∧ p < 6 ∧ a i = nI w ∧ b i = nI p
def bkM (m : Nat) (a b : Nat → Int32) : Prop := ∀ i, i < m → ∃ P R : Nat, P < 6 ∧ R < 6 ∧ a i = nI P ∧ b i = nI R
def tdS (σ : Nat → Nat → Int32) : Prop := tdy (σ 24) 5 ∧ tdy (σ 25) 5 ∧ tdy (σ 26) 5 ∧ tdy (σ 27) 5 ∧ tdy (σ 28) 5 ∧ tdy (σ 30) 10 ∧ tdy (σ 31) 10 ∧ tdy (σ 33) 8 ∧ tdy (σ 34) 8 ∧ tdy (σ 35) 8
def OKM (ν : Nat → Nat) (σ : Nat → Nat → Int32) : Prop :=
  (ν 0 ≤ 6 ∧ ν 6 ≤ 9999 ∧ ν 23 ≤ 5 ∧ ν 29 ≤ 10 ∧ ν 32 ≤ 8) ∧ (rng (σ 1) 6 6 ∧ rng (σ 2) 6 9 ∧ rng (σ 3) 6 9999 ∧ rng (σ 4) 24 9 ∧ rng (σ 5) 36 9999) ∧ (zrow (ν 0) (σ 4) ∧ zdeb (ν 0) (σ 5)) ∧
  seM (ν 23) (σ 24) (σ 25) (σ 26) (σ 27) ∧ plM (ν 29) (σ 30) (σ 31) ∧ bkM (ν 32) (σ 33) (σ 34) ∧ tdS σ
/-- the class' market at c is as the model's numbers -/
def MkC (c : Nat) (ν : Nat → Nat → Nat) (σ : Nat → Nat → Int32) (νm : Nat → Nat) (σm : Nat → Nat → Int32) : Prop :=
  (ν (c + 1) 3 = νm 0 ∧ ν c 9 = νm 6 ∧ σm 14 0 = nI (ν c 10) - 1 ∧ ν (c + 8) 1 = νm 23 ∧ ν (c + 10) 1 = νm 29 ∧ ν (c + 12) 1 = νm 32) ∧
  (σ (c + 5) = σm 1 ∧ σ (c + 6) = σm 2 ∧ σ (c + 2) = σm 3 ∧ σ (c + 7) = σm 4 ∧ σ (c + 3) = σm 5) ∧
  (col (σ (c + 9)) 0 = σm 24 ∧ col (σ (c + 9)) 1 = σm 25 ∧ col (σ (c + 9)) 2 = σm 26 ∧ col (σ (c + 9)) 3 = σm 27 ∧ col (σ (c + 9)) 4 = σm 28) ∧
  (col (σ (c + 11)) 0 = σm 30 ∧ ∀ i, i < νm 29 → ¬ σm 30 i = nI 0 → col (σ (c + 11)) 1 i = σm 31 i) ∧
  (col (σ (c + 13)) 0 = σm 33 ∧ col (σ (c + 13)) 1 = σm 34 ∧ col (σ (c + 13)) 2 = σm 35)
/-- an image holds a market -/
def KI (g : Nat → Int32) (ν : Nat → Nat) (σ : Nat → Nat → Int32) : Prop :=
  (∀ j, j < 6 → g j = σ 1 j) ∧ (∀ j, j < 6 → g (6 + j) = σ 2 j) ∧ (∀ j, j < 6 → g (12 + j) = σ 3 j) ∧ (∀ j, j < 24 → g (18 + j) = σ 4 j) ∧ (∀ j, j < 36 → g (42 + j) = σ 5 j) ∧
  (∀ j, j < 5 → g (78 + j) = σ 24 j ∧ g (83 + j) = σ 25 j ∧ g (88 + j) = σ 26 j ∧ g (93 + j) = σ 27 j ∧ g (98 + j) = σ 28 j) ∧ (∀ j, j < 10 → g (103 + j) = σ 30 j ∧ g (113 + j) = σ 31 j) ∧
  (∀ j, j < 8 → g (123 + j) = σ 33 j ∧ g (131 + j) = σ 34 j ∧ g (139 + j) = σ 35 j) ∧ g 147 = nI (ν 0) ∧ g 148 = nI (ν 6) ∧ g 149 = nI (ν 23) ∧ g 150 = nI (ν 29) ∧ g 151 = nI (ν 32) ∧ g 152 = σ 14 0
theorem KI_keep {ν : Nat → Nat} {σ : Nat → Nat → Int32} {t : Nat → Int32} : KI (keepF ν σ t) ν σ := keep_at
def modZ (σ : Nat → Nat → Int32) (e cd : Nat) (x : EX) : Prop := σ 15 e = nI x.1 ∧ ∀ i, i < x.1 → σ 16 (10 * e + i) = nI (x.2.1 i) ∧ σ 17 (10 * e + i) = nI (x.2.2.1 i) ∧ ∃ b : Nat, σ 18 (10 * e + i) = nI b ∧ σ 19 (10 * e + i) = nI (x.2.2.2.1 i) ∧ b + x.2.2.2.1 i ≤ cd ∧ ∀ j, j < x.2.2.2.1 i → σ 20 (b + j) = nI (x.2.2.2.2 i j)
theorem modZ_X {σ : Nat → Nat → Int32} {e cd : Nat} {x : EX} (h : modZ σ e cd x) (hc : cd ≤ 800) : modX σ e x :=
  ⟨h.1, fun i hi => by
    obtain ⟨h1, h2, b, h3, h4, h5, h6⟩ := h.2 i hi
    exact ⟨h1, h2, b, h3, h4, by omega, h6⟩⟩
def exH (ν : Nat → Nat → Nat) (σ : Nat → Nat → Int32) (e : Nat) (x : EX) : Prop := heldC (ν (44 + 4 * e) 4) (ν (44 + 4 * e) 5) (σ (45 + 4 * e)) (σ (46 + 4 * e)) (σ (47 + 4 * e)) x
def EXS (ν : Nat → Nat → Nat) (σ : Nat → Nat → Int32) (kn cd : Nat) (σm : Nat → Nat → Int32) : Prop := ∀ e, e < kn → ∃ x, exH ν σ e x ∧ modZ σm e cd x
def TPS (so : Nat → Int32) (ν : Nat → Nat → Nat) : Prop := ∀ t, t < 6 → ν (71 + 2 * t) 2 ≤ 60 ∧ so t ≤ nI 4 ∧ ((so t = -1 ∧ ν (71 + 2 * t) 2 = 0) ∨ ¬ so t < 0)
def RNow (ν : Nat → Nat → Nat) (σ : Nat → Nat → Int32) (νm : Nat → Nat) (σm : Nat → Nat → Int32) : Prop := MkC 1 ν σ νm σm ∧ ν 1 10 ≤ ν 37 4 ∧ OKM νm σm
def RImg (ν : Nat → Nat → Nat) (σ : Nat → Nat → Int32) (σm : Nat → Nat → Int32) : Prop := (ν 0 6 = 0 ∧ σm 38 0 = nI 0) ∨ (ν 0 6 = 1 ∧ σm 38 0 = nI 1 ∧ ∃ (νk : Nat → Nat) (σk : Nat → Nat → Int32), MkC 17 ν σ νk σk ∧ ν 17 10 ≤ ν 37 4 ∧ OKM νk σk ∧ KI (σm 39) νk σk)
def RTxt (ν : Nat → Nat → Nat) (σ : Nat → Nat → Int32) (νm : Nat → Nat) (σm : Nat → Nat → Int32) : Prop := ν 37 3 = νm 7 ∧ νm 7 ≤ 100 ∧ σ 38 = σm 8 ∧ ∀ j, ∃ t : Nat, t < 128 ∧ σm 8 j = nI t
def RExc (ν : Nat → Nat → Nat) (σ : Nat → Nat → Int32) (νm : Nat → Nat) (σm : Nat → Nat → Int32) : Prop := ν 37 4 = νm 13 ∧ νm 13 ≤ 6 ∧ νm 21 ≤ 100 * νm 13 ∧ ν 40 4 = 0 ∧ ν 40 5 = 5 ∧ EXS ν σ (νm 13) (νm 21) σm
def RAct (ν : Nat → Nat → Nat) (σ : Nat → Nat → Int32) (νm : Nat → Nat) (σm : Nat → Nat → Int32) : Prop := ν 68 1 = νm 36 ∧ νm 36 < 100000 ∧ σ 69 = σm 37 ∧ σ 5 0 = nI 0
def RTap (ν : Nat → Nat → Nat) (σ : Nat → Nat → Int32) (τ : Nat → Nat → Int64) (σm : Nat → Nat → Int32) (τm : Nat → Int64) : Prop := cSo σ = σm 43 ∧ cSz ν = σm 44 ∧ cTa τ = τm ∧ TPS (cSo σ) ν
def REL (ν : Nat → Nat → Nat) (σ : Nat → Nat → Int32) (τ : Nat → Nat → Int64) (νm : Nat → Nat) (σm : Nat → Nat → Int32) (τm : Nat → Int64) : Prop := RNow ν σ νm σm ∧ RImg ν σ σm ∧ RTxt ν σ νm σm ∧ RExc ν σ νm σm ∧ RAct ν σ νm σm ∧ RTap ν σ τ σm τm
/-- what is not in the relation -/
theorem EXS_u2 {ν : Nat → Nat → Nat} {σ : Nat → Nat → Int32} {kn cd c : Nat} {σm : Nat → Nat → Int32} {f : Nat → Int32} (h : EXS ν σ kn cd σm) (hc : c < 44 ∨ 68 ≤ c) (hk : kn ≤ 6) : EXS ν (u2 σ c f) kn cd σm := fun e he => by
  obtain ⟨x, h1, h2⟩ := h e he
  refine ⟨x, ?_, h2⟩
  unfold exH at h1 ⊢
  rw [u2_n (by omega), u2_n (by omega), u2_n (by omega)]; exact h1
theorem pu_n {α : Type} {f : Nat → α} {k c : Nat} {x : α} (h : ¬ c = k) : pu f k x c = f c := if_neg h
theorem pu_s {α : Type} {f : Nat → α} {k : Nat} {x : α} : pu f k x k = x := if_pos rfl
theorem EXS_pu {ν : Nat → Nat → Nat} {σ : Nat → Nat → Int32} {kn cd c : Nat} {σm : Nat → Nat → Int32} {f : Nat → Nat} (h : EXS ν σ kn cd σm) (hc : c < 44 ∨ 68 ≤ c) (hk : kn ≤ 6) : EXS (pu ν c f) σ kn cd σm := fun e he => by
  obtain ⟨x, h1, h2⟩ := h e he
  refine ⟨x, ?_, h2⟩
  unfold exH at h1 ⊢
  rw [pu_n (by omega)]; exact h1
theorem cSo_u2 {σ : Nat → Nat → Int32} {c : Nat} {f : Nat → Int32} (h : c < 71) : cSo (u2 σ c f) = cSo σ := by
  funext t; unfold cSo; rw [u2_n (by omega)]
theorem cSz_pu {ν : Nat → Nat → Nat} {c : Nat} {f : Nat → Nat} (h : c < 71) : cSz (pu ν c f) = cSz ν := by
  funext t; unfold cSz; rw [pu_n (by omega)]
theorem TPS_pu {so : Nat → Int32} {ν : Nat → Nat → Nat} {c : Nat} {f : Nat → Nat} (h : TPS so ν) (hc : c < 71) : TPS so (pu ν c f) := fun t ht => by rw [pu_n (by omega)]; exact h t ht
/-- class cells that do not matter -/
theorem REL_cs {ν : Nat → Nat → Nat} {σ : Nat → Nat → Int32} {τ : Nat → Nat → Int64} {νm : Nat → Nat} {σm : Nat → Nat → Int32} {τm : Nat → Int64} (h : REL ν σ τ νm σm τm) {c : Nat} {f : Nat → Int32} (hc : c = 15 ∨ c = 16 ∨ c = 34 ∨ c = 35 ∨ c = 68) : REL ν (u2 σ c f) τ νm σm τm := by
  obtain ⟨h1, h2, h3, ⟨e1, e2, e3, e4, e5, e6⟩, h5, ⟨t1, t2, t3, t4⟩⟩ := h
  have hE := EXS_u2 (f := f) e6 (c := c) (by omega) e2
  have hS : cSo (u2 σ c f) = cSo σ := cSo_u2 (by omega)
  rcases hc with rfl | rfl | rfl | rfl | rfl
  all_goals exact ⟨h1, h2, h3, ⟨e1, e2, e3, e4, e5, hE⟩, h5, ⟨hS.trans t1, t2, t3, by rw [hS]; exact t4⟩⟩
theorem REL_cn {ν : Nat → Nat → Nat} {σ : Nat → Nat → Int32} {τ : Nat → Nat → Int64} {νm : Nat → Nat} {σm : Nat → Nat → Int32} {τm : Nat → Int64} (h : REL ν σ τ νm σm τm) {f : Nat → Nat} : REL (pu ν 33 f) σ τ νm σm τm := by
  obtain ⟨h1, h2, h3, ⟨e1, e2, e3, e4, e5, e6⟩, h5, ⟨t1, t2, t3, t4⟩⟩ := h
  exact ⟨h1, h2, h3, ⟨e1, e2, e3, e4, e5, EXS_pu e6 (by omega) e2⟩, h5, ⟨t1, (cSz_pu (by decide)).trans t2, t3, TPS_pu t4 (by decide)⟩⟩
theorem REL_c5 {ν : Nat → Nat → Nat} {σ : Nat → Nat → Int32} {τ : Nat → Nat → Int64} {νm : Nat → Nat} {σm : Nat → Nat → Int32} {τm : Nat → Int64} (h : REL ν σ τ νm σm τm) {f : Nat → Int32} (hf : f 0 = σ 5 0) : REL ν (u2 σ 5 f) τ νm σm τm := by
  obtain ⟨h1, h2, h3, ⟨e1, e2, e3, e4, e5, e6⟩, ⟨a1, a2, a3, a4⟩, ⟨t1, t2, t3, t4⟩⟩ := h
  have hS : cSo (u2 σ 5 f) = cSo σ := cSo_u2 (by omega)
  exact ⟨h1, h2, h3, ⟨e1, e2, e3, e4, e5, EXS_u2 e6 (by omega) e2⟩, ⟨a1, a2, a3, hf.trans a4⟩, ⟨hS.trans t1, t2, t3, by rw [hS]; exact t4⟩⟩
/-- model cells that do not matter -/
theorem REL_ms {ν : Nat → Nat → Nat} {σ : Nat → Nat → Int32} {τ : Nat → Nat → Int64} {νm : Nat → Nat} {σm : Nat → Nat → Int32} {τm : Nat → Int64} (h : REL ν σ τ νm σm τm) {c : Nat} {f : Nat → Int32} (hc : c = 22 ∨ c = 40 ∨ c = 41 ∨ c = 42 ∨ c = 10) : REL ν σ τ νm (u2 σm c f) τm := by
  rcases hc with rfl | rfl | rfl | rfl | rfl
  all_goals exact h
/-- the exchange that holds -/
theorem REL_held {ν : Nat → Nat → Nat} {σ : Nat → Nat → Int32} {τ : Nat → Nat → Int64} {νm : Nat → Nat} {σm : Nat → Nat → Int32} {τm : Nat → Int64} (h : REL ν σ τ νm σm τm) : ν 1 10 ≤ 6 ∧ ∃ x : EX, heldC (ν (40 + 4 * ν 1 10) 4) (ν (40 + 4 * ν 1 10) 5) (σ (41 + 4 * ν 1 10)) (σ (42 + 4 * ν 1 10)) (σ (43 + 4 * ν 1 10)) x ∧ heldX σm x := by
  obtain ⟨⟨⟨⟨m1, m2, m3, m4⟩, hmk⟩, hh, ho⟩, h2, h3, ⟨e1, e2, e3, e4, e5, e6⟩, h5, h6⟩ := h
  refine ⟨by omega, ?_⟩
  by_cases h0 : ν 1 10 = 0
  · rw [h0] at m3 ⊢
    have hx : okX (exX []) := ⟨by show (0 : Nat) ≤ 10; omega, fun i hi => absurd hi (Nat.not_lt_zero _)⟩
    refine ⟨exX [], ?_, hx, Or.inl ⟨m3.trans (by decide), rfl⟩⟩
    show heldC (ν 40 4) (ν 40 5) _ _ _ _
    rw [e4, e5]; exact CI_held (CI_0 _ _ _) hx
  · obtain ⟨e, he⟩ : ∃ e, ν 1 10 = e + 1 := ⟨ν 1 10 - 1, by omega⟩
    rw [he] at m3 hh ⊢
    obtain ⟨x, x1, x2⟩ := e6 e (by omega)
    unfold exH at x1
    refine ⟨x, ?_, x1.1, Or.inr ⟨e, by omega, m3.trans (nI_pred e), modZ_X x2 (by omega)⟩⟩
    rw [show 40 + 4 * (e + 1) = 44 + 4 * e by omega, show 41 + 4 * (e + 1) = 45 + 4 * e by omega, show 42 + 4 * (e + 1) = 46 + 4 * e by omega, show 43 + 4 * (e + 1) = 47 + 4 * e by omega]
    exact x1
theorem OKM_n {ν : Nat → Nat} {σ : Nat → Nat → Int32} (h : OKM ν σ) : ν 0 ≤ 6 := h.1.1
