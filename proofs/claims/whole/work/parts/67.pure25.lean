/-! THE CLASS' SCRIBE: a clause -/
def clQ (n : Nat) (tx : Nat → Nat) (p W : Nat) : Prop := (aCl n tx p).1 = (aCk n tx W p).1 ∧ (aCl n tx p).2.1 = (aCk n tx W p).2.1 ∧ ((aCk n tx W p).1 = true → aCl n tx p = aCk n tx W p ∧ aKd n tx p = W)
theorem clQ_of {n p W : Nat} {tx : Nat → Nat} (h : aKd n tx p = W) (hW : W < 3) : clQ n tx p W := by
  have e : aCl n tx p = aCk n tx W p := by unfold aCl; rw [h, if_pos hW]
  unfold clQ; rw [e]; exact ⟨rfl, rfl, fun _ => ⟨rfl, h⟩⟩
theorem cl_0 {n p : Nat} {tx : Nat → Nat} (hp : p ≤ n) (hct : ∀ j, tx j < 128) (h : nx n tx p = nI 102) : clQ n tx p 0 := by
  obtain ⟨a, b⟩ := aIs_t (nx_t hp hct (by decide) h) hp
  exact clQ_of (by unfold aKd; rw [if_pos a, if_pos b]) (by decide)
theorem cl_1 {n p : Nat} {tx : Nat → Nat} (hp : p ≤ n) (hct : ∀ j, tx j < 128) (h : nx n tx p = nI 108) : clQ n tx p 1 := by
  obtain ⟨a, b⟩ := aIs_t (nx_t hp hct (by decide) h) hp
  exact clQ_of (by unfold aKd; rw [if_pos a, if_neg (by omega), if_pos b]) (by decide)
theorem litW5 : litC (3 + 2) = 98 :: [105, 110, 100, 32] := by decide +kernel
theorem litW2 : litC 2 = 98 :: [105, 110, 100] := by decide +kernel
theorem cl_2 {n p : Nat} {tx : Nat → Nat} (hp : p ≤ n) (hct : ∀ j, tx j < 128) (h1 : ¬ nx n tx p = nI 102) (h2 : ¬ nx n tx p = nI 108) : clQ n tx p 2 := by
  have a1 := nx_f hp hct (by decide) h1
  have a2 := nx_f hp hct (by decide) h2
  cases h3 : aIs n tx 98 p with
  | true =>
    obtain ⟨a, b⟩ := aIs_t h3 hp
    exact clQ_of (by unfold aKd; rw [if_pos a, if_neg (by omega), if_neg (by omega), if_pos b]) (by decide)
  | false =>
    have e : aCl n tx p = (false, p, 0, []) := by
      unfold aCl aKd
      by_cases h : p < n
      · rw [if_pos h, if_neg (aIs_f a1 h), if_neg (aIs_f a2 h), if_neg (aIs_f h3 h), if_neg (by decide)]
      · rw [if_neg h, if_neg (by decide)]
    have e2 : (aCk n tx 2 p).1 = false ∧ (aCk n tx 2 p).2.1 = p := by
      have eA : aAll n tx (litC (3 + 2)) p = (false, p) := by rw [litW5, aAll, if_neg (by rw [h3]; decide)]
      unfold aCk; rw [eA]; exact ⟨rfl, rfl⟩
    unfold clQ; rw [e, e2.1, e2.2]; exact ⟨rfl, rfl, fun z => by cases z⟩
theorem aAll_b {n p q : Nat} {tx : Nat → Nat} (h : aAll n tx (litC 2) p = (true, q)) : aIs n tx 98 p = true := by
  rw [litW2, aAll] at h
  by_cases h1 : aIs n tx 98 p = true
  · exact h1
  · rw [if_neg h1] at h; cases h
theorem aCk_f1 {n k p q : Nat} {tx : Nat → Nat} (hA : aAll n tx (litC (3 + k)) p = (false, q)) : aCk n tx k p = (false, q, (aNum n tx q).2.2, []) := by
  unfold aCk; rw [hA]; rfl
theorem aCk_f2 {n k p q : Nat} {tx : Nat → Nat} (hA : aAll n tx (litC (3 + k)) p = (true, q)) (hN : ¬ (aNum n tx q).1 = true) : aCk n tx k p = (false, (aNum n tx q).2.1, (aNum n tx q).2.2, []) := by
  unfold aCk; rw [hA]; dsimp only; rw [if_pos rfl, if_neg hN]
theorem aCk_b {n k p q : Nat} {tx : Nat → Nat} (hA : aAll n tx (litC (3 + k)) p = (true, q)) (hN : (aNum n tx q).1 = true) (hk : ¬ k < 2) : aCk n tx k p = (true, (aNum n tx q).2.1, (aNum n tx q).2.2, []) := by
  unfold aCk; rw [hA]; dsimp only; rw [if_pos rfl, if_pos hN, if_neg hk]
theorem aCk_f3 {n k p q : Nat} {tx : Nat → Nat} (hA : aAll n tx (litC (3 + k)) p = (true, q)) (hN : (aNum n tx q).1 = true) (hk : k < 2) (h : aIs n tx 32 (aNum n tx q).2.1 = false) : aCk n tx k p = (false, (aNum n tx q).2.1, (aNum n tx q).2.2, []) := by
  unfold aCk; rw [hA]; dsimp only; rw [if_pos rfl, if_pos hN, if_pos hk, if_neg (by rw [h]; decide)]
theorem aCk_e {n k p q : Nat} {tx : Nat → Nat} (hA : aAll n tx (litC (3 + k)) p = (true, q)) (hN : (aNum n tx q).1 = true) (hk : k < 2) (h : aIs n tx 32 (aNum n tx q).2.1 = true) : aCk n tx k p = ((aEx n tx ((aNum n tx q).2.1 + 1)).1, (aEx n tx ((aNum n tx q).2.1 + 1)).2.1, (aNum n tx q).2.2, (aEx n tx ((aNum n tx q).2.1 + 1)).2.2) := by
  unfold aCk; rw [hA]; dsimp only; rw [if_pos rfl, if_pos hN, if_pos hk, if_pos h]
theorem aEx_g {n p : Nat} {tx : Nat → Nat} (hp : p ≤ n) : aG n p (aEx n tx p) := aRR_g (r := 4) (by decide) hp
theorem aCl_g {n p : Nat} {tx : Nat → Nat} (hp : p ≤ n) : p ≤ (aCl n tx p).2.1 ∧ (aCl n tx p).2.1 ≤ n := by
  obtain ⟨_, h2, _⟩ := tCl_a (n := n) (tx := tx) (TSm p 0 0 0 0 (fun _ => 0)) hp
  obtain ⟨g1, g2, _⟩ := tCl_g (n := n) (tx := tx) (TSm p 0 0 0 0 (fun _ => 0)) hp
  have h2 : (tCl n tx (TSm p 0 0 0 0 (fun _ => 0))).2.ax = (aCl n tx p).2.1 := h2
  have g1 : p ≤ (tCl n tx (TSm p 0 0 0 0 (fun _ => 0))).2.ax := g1
  exact ⟨by omega, by omega⟩
/-- a clause's end -/
def RC (X : Xn) (a : Nat → Nat) (gg : Nat → Option Nat) (T : Nat → Int32) (n kn p k C b : Nat) (c s w : Nat → Int32) (tx : Nat → Nat) : Option Value → va_W → Prop := fun vv ww => vv = some (.int (bI (aCl n tx p).1)) ∧ ∃ (k' C' b' : Nat) (c' s' w' : Nat → Int32), ww = SV X a gg (a 3) T n kn (aCl n tx p).2.1 k' C' b' c' s' w' ∧ k' + p ≤ k + (aCl n tx p).2.1 ∧ ((aCl n tx p).1 = true → clS (aKd n tx p) (aCl n tx p).2.2.1 (aCl n tx p).2.2.2 k C b c s w k' C' b' c' s' w')
theorem RC_f {X : Xn} {a : Nat → Nat} {gg : Nat → Option Nat} {T : Nat → Int32} {n kn p k C b : Nat} {c s w : Nat → Int32} {tx : Nat → Nat} {W q v : Nat} {l : List Nat} {k' C' b' : Nat} {c' s' w' : Nat → Int32} (hq : clQ n tx p W) (h : aCk n tx W p = (false, q, v, l)) (hk : k' + p ≤ k + q) : RC X a gg T n kn p k C b c s w tx (some (.int (nI 0))) (SV X a gg (a 3) T n kn q k' C' b' c' s' w') := by
  obtain ⟨h1, h2, _⟩ := hq
  rw [h] at h1 h2
  unfold RC; rw [h1, h2]
  exact ⟨rfl, k', C', b', c', s', w', rfl, hk, fun z => by cases z⟩
theorem RC_t {X : Xn} {a : Nat → Nat} {gg : Nat → Option Nat} {T : Nat → Int32} {n kn p k C b : Nat} {c s w : Nat → Int32} {tx : Nat → Nat} {W q v : Nat} {l : List Nat} {k' C' b' : Nat} {c' s' w' : Nat → Int32} (hq : clQ n tx p W) (h : aCk n tx W p = (true, q, v, l)) (hk : k' + p ≤ k + q) (hs : clS W v l k C b c s w k' C' b' c' s' w') : RC X a gg T n kn p k C b c s w tx (some (.int (nI 1))) (SV X a gg (a 3) T n kn q k' C' b' c' s' w') := by
  obtain ⟨_, _, h3⟩ := hq
  obtain ⟨e1, e2⟩ := h3 (by rw [h])
  rw [h] at e1
  unfold RC; rw [e1, e2]
  exact ⟨rfl, k', C', b', c', s', w', rfl, hk, fun _ => hs⟩
/-- the end of all -/
def RX (X : Xn) (a : Nat → Nat) (gg : Nat → Option Nat) (T : Nat → Int32) (n kn : Nat) (tx : Nat → Nat) : Option Value → va_W → Prop := fun vv ww => vv = some (.int (if (exR n tx).1 = true then -1 else nI (exR n tx).2.1)) ∧ ∃ (p' k' C' b' : Nat) (c' s' w' : Nat → Int32), ww = SV X a gg (a 3) T 0 (if (exR n tx).1 = true then kn + 1 else kn) p' k' C' b' c' s' w' ∧ (exR n tx).2.1 ≤ 100 ∧ ((exR n tx).1 = true → CI (exR n tx).2.2 k' C' b' c' s' w')
theorem RX_t {X : Xn} {a : Nat → Nat} {gg : Nat → Option Nat} {T : Nat → Int32} {n kn : Nat} {tx : Nat → Nat} {p' k' C' b' : Nat} {c' s' w' : Nat → Int32} {q : Nat} {cs : List (Nat × Nat × List Nat)} (h : exR n tx = (true, q, cs)) (hq : q ≤ 100) (hI : CI cs k' C' b' c' s' w') : RX X a gg T n kn tx (some (.int (-1))) (SV X a gg (a 3) T 0 (kn + 1) p' k' C' b' c' s' w') := by
  unfold RX; rw [h]; exact ⟨rfl, p', k', C', b', c', s', w', rfl, hq, fun _ => hI⟩
theorem RX_f {X : Xn} {a : Nat → Nat} {gg : Nat → Option Nat} {T : Nat → Int32} {n kn : Nat} {tx : Nat → Nat} {p' k' C' b' : Nat} {c' s' w' : Nat → Int32} {q : Nat} (h : (exR n tx).1 = false) (h2 : (exR n tx).2.1 = q) (hq : q ≤ 100) : RX X a gg T n kn tx (some (.int (nI q))) (SV X a gg (a 3) T 0 kn p' k' C' b' c' s' w') := by
  unfold RX; rw [h, h2]; exact ⟨rfl, p', k', C', b', c', s', w', rfl, hq, fun z => by cases z⟩
