/-! THE CLASS' SCRIBE: signs, numbers, tests -/
def nx (n : Nat) (tx : Nat → Nat) (p : Nat) : Int32 := if p < n then nI (tx p) else -1
theorem nx_in {n p : Nat} {tx : Nat → Nat} (h : p < n) : nx n tx p = nI (tx p) := if_pos h
theorem nx_out {n p : Nat} {tx : Nat → Nat} (h : ¬ p < n) : nx n tx p = -1 := if_neg h
theorem nx_eq {n c p : Nat} {tx : Nat → Nat} (hp : p ≤ n) (hct : ∀ j, tx j < 128) (hc : c < 128) : nx n tx p = nI c ↔ aIs n tx c p = true := by
  have h1 := hct p
  unfold nx aIs
  rw [decide_eq_true_eq]
  by_cases h : p < n
  · rw [if_pos h, nI_eq (by omega) (by omega)]
    exact ⟨fun z => ⟨by omega, z⟩, fun z => z.2⟩
  · rw [if_neg h]
    constructor
    · intro z; exact absurd z.symm (m1n (by omega))
    · intro z; exact absurd (show p = n by omega) z.1
theorem nx_t {n c p : Nat} {tx : Nat → Nat} (hp : p ≤ n) (hct : ∀ j, tx j < 128) (hc : c < 128) (h : nx n tx p = nI c) : aIs n tx c p = true := (nx_eq hp hct hc).mp h
theorem nx_f {n c p : Nat} {tx : Nat → Nat} (hp : p ≤ n) (hct : ∀ j, tx j < 128) (hc : c < 128) (h : ¬ nx n tx p = nI c) : aIs n tx c p = false := Bool.eq_false_iff.mpr (fun z => h ((nx_eq hp hct hc).mpr z))
def tkP (n : Nat) (tx : Nat → Nat) (c p : Nat) : Nat := if aIs n tx c p = true then p + 1 else p
theorem tkP_t {n c p : Nat} {tx : Nat → Nat} (h : aIs n tx c p = true) : tkP n tx c p = p + 1 := if_pos h
theorem tkP_f {n c p : Nat} {tx : Nat → Nat} (h : aIs n tx c p = false) : tkP n tx c p = p := if_neg (by rw [h]; decide)
theorem nx_d1 {n p : Nat} {tx : Nat → Nat} (h : nx n tx p < nI 48) : aDg n tx p = false := decide_eq_false (fun z => by
  rw [nx_in z.1, nI_ltI (by omega) (by decide)] at h; omega)
theorem nx_d2 {n p : Nat} {tx : Nat → Nat} (h : nI 57 < nx n tx p) : aDg n tx p = false := decide_eq_false (fun z => by
  rw [nx_in z.1, nI_ltI (by decide) (by omega)] at h; omega)
theorem nx_d3 {n p : Nat} {tx : Nat → Nat} (hct : ∀ j, tx j < 128) (h1 : ¬ nx n tx p < nI 48) (h2 : ¬ nI 57 < nx n tx p) : p < n ∧ 48 ≤ tx p ∧ tx p ≤ 57 ∧ aDg n tx p = true := by
  have h3 := hct p
  by_cases h : p < n
  · rw [nx_in h, nI_ltI (by omega) (by decide)] at h1
    rw [nx_in h, nI_ltI (by decide) (by omega)] at h2
    exact ⟨h, by omega, by omega, decide_eq_true ⟨h, by omega, by omega⟩⟩
  · rw [nx_out h] at h1; exact absurd (by decide) h1
theorem aNum_0 {n p : Nat} {tx : Nat → Nat} (h : aDg n tx p = false) : aNum n tx p = (false, p, 0) := by
  unfold aNum; rw [if_neg (by rw [h]; decide)]
theorem aNum_1 {n p : Nat} {tx : Nat → Nat} (h : aDg n tx p = true) (h2 : aDg n tx (p + 1) = false) : aNum n tx p = (true, p + 1, 10 * 0 + tx p - 48) := by
  unfold aNum; rw [if_pos h, if_neg (by rw [h2]; decide)]
theorem aNum_2 {n p : Nat} {tx : Nat → Nat} (h : aDg n tx p = true) (h2 : aDg n tx (p + 1) = true) : aNum n tx p = (true, p + 1 + 1, 10 * (10 * 0 + tx p - 48) + tx (p + 1) - 48) := by
  unfold aNum; rw [if_pos h, if_pos h2]
def nmV (r : Bool × Nat × Nat) : Int32 := if r.1 = true then nI r.2.2 else -1
theorem let6_c : ∀ c : Fin 128, ∀ k : Fin 6, tLet (litC 6) c.val = some k.val → c.val = lc k.val := by decide +kernel
theorem let6_n (c : Fin 128) (h1 : ¬ c.val = 112) (h2 : ¬ c.val = 113) (h3 : ¬ c.val = 107) (h4 : ¬ c.val = 118) (h5 : ¬ c.val = 115) (h6 : ¬ c.val = 100) : tLet (litC 6) c.val = none := by
  rcases ix6 c with ⟨k, hk, e, _⟩ | ⟨e, _⟩
  · exfalso
    have h := let6_c c ⟨k, hk⟩ e
    rcases (show k = 0 ∨ k = 1 ∨ k = 2 ∨ k = 3 ∨ k = 4 ∨ k = 5 by omega) with rfl | rfl | rfl | rfl | rfl | rfl
    · exact h1 h
    · exact h2 h
    · exact h3 h
    · exact h4 h
    · exact h5 h
    · exact h6 h
  · exact e
theorem let7_n : ∀ c : Fin 128, ¬ c.val = 60 → ¬ c.val = 61 → ¬ c.val = 62 → tLet (litC 7) c.val = none := by decide +kernel
theorem let6_l : ∀ l : Fin 6, tLet (litC 6) (lc l.val) = some l.val := by decide +kernel
theorem let7_g : ∀ g : Fin 3, tLet (litC 7) (60 + g.val) = some g.val := by decide +kernel
theorem aIs_f {n c p : Nat} {tx : Nat → Nat} (h : aIs n tx c p = false) (hp : p < n) : ¬ tx p = c := fun z => of_decide_eq_false h ⟨by omega, z⟩
theorem aIs_t {n c p : Nat} {tx : Nat → Nat} (h : aIs n tx c p = true) (hp : p ≤ n) : p < n ∧ tx p = c := by
  have := of_decide_eq_true h; exact ⟨by omega, this.2⟩
theorem aT_0 {n p : Nat} {tx : Nat → Nat} (hct : ∀ j, tx j < 128) (h1 : aIs n tx 112 p = false) (h2 : aIs n tx 113 p = false) (h3 : aIs n tx 107 p = false) (h4 : aIs n tx 118 p = false) (h5 : aIs n tx 115 p = false) (h6 : aIs n tx 100 p = false) : aTest n tx p = (false, p, []) := by
  unfold aTest
  by_cases h : p < n
  · rw [if_pos h, let6_n ⟨tx p, hct p⟩ (aIs_f h1 h) (aIs_f h2 h) (aIs_f h3 h) (aIs_f h4 h) (aIs_f h5 h) (aIs_f h6 h)]
  · rw [if_neg h]
theorem aT_1 {n p l : Nat} {tx : Nat → Nat} (hct : ∀ j, tx j < 128) (hp : p ≤ n) (hl : l < 6) (h : aIs n tx (lc l) p = true) (h1 : aIs n tx 60 (p + 1) = false) (h2 : aIs n tx 61 (p + 1) = false) (h3 : aIs n tx 62 (p + 1) = false) : aTest n tx p = (false, p + 1, []) := by
  obtain ⟨a1, a2⟩ := aIs_t h hp
  unfold aTest
  rw [if_pos a1, a2, let6_l ⟨l, hl⟩]
  dsimp only
  by_cases h4 : p + 1 < n
  · rw [if_pos h4, let7_n ⟨tx (p + 1), hct _⟩ (aIs_f h1 h4) (aIs_f h2 h4) (aIs_f h3 h4)]
  · rw [if_neg h4]
theorem aT_2 {n p l g : Nat} {tx : Nat → Nat} (hp : p ≤ n) (hl : l < 6) (h : aIs n tx (lc l) p = true) (hg : g < 3) (h2 : aIs n tx (60 + g) (p + 1) = true) : aTest n tx p = if (aNum n tx (p + 1 + 1)).1 = true then (true, (aNum n tx (p + 1 + 1)).2.1, [3 + 300 * l + 100 * g + (aNum n tx (p + 1 + 1)).2.2]) else (false, (aNum n tx (p + 1 + 1)).2.1, []) := by
  obtain ⟨a1, a2⟩ := aIs_t h hp
  obtain ⟨b1, b2⟩ := aIs_t h2 (show p + 1 ≤ n by omega)
  unfold aTest
  rw [if_pos a1, a2, let6_l ⟨l, hl⟩]
  dsimp only
  rw [if_pos b1, b2, let7_g ⟨g, hg⟩]
theorem stp_tok {l g v : Nat} (_hl : l < 6) (hg : g < 3) (hv : v < 100) : stp (3 + 300 * l + 100 * g + v) = nI (lc l * 16384 + ((60 + g) * 128 + v)) := by
  unfold stp stN
  rw [if_neg (by omega), if_neg (by omega), if_neg (by omega), show (3 + 300 * l + 100 * g + v - 3) / 300 = l by omega, show (3 + 300 * l + 100 * g + v - 3) / 100 % 3 = g by omega, show (3 + 300 * l + 100 * g + v - 3) % 100 = v by omega]
/-- the scribe, its text, its exchanges, the exchange under way -/
def SV (X : Xn) (a : Nat → Nat) (g : Nat → Option Nat) (m : Nat) (T : Nat → Int32) (n kn p k C b : Nat) (c s w : Nat → Int32) : va_W := [(a 0, .inr (6, [.ref (a 1), .ref (a 2), .ref (a 7), .int (nI n), .int (nI kn), .int (nI p), .ref m])), (a 1, .inl (X.2.2.1 0, 100, .inl T)), (a 2, .inl (X.2.2.1 3, 6, .inr (.inr (.inr (.inr g))))), (a 3, .inr (5, [.ref (a 4), .ref (a 5), .ref (a 6), .int (nI k), .int (nI C), .int (nI b)])), (a 4, .inl (X.2.2.1 0, 100, .inl c)), (a 5, .inl (X.2.2.1 0, 10, .inl s)), (a 6, .inl (X.2.2.1 0, 10, .inl w))]
def nE (k C b : Nat) : Nat → Nat → Nat := fun _ f => if f = 3 then k else if f = 4 then C else b
def sE (c s w : Nat → Int32) : Nat → Nat → Int32 := fun i => if i = 1 then c else if i = 2 then s else w
/-- a reading's end -/
def RQ (X : Xn) (a : Nat → Nat) (gg : Nat → Option Nat) (T : Nat → Int32) (n kn C b : Nat) (s w : Nat → Int32) (p k : Nat) (c : Nat → Int32) (r : Rd) : Option Value → va_W → Prop := fun vv ww => vv = some (.int (bI r.1)) ∧ ∃ (k' : Nat) (c' : Nat → Int32), ww = SV X a gg (a 3) T n kn r.2.1 k' C b c' s w ∧ k' + p ≤ k + r.2.1 ∧ (r.1 = true → k' = k + r.2.2.length ∧ c' = putS c k r.2.2)
theorem RQ_mk {X : Xn} {a : Nat → Nat} {gg : Nat → Option Nat} {T : Nat → Int32} {n kn C b : Nat} {s w : Nat → Int32} {p k : Nat} {c : Nat → Int32} {r r2 : Rd} {v : Option Value} {k' : Nat} {c' : Nat → Int32} (h : r = r2) (hv : v = some (.int (bI r2.1))) (hk : k' + p ≤ k + r2.2.1) (ht : r2.1 = true → k' = k + r2.2.2.length ∧ c' = putS c k r2.2.2) : RQ X a gg T n kn C b s w p k c r v (SV X a gg (a 3) T n kn r2.2.1 k' C b c' s w) := by
  rw [h]; exact ⟨hv, k', c', rfl, hk, ht⟩
theorem RQ_same {X : Xn} {a : Nat → Nat} {gg : Nat → Option Nat} {T : Nat → Int32} {n kn C b : Nat} {s w : Nat → Int32} {p k : Nat} {c : Nat → Int32} {r r2 : Rd} {v : Option Value} {ww : va_W} (h : same r r2) (hq : RQ X a gg T n kn C b s w p k c r v ww) : RQ X a gg T n kn C b s w p k c r2 v ww := by
  obtain ⟨h1, h2, h3⟩ := h
  obtain ⟨e1, k', c', e2, e3, e4⟩ := hq
  refine ⟨by rw [← h1]; exact e1, k', c', by rw [← h2]; exact e2, by rw [← h2]; exact e3, fun z => ?_⟩
  rw [← h3 z]; exact e4 (h1.trans z)
theorem aLit : ∀ i : Fin 3, ∀ k : Fin 6, k.val < litL.getD i.val 0 → chS i.val k.val = nI ((litC i.val).getD k.val 0) ∧ (litC i.val).getD k.val 0 < 128 := fun i k h => chN ⟨i.val, by omega⟩ k h
theorem aAll_s {n : Nat} {tx : Nat → Nat} {l : List Nat} {k p : Nat} (h : k < l.length) : aAll n tx (l.drop k) p = if aIs n tx (l.getD k 0) p = true then aAll n tx (l.drop (k + 1)) (p + 1) else (false, p) := by
  rw [List.drop_eq_getElem_cons h, aAll]
  rw [show l.getD k 0 = l[k] from by simp [h]]
theorem aAll_le {n : Nat} {tx : Nat → Nat} : ∀ (l : List Nat) (p : Nat), p ≤ n → p ≤ (aAll n tx l p).2 ∧ (aAll n tx l p).2 ≤ n
  | [], p, h => ⟨Nat.le_refl _, h⟩
  | c :: l, p, h => by
    rw [aAll]
    by_cases h1 : aIs n tx c p = true
    · rw [if_pos h1]
      have := aIs_t h1 h
      have h2 := aAll_le (n := n) (tx := tx) l (p + 1) (by omega)
      exact ⟨by omega, h2.2⟩
    · rw [if_neg h1]; exact ⟨Nat.le_refl _, h⟩
theorem aAll_app {n : Nat} {tx : Nat → Nat} : ∀ (l m : List Nat) (p : Nat), aAll n tx (l ++ m) p = if (aAll n tx l p).1 = true then aAll n tx m (aAll n tx l p).2 else (false, (aAll n tx l p).2)
  | [], m, p => by rw [List.nil_append, aAll, if_pos rfl]
  | c :: l, m, p => by
    rw [List.cons_append, aAll, aAll]
    by_cases h1 : aIs n tx c p = true
    · rw [if_pos h1, if_pos h1]; exact aAll_app l m (p + 1)
    · rw [if_neg h1, if_neg h1, if_neg Bool.false_ne_true]
theorem lit_sp : ∀ i : Fin 3, litC (3 + i.val) = litC i.val ++ [32] := by decide +kernel
/-- the word and the blank behind it -/
theorem aAll_w {n : Nat} {tx : Nat → Nat} {i p : Nat} (hi : i < 3) : aAll n tx (litC (3 + i)) p = if (aAll n tx (litC i) p).1 = true then (aIs n tx 32 (aAll n tx (litC i) p).2, tkP n tx 32 (aAll n tx (litC i) p).2) else (false, (aAll n tx (litC i) p).2) := by
  rw [lit_sp ⟨i, hi⟩, aAll_app]
  by_cases h : (aAll n tx (litC i) p).1 = true
  · rw [if_pos h, if_pos h, aAll]
    cases h2 : aIs n tx 32 (aAll n tx (litC i) p).2 with
    | true => rw [if_pos rfl, aAll, tkP_t h2]
    | false => rw [if_neg Bool.false_ne_true, tkP_f h2]
  · rw [if_neg h, if_neg h]
