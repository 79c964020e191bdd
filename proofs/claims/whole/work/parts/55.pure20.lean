/-! THE CLASS' CALLS: refusals and answers -/
def rpV (n : Nat) (p q : Int32) : Int32 := if (isB n p && isB n q) = true then (if p = q then -2 else nI 0) else -1
theorem isT_t {n : Nat} {p : Int32} (hn : n ≤ 6) (h1 : ¬ p < 0) (h2 : ¬ nI n ≤ p) : isB n p = true := has_t h1 h2 (by omega)
theorem isT_f1 {n : Nat} {p : Int32} (h1 : p < 0) : isB n p = false := has_f1 (z := n) h1
theorem isT_f2 {n : Nat} {p : Int32} (hn : n ≤ 6) (h2 : nI n ≤ p) : isB n p = false := has_f2 h2 (by omega)
theorem rpE {n : Nat} {p q : Int32} (Z : Int32) : (if (isB n p && isB n q) = true then (if p = q then -2 else Z) else -1) = if rpV n p q = 0 then Z else rpV n p q := by
  unfold rpV
  by_cases h : (isB n p && isB n q) = true
  · rw [if_pos h, if_pos h]
    by_cases h2 : p = q
    · rw [if_pos h2, if_pos h2, if_neg (by decide)]
    · rw [if_neg h2, if_neg h2, if_pos (show nI 0 = 0 from rfl)]
  · rw [if_neg h, if_neg h, if_neg (by decide)]
theorem rpV_0 {n : Nat} {p q : Int32} (hn : n ≤ 6) (h : rpV n p q = 0) : ∃ P Q : Nat, P < n ∧ Q < n ∧ ¬ P = Q ∧ p = nI P ∧ q = nI Q := by
  unfold rpV at h
  by_cases h1 : (isB n p && isB n q) = true
  · rw [if_pos h1] at h
    by_cases h2 : p = q
    · rw [if_pos h2] at h; exact absurd h (by decide)
    · obtain ⟨P, Q, a, b, c, d⟩ := are_t hn h1
      exact ⟨P, Q, a, b, fun z => h2 (by rw [c, d, z]), c, d⟩
  · rw [if_neg h1] at h; exact absurd h (by decide)
theorem rpV_b {n P Q : Nat} (hn : n ≤ 6) (hP : P < n) (hQ : Q < n) : (isB n (nI P) && isB n (nI Q)) = true := by rw [isB_of hn hP, isB_of hn hQ]; rfl
theorem nI_ne {P Q : Nat} (hP : P < 2 ^ 31) (hQ : Q < 2 ^ 31) (h : ¬ P = Q) : ¬ nI P = nI Q := fun z => h ((nI_eq hP hQ).mp z)
theorem inR_l1 {x : Int32} {h : Nat} (hh : h < 2 ^ 30) (h1 : ¬ x < 0) (h2 : x < nI (h + 1)) : inR x (nI 0) (nI h) = true := by
  refine inR_in (by rw [nI_0]; exact h1) (fun z => ?_)
  have a := Int32.lt_iff_toInt_lt.mp h2; have b := Int32.lt_iff_toInt_lt.mp z
  rw [nI_toInt (by omega)] at a b; omega
theorem inR_g1 {x : Int32} {h : Nat} (hh : h < 2 ^ 30) (h2 : ¬ x < nI (h + 1)) : inR x (nI 0) (nI h) = false := by
  refine inR_gt ?_
  have a := Int32.le_iff_toInt_le.mp (Int32.not_lt.mp h2)
  rw [nI_toInt (by omega)] at a
  exact Int32.lt_iff_toInt_lt.mpr (by rw [nI_toInt (by omega)]; omega)
theorem b_pair_f {n : Nat} {p q : Int32} {b : Bool} (h : ¬ rpV n p q = 0) : ((isB n p && isB n q) && (!decide (p = q) && b)) = false := by
  unfold rpV at h
  by_cases h1 : (isB n p && isB n q) = true
  · rw [if_pos h1] at h
    by_cases h2 : p = q
    · simp [h2]
    · rw [if_neg h2] at h; exact absurd rfl h
  · rw [Bool.eq_false_iff.mpr h1]; rfl
def R_pt (A B : Nat) (q : Int32) : Int64 := if inR q (nI 0) (nI 1) = true ∧ ¬ B = 0 then R_part A B q else (-9223372036854775808)
theorem isum_psum {f : Nat → Int32} {pv : Nat → Nat} : ∀ k, (∀ i, i < k → f i = nI (pv i)) → isum f k = nI (psum pv k) := by
  intro k
  induction k with
  | zero => intro _; rfl
  | succ k ih => intro h; rw [isum, psum, ih (fun i hi => h i (by omega)), h k (by omega), nI_add]
def cofV (n : Nat) (kd v pu de : Nat → Int32) (p w : Int32) : Int32 := if isB n p = true then (if w = 0 then kd (cn p) else if w = 1 then v (cn p) else if w = 2 then pu (cn p) else if w = 3 then osum de (cn p) n else if w = 4 then dsum de 0 (cn p) n else if w = 5 then bal n de (cn p) else if w = 6 then nI (fails n pu de (1 <<< cn p)) else if w = 7 then cgift n pu de (cn p) else -1000001) else -1000001
def ctoldV (n : Nat) (pu de t : Nat → Int32) (d b : Nat) (w : Int32) : Int32 := if w = 0 then nI d else if w = 1 then nI b else if w = 2 then nI (fails n pu de 0) else if w = 3 then nI (crs n pu de n) else if w = 4 then nI n - ctab n de t (1 <<< n - 1) (1 <<< n - 1) else if w = 5 then ringA n de n else if w = 6 then offO n de n else if w = 7 then osumAll n de n else -1
def up5 (f : Nat → Int32) (m : Nat) (a b c d e : Int32) : Nat → Int32 := upd (upd (upd (upd (upd f (5 * m) a) (5 * m + 1) b) (5 * m + 2) c) (5 * m + 3) d) (5 * m + 4) e
theorem pair_true {n P Q : Nat} (hn : n ≤ 6) (hP : P < n) (hQ : Q < n) (h : ¬ P = Q) : rpV n (nI P) (nI Q) = 0 := by
  unfold rpV; rw [if_pos (rpV_b hn hP hQ), if_neg (nI_ne (by omega) (by omega) h)]; rfl
/-- an array may be told by any numbers that agree as far as it goes -/
theorem r_arrI {X : Xn} {d : Nat} {M : XM} {mc ms : Nat} {Q : Option Value → va_W → Prop} {pc : Nat} {ls : List (Option Value)} {st : List Value} {k j : Nat} {w w2 : va_W} {a cA n : Nat} {f : Nat → Int32} (i : Nat) (he : w[i]? = some (a, .inl (cA, n, .inl f))) (g : Nat → Int32) (hfg : ∀ z, z < n → f z = g z) (hw : w.set i (a, .inl (cA, n, .inl g)) = w2) (kk : Runs X d M mc ms Q pc ls st k j w2) : Runs X d M mc ms Q pc ls st k j w := by
  subst hw
  have hc : vp_cell cA (n, .inl f) = vp_cell cA (n, .inl g) := by
    have h2 : (fun z : Fin n => Value.int (f z.val)) = fun z : Fin n => Value.int (g z.val) := funext fun z => by rw [hfg z.val z.isLt]
    rw [vp_cell_i, vp_cell_i, arrV, arrV, h2]
  intro p e s m args below meth c A H locs la C P L
  refine kk p e s m args below meth c A H locs la C ⟨?_, ?_, P.2.2⟩ L
  · refine va_P.set P.1 P.2.1 he ?_ (fun _ _ => rfl)
    have h1 := P.1 i _ he
    show H[a]? = some (vp_cell cA (n, .inl g))
    rw [← hc]; exact h1
  · exact va_D.set P.2.1 he
theorem cpy_ex {α : Type} {f g : Nat → α} {n j : Nat} (h : j < n) : va_cpy f g 0 0 n j = f j := by
  unfold va_cpy; rw [if_pos ⟨Nat.zero_le _, by omega⟩, Nat.zero_add, Nat.sub_zero]
theorem pu_self {α : Type} (f : Nat → α) (k : Nat) : pu f k (f k) = f := by
  funext c; by_cases h : c = k
  · rw [h]; exact if_pos rfl
  · exact if_neg h
def bookOk (f : Nat → Int32) (m : Nat) : Prop := m ≤ 8 ∧ ∀ i, i < m → ∃ P R : Nat, P < 6 ∧ R < 6 ∧ f (5 * i + 0) = nI P ∧ f (5 * i + 1) = nI R
def planOk (f : Nat → Int32) (m : Nat) : Prop := m ≤ 10 ∧ ∀ i, i < m → ∃ w p : Nat, w ≤ 3 ∧ p < 6 ∧ f (5 * i + 0) = nI w ∧ (¬ w = 0 → f (5 * i + 1) = nI p)
theorem lookG_s {de a b c : Nat → Int32} {m i : Nat} (h : i < m) : lookF de a b c m (m - i) = if de (6 * cn (a i) + cn (b i)) = c i then lookF de a b c m (m - (i + 1)) else nI i := by
  rw [show m - i = (m - (i + 1)) + 1 by omega, lookF, show m - (m - (i + 1) + 1) = i by omega]
theorem gcd_step {x y g : Nat} (hg : Nat.gcd y x = g) : Nat.gcd (x % y) y = g := by rw [← hg, ← Nat.gcd_rec]
theorem planS_0 {n p : Nat} {s : (Nat → Int32) × (Nat → Int32)} : planS n 0 p s = s := rfl
theorem planS_w {n w p p2 : Nat} {s : (Nat → Int32) × (Nat → Int32)} (h : ¬ w = 0 → p = p2) : planS n w p s = planS n w p2 s := by
  by_cases h0 : w = 0
  · subst h0; rfl
  · rw [h h0]
theorem bk_f {n m : Nat} {p q x : Int32} (h : ¬ rpV n p q = 0) : b_book n m p q x = false := by
  unfold b_book; rw [b_pair_f h, Bool.and_false]
theorem se_f {n m : Nat} {p q s x y : Int32} (h : ¬ rpV n p q = 0) : b_see n m p q s x y = false := by
  unfold b_see; rw [b_pair_f h, Bool.and_false]
theorem mn20_i {t : Nat} {i : Int32} (ht : t < 100000) (h1 : ¬ i < 0) (h2 : i < nI t) (h3 : i < nI 20) : ∃ y : Nat, y < t ∧ y < 20 ∧ i = nI y ∧ isB (mn20 t) i = true := by
  obtain ⟨y, hy, e⟩ := nI_of (x := i) h1
  rw [e, nI_ltI hy (by omega)] at h2 h3
  refine ⟨y, h2, h3, e, ?_⟩
  rw [e]; unfold isB
  refine has_t (z := mn20 t) (fun z => by rw [nI_l0 hy] at z; omega) (fun z => ?_) (by unfold mn20; split <;> omega)
  rw [nI_leI (by unfold mn20; split <;> omega) hy] at z; unfold mn20 at z; split at z <;> omega
theorem mn20_f {t : Nat} {i : Int32} (ht : t < 100000) (h : i < 0 ∨ nI t ≤ i ∨ nI 20 ≤ i) : isB (mn20 t) i = false := by
  rcases h with h | h | h
  · exact has_f1 (z := mn20 t) h
  · refine has_f2 (z := mn20 t) (Int32.le_trans ((nI_leI (by unfold mn20; split <;> omega) (by omega)).mpr ?_) h) (by unfold mn20; split <;> omega)
    unfold mn20; split <;> omega
  · refine has_f2 (z := mn20 t) (Int32.le_trans ((nI_leI (by unfold mn20; split <;> omega) (by omega)).mpr ?_) h) (by unfold mn20; split <;> omega)
    unfold mn20; split <;> omega
