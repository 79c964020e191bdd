/-! READS: answers -/
theorem i_add {a b : Int32} (h1 : -1000000000 ≤ a.toInt ∧ a.toInt ≤ 1000000000) (h2 : -1000000000 ≤ b.toInt ∧ b.toInt ≤ 1000000000) : (a + b).toInt = a.toInt + b.toInt := by
  rw [Int32.toInt_add, Int.bmod_eq_of_le] <;> omega
theorem i_sub {a b : Int32} (h1 : -1000000000 ≤ a.toInt ∧ a.toInt ≤ 1000000000) (h2 : -1000000000 ≤ b.toInt ∧ b.toInt ≤ 1000000000) : (a - b).toInt = a.toInt - b.toInt := by
  rw [Int32.toInt_sub, Int.bmod_eq_of_le] <;> omega
theorem i_neg {a : Int32} (h1 : -1000000000 ≤ a.toInt ∧ a.toInt ≤ 1000000000) : (-a).toInt = -a.toInt := by
  rw [Int32.toInt_neg, Int.bmod_eq_of_le] <;> omega
theorem i_div {a : Int32} {k : Nat} (h1 : -1000000000 ≤ a.toInt ∧ a.toInt ≤ 1000000000) (hk : 0 < k ∧ k < 100) : (a / nI k).toInt = a.toInt.tdiv k := by
  rw [Int32.toInt_div, nI_toInt (by omega), Int.bmod_eq_of_le]
  · have := Int.tdiv_le_self (a := a.toInt) (k : Int)
    have h3 := Int.natAbs_tdiv_le_natAbs a.toInt (k : Int)
    omega
  · have h3 := Int.natAbs_tdiv_le_natAbs a.toInt (k : Int)
    omega
theorem fx_b {x : EX} (hx : okX x) {p q : Nat} {kd v : Int32} {s d : Nat} (hs : s ≤ 99) : ∀ i, i ≤ x.1 → -(99 * (i : Int)) ≤ (fx x p q kd v s d i).toInt ∧ (fx x p q kd v s d i).toInt ≤ 99 + 99 * (i : Int) := by
  intro i
  induction i with
  | zero => intro _; simp only [fx]; rw [nI_toInt (by omega)]; omega
  | succ i ih =>
    intro hi
    obtain ⟨h1, h2⟩ := ih (by omega)
    have h10 := hx.1
    obtain ⟨-, h3, -⟩ := hx.2 i (by omega)
    simp only [fx]
    have hn : (nI (x.2.2.1 i)).toInt = (x.2.2.1 i : Int) := nI_toInt (by omega)
    split
    · split
      · rw [i_add (by omega) (by omega)]; omega
      · have hg : (-(nI (x.2.2.1 i))).toInt = -(x.2.2.1 i : Int) := by rw [i_neg (by omega), hn]
        rw [i_add (by omega) (by omega)]; omega
    · omega
theorem bd_b {x : EX} (hx : okX x) : ∀ i, i ≤ x.1 → bd x i ≤ 99 := by
  intro i
  induction i with
  | zero => intro _; simp only [bd]; omega
  | succ i ih =>
    intro hi
    simp only [bd]
    split
    · exact (hx.2 i (by omega)).2.1
    · exact ih (by omega)
theorem tdiv_b {a : Int} {k : Nat} (hk : 0 < k) (h : -1200 ≤ a ∧ a ≤ 1200) : -1200 ≤ a.tdiv k ∧ a.tdiv k ≤ 1200 := by
  have h3 := Int.natAbs_tdiv_le_natAbs a (k : Int)
  omega
theorem hear_b {kd v f : Int32} {rw : Nat → Int32} {p d vv : Nat} (hf : -1200 ≤ f.toInt ∧ f.toInt ≤ 1200) (hv : v = nI vv) (hv9 : vv ≤ 9) (hr : ∃ r : Nat, r ≤ 9 ∧ rw (4 * p + d % 4) = nI r) : (hearV kd v f rw p d).toInt ≤ 2600 := by
  obtain ⟨r, hr9, er⟩ := hr
  have e2 : (nI 2 * v).toInt = 2 * (vv : Int) := by rw [hv, pk_mul, nI_toInt (by omega)]; omega
  have e6 := i_div (a := f) (k := 6) (by omega) (by omega)
  have e3 := i_div (a := f) (k := 2) (by omega) (by omega)
  have b6 := tdiv_b (k := 6) (by omega) hf
  have b3 := tdiv_b (k := 2) (by omega) hf
  have ev : v.toInt = vv := by rw [hv, nI_toInt (by omega)]
  have err : (rw (4 * p + d % 4)).toInt = r := by rw [er, nI_toInt (by omega)]
  have s6 : (f - f / nI 6).toInt = f.toInt - f.toInt.tdiv 6 := by rw [i_sub (by omega) (by omega), e6]; rfl
  have q6 : (6 : Int) = ((6 : Nat) : Int) := rfl
  unfold hearV
  split
  · rw [i_add (by omega) (by omega)]; omega
  · split
    · rw [s6, q6]; omega
    · split
      · omega
      · split
        · split
          · rw [nI_toInt (by omega)]; omega
          · rw [i_add (by omega) (by omega)]; omega
        · split
          · rw [i_sub (by rw [s6, q6]; omega) (by omega), s6, q6]; omega
          · split
            · rw [i_add (by omega) (by omega)]; omega
            · omega
theorem rd_nat {x : EX} (hx : okX x) {p q : Nat} {kd v : Int32} {rw : Nat → Int32} {s d vv : Nat} (hs : s ≤ 99) (hv : v = nI vv) (hv9 : vv ≤ 9) (hr : ∃ r : Nat, r ≤ 9 ∧ rw (4 * p + d % 4) = nI r) : ∃ r : Nat, r < 3000 ∧ rdV x p q kd v rw s d = nI r := by
  have h1 := fx_b hx (p := p) (q := q) (kd := kd) (v := v) (d := d) hs x.1 (Nat.le_refl _)
  have h10 := hx.1
  have h2 := hear_b (kd := kd) (f := fx x p q kd v s d x.1) (rw := rw) (p := p) (d := d) (by omega) hv hv9 hr
  have h3 := bd_b hx x.1 (Nat.le_refl _)
  unfold rdV
  split
  · exact ⟨0, by omega, rfl⟩
  · rename_i hh
    have h4 := Int32.le_iff_toInt_le.mp (Int32.not_lt.mp hh)
    rw [nI_toInt (by omega)] at h4
    obtain ⟨j, hj, e⟩ := nI_of (x := hearV kd v (fx x p q kd v s d x.1) rw p d) (fun z => by
      have := Int32.lt_iff_toInt_lt.mp z
      rw [show (0 : Int32).toInt = 0 from rfl] at this; omega)
    refine ⟨j, ?_, e⟩
    rw [e, nI_toInt hj] at h2
    omega
def R_reads (n : Nat) (x : EX) (kd v rw : Nat → Int32) (d : Nat) (p q s m : Int32) : Int32 := if (isB n p && isB n q) = true then (if p = q then -2 else if inR s (nI 0) (nI 99) = true then (if inR m (nI 0) (nI 60) = true then rdV x (cn p) (cn q) (kd (cn p)) (v (cn p)) rw (cn s) (d + cn m) else -2) else -2) else -1
def b_shake (n : Nat) (p q s : Int32) : Bool := (isB n p && isB n q) && (!decide (p = q) && inR s (nI 0) (nI 99))
def shakeV (x : EX) (kd v rw de : Nat → Int32) (d : Nat) (p q s : Int32) : Int32 := mn (nI 9999) (de (6 * cn p + cn q) + rdV x (cn p) (cn q) (kd (cn p)) (v (cn p)) rw (cn s) d)
def R_shake (n : Nat) (x : EX) (kd v rw de : Nat → Int32) (d : Nat) (p q s : Int32) : Int32 := if (isB n p && isB n q) = true then (if p = q then -2 else if inR s (nI 0) (nI 99) = true then shakeV x kd v rw de d p q s else -2) else -1
def sq (rd : Nat → Int32) (sum : Int32) : Nat → Nat × Int32
  | 0 => (0, -5)
  | j + 1 => if rd (99 - j) = sum then ((sq rd sum j).1 + 1, nI (99 - j)) else sq rd sum j
def R_squeezes (n : Nat) (x : EX) (kd v rw : Nat → Int32) (d : Nat) (p q s w : Int32) : Int32 := if (isB n p && isB n q) = true then (if inR w (nI 0) (nI 1) = true then (if p = q then -2 else if inR s (nI 1) (nI 999) = true then (if cn w = 0 then nI (sq (fun z => rdV x (cn p) (cn q) (kd (cn p)) (v (cn p)) rw z d) s 100).1 else (sq (fun z => rdV x (cn p) (cn q) (kd (cn p)) (v (cn p)) rw z d) s 100).2) else -2) else -1) else -1
def seenB (rd : Nat → Int32) (z : Int32) : Nat → Bool
  | 0 => false
  | k + 1 => decide (rd k = z) || seenB rd z k
def spN (rd : Nat → Int32) : Nat → Nat
  | 0 => 0
  | s + 1 => if rd s = nI 0 ∨ seenB rd (rd s) s = true then spN rd s else spN rd s + 1
theorem spN_le (rd : Nat → Int32) : ∀ s, spN rd s ≤ s := by
  intro s
  induction s with
  | zero => exact Nat.le_refl _
  | succ s ih => simp only [spN]; split <;> omega
theorem seenB_0 {rd : Nat → Int32} {z : Int32} : ∀ s, (∀ k, k < s → rd k = z → False) → seenB rd z s = false := by
  intro s
  induction s with
  | zero => intro _; rfl
  | succ s ih => intro h; simp only [seenB, Bool.or_eq_false_iff, decide_eq_false_iff_not]; exact ⟨fun e => h s (by omega) e, ih (fun k hk => h k (by omega))⟩
def soB (x : EX) (kd v rw : Nat → Int32) (d : Nat) (sb so ss si su : Nat → Int32) (i : Nat) : Bool := decide (rdV x (cn (sb i)) (cn (so i)) (kd (cn (sb i))) (v (cn (sb i))) rw (cn (ss i)) (d + cn (si i)) = su i)
def wrF (ok : Nat → Bool) (m : Nat) : Nat → Int32
  | 0 => -5
  | k + 1 => if ok (m - (k + 1)) = true then wrF ok m k else nI (m - (k + 1))
theorem wrF_s {ok : Nat → Bool} {m i : Nat} (h : i < m) : wrF ok m (m - i) = if ok i = true then wrF ok m (m - (i + 1)) else nI i := by
  rw [show m - i = (m - (i + 1)) + 1 by omega, wrF, show m - (m - (i + 1) + 1) = i by omega]
/-- all of the rows of p are so -/
def allSo (ok : Nat → Bool) (sb : Nat → Int32) (p : Nat) : Nat → Bool
  | 0 => true
  | k + 1 => (!(decide (sb k = nI p)) || ok k) && allSo ok sb p k
def cnt9 (ok : Nat → Bool) : Nat → Nat × Int32
  | 0 => (0, -5)
  | j + 1 => if ok (9 - j) = true then ((cnt9 ok j).1 + 1, nI (9 - j)) else cnt9 ok j
theorem sq_t {rd : Nat → Int32} {sum : Int32} {m : Nat} (h : m ≤ 99) (e : rd m = sum) : sq rd sum (100 - m) = ((sq rd sum (100 - (m + 1))).1 + 1, nI m) := by
  rw [show 100 - m = (100 - (m + 1)) + 1 by omega, sq, show 99 - (100 - (m + 1)) = m by omega, if_pos e]
theorem sq_f {rd : Nat → Int32} {sum : Int32} {m : Nat} (h : m ≤ 99) (e : ¬ rd m = sum) : sq rd sum (100 - m) = sq rd sum (100 - (m + 1)) := by
  rw [show 100 - m = (100 - (m + 1)) + 1 by omega, sq, show 99 - (100 - (m + 1)) = m by omega, if_neg e]
/-- all of the rows of p are so, from the first on -/
def allU (ok : Nat → Bool) (sb : Nat → Int32) (p m : Nat) : Nat → Bool
  | 0 => true
  | k + 1 => (!(decide (sb (m - (k + 1)) = nI p)) || ok (m - (k + 1))) && allU ok sb p m k
theorem allSo_t {ok : Nat → Bool} {sb : Nat → Int32} {p m i : Nat} (h : i < m) (e : ¬ sb i = nI p ∨ ok i = true) : allU ok sb p m (m - i) = allU ok sb p m (m - (i + 1)) := by
  rw [show m - i = (m - (i + 1)) + 1 by omega, allU, show m - (m - (i + 1) + 1) = i by omega]
  rcases e with e | e
  · simp [e]
  · simp [e]
theorem allSo_f {ok : Nat → Bool} {sb : Nat → Int32} {p m i : Nat} (h : i < m) (e : sb i = nI p) (e2 : ok i = false) : allU ok sb p m (m - i) = false := by
  rw [show m - i = (m - (i + 1)) + 1 by omega, allU, show m - (m - (i + 1) + 1) = i by omega]
  simp [e, e2]
