/-! SPAN, CAN, TOLD -/
def hold42 (g rd : Nat → Int32) (s : Nat) : Prop := ∀ z, 0 < z → z < 3000 → g z = bI (seenB rd (nI z) s)
theorem h42_0 {g rd : Nat → Int32} {s : Nat} (h : hold42 g rd s) (e : rd s = nI 0) : hold42 g rd (s + 1) ∧ spN rd (s + 1) = spN rd s := by
  refine ⟨fun z h1 h2 => ?_, by rw [spN, if_pos (Or.inl e)]⟩
  rw [h z h1 h2, seenB, e, show decide (nI 0 = nI z) = false from decide_eq_false (fun q => by have := (nI_eq (by omega) (by omega)).mp q; omega), Bool.false_or]
theorem h42_s {g rd : Nat → Int32} {s r : Nat} (h : hold42 g rd s) (e : rd s = nI r) (hb : seenB rd (nI r) s = true) : hold42 g rd (s + 1) ∧ spN rd (s + 1) = spN rd s := by
  refine ⟨fun z h1 h2 => ?_, by rw [spN, if_pos (Or.inr (by rw [e]; exact hb))]⟩
  rw [h z h1 h2, seenB]
  by_cases hz : rd s = nI z
  · rw [← hz, e, hb]; simp
  · rw [decide_eq_false hz, Bool.false_or]
theorem h42_n {g rd : Nat → Int32} {s r : Nat} (h : hold42 g rd s) (e : rd s = nI r) (hr : r < 3000) (h0 : ¬ rd s = nI 0) (hb : seenB rd (nI r) s = false) : hold42 (upd g r (nI 1)) rd (s + 1) ∧ spN rd (s + 1) = spN rd s + 1 := by
  refine ⟨fun z h1 h2 => ?_, by rw [spN, if_neg (fun q => q.elim h0 (fun q => by rw [e, hb] at q; exact absurd q (by decide)))]⟩
  rw [seenB]
  by_cases hz : z = r
  · subst hz; rw [pk_us, e]; simp [bI, nI_one]
  · rw [pk_un hz, h z h1 h2, e, decide_eq_false (fun q => hz ((nI_eq (by omega) (by omega)).mp q).symm), Bool.false_or]
theorem sp_w {σ : Nat → Nat → Int32} {A B t : Nat → Int32} : u2 (u2 (u2 σ 42 A) 22 t) 42 B = u2 (u2 σ 42 B) 22 t := by
  funext c; simp only [u2]; (repeat' split) <;> first | rfl | omega
theorem can_w {σ : Nat → Nat → Int32} {A B t : Nat → Int32} : u2 (u2 (u2 σ 2 A) 22 t) 2 B = u2 (u2 σ 2 B) 22 t := by
  funext c; simp only [u2]; (repeat' split) <;> first | rfl | omega
def R_between (n : Nat) (x : EX) (kd v rw de : Nat → Int32) (d : Nat) (p q w : Int32) : Int32 := if (isB n p && isB n q) = true then (if inR w (nI 0) (nI 1) = true then (if p = q then -2 else if cn w = 0 then de (6 * cn p + cn q) else nI (spN (fun z => rdV x (cn p) (cn q) (kd (cn p)) (v (cn p)) rw z d) 100)) else -1) else -1
theorem cnt_t {ok : Nat → Bool} {m : Nat} (h : m ≤ 9) (e : ok m = true) : cnt9 ok (10 - m) = ((cnt9 ok (10 - (m + 1))).1 + 1, nI m) := by
  rw [show 10 - m = (10 - (m + 1)) + 1 by omega, cnt9, show 9 - (10 - (m + 1)) = m by omega, if_pos e]
theorem cnt_f {ok : Nat → Bool} {m : Nat} (h : m ≤ 9) (e : ok m = false) : cnt9 ok (10 - m) = cnt9 ok (10 - (m + 1)) := by
  rw [show 10 - m = (10 - (m + 1)) + 1 by omega, cnt9, show 9 - (10 - (m + 1)) = m by omega, if_neg (by rw [e]; decide)]
def okV (x : EX) (kd v rw : Nat → Int32) (d : Nat) (sb so ss si su : Nat → Int32) (m p k : Nat) : Bool := allU (fun z => soB x kd (upd v p (nI k)) rw d sb so ss si su z) sb p m m
def R_can (n : Nat) (x : EX) (kd v rw : Nat → Int32) (d : Nat) (sb so ss si su : Nat → Int32) (m : Nat) (p w : Int32) : Int32 := if isB n p = true then (if inR w (nI 0) (nI 1) = true then (if cn w = 0 then nI (cnt9 (okV x kd v rw d sb so ss si su m (cn p)) 10).1 else (cnt9 (okV x kd v rw d sb so ss si su m (cn p)) 10).2) else -1) else -1
def toldP (n : Nat) (pu de : Nat → Int32) (d : Nat) (x : EX) (w r : Int32) : Prop := if w = 0 then r = nI d else if w = 1 then r = nI (bd x x.1) else if w = 2 then r = nI (fails n pu de 0) else if w = 3 then r = rs (resc n pu de (1 <<< n)) else if w = 4 then (∃ t0 : Nat → Int32, r = nI n - ptab n de t0 (1 <<< n - 1) (1 <<< n - 1)) else if w = 5 then r = ringA n de n else if w = 6 then r = offO n de n else if w = 7 then r = osumAll n de n else r = -1
