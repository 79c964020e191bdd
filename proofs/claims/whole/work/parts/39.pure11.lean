/-! a clause, and an exchange, as the model reads them -/
theorem tAll_g {n : Nat} {tx : Nat → Nat} : ∀ (l : List Nat) (s : TS), s.ax ≤ n → tG n s (tAll n tx l s).2 ∧ (tAll n tx l s).2.cd = s.cd ∧ (tAll n tx l s).2.c = s.c
  | [], s, _ => ⟨tG_refl n s, rfl, rfl⟩
  | c :: l, s, h => by
    unfold tAll; split
    · rename_i h1
      have a1 := tIs_g (c := c) (tx := tx) h
      obtain ⟨b1, b2, b3⟩ := tAll_g (n := n) (tx := tx) l (tIs n tx c s).2 (a1.2.1 h)
      exact ⟨tG_trans a1 b1, by rw [b2, (tIs_t h1).1]; rfl, by rw [b3, (tIs_t h1).1]; rfl⟩
    · rename_i h1; rw [tIs_f (Bool.eq_false_iff.mpr h1)]; exact ⟨tG_refl n s, rfl, rfl⟩
def tO (s : TS) : TS := TSm s.ax s.dg 0 s.cd s.vl s.c
def tEx (n : Nat) (tx : Nat → Nat) (s : TS) : Bool × TS := tRow n tx (tRow n tx (tF n tx 4) 38 1) 124 2 s
theorem tEx_g {n : Nat} {tx : Nat → Nat} (s : TS) (h : s.ax ≤ n) : tG n s (tEx n tx s).2 := tRow_g (fun s hs => tRow_g (fun s hs => tF_g 4 s hs) s hs) s h
def tKd (n : Nat) (tx : Nat → Nat) (s : TS) : Nat := if s.ax < n then (if tx s.ax = 102 then 0 else if tx s.ax = 108 then 1 else if tx s.ax = 98 then 2 else 3) else 3
def tCk (n : Nat) (tx : Nat → Nat) (k : Nat) (s : TS) : Bool × TS :=
  if (tAll n tx (litC (3 + k)) s).1 = true then
    (if (tNum n tx (tAll n tx (litC (3 + k)) s).2).1 = true then
      (if k < 2 then
        (if (tIs n tx 32 (tO (tNum n tx (tAll n tx (litC (3 + k)) s).2).2)).1 = true then tEx n tx (tIs n tx 32 (tO (tNum n tx (tAll n tx (litC (3 + k)) s).2).2)).2 else (false, (tIs n tx 32 (tO (tNum n tx (tAll n tx (litC (3 + k)) s).2).2)).2))
      else (true, tO (tNum n tx (tAll n tx (litC (3 + k)) s).2).2))
    else (false, (tNum n tx (tAll n tx (litC (3 + k)) s).2).2))
  else (false, (tAll n tx (litC (3 + k)) s).2)
def tCl (n : Nat) (tx : Nat → Nat) (s : TS) : Bool × TS := if tKd n tx s < 3 then tCk n tx (tKd n tx s) s else (false, s)
def tVl (n : Nat) (tx : Nat → Nat) (k : Nat) (s : TS) : Nat := (tNum n tx (tAll n tx (litC (3 + k)) s).2).2.vl
def u4 (σ : Nat → Nat → Int32) (f g h l : Nat → Int32) : Nat → Nat → Int32 := u2 (u2 (u2 (u2 σ 16 f) 17 g) 18 h) 19 l
def clP (n : Nat) (tx : Nat → Nat) (σ : Nat → Nat → Int32) (i : Nat) (s : TS) (f g h l : Nat → Int32) : Prop :=
  (∀ j, j ≠ i → f j = σ 16 j ∧ g j = σ 17 j ∧ h j = σ 18 j ∧ l j = σ 19 j) ∧
  ((tCl n tx s).1 = true → f i = nI (tKd n tx s) ∧ g i = nI (tVl n tx (tKd n tx s) s) ∧ h i = nI s.cd ∧ l i = nI ((tCl n tx s).2.cd - s.cd))
theorem u4_self (σ : Nat → Nat → Int32) : σ = u4 σ (σ 16) (σ 17) (σ 18) (σ 19) := by unfold u4; rw [u2_self, u2_self, u2_self, u2_self]
theorem u4_3 (σ : Nat → Nat → Int32) (f g h : Nat → Int32) : u2 (u2 (u2 σ 16 f) 17 g) 18 h = u4 σ f g h (σ 19) := (u2_self (σ := u2 (u2 (u2 σ 16 f) 17 g) 18 h) (k := 19)).symm
theorem clR {X : Xn} {a ν : Nat → Nat} {σ σ2 : Nat → Nat → Int32} {τ : Nat → Int64} {tx : Nat → Nat} {n i : Nat} {s st : TS} {b : Bool} {v : Option Value} (f g h l : Nat → Int32) (hq : tCl n tx s = (b, st)) (hv : v = some (.int (bI b))) (hs : σ2 = u4 σ f g h l) (ho : ∀ j, j ≠ i → f j = σ 16 j ∧ g j = σ 17 j ∧ h j = σ 18 j ∧ l j = σ 19 j) (hi : b = true → f i = nI (tKd n tx s) ∧ g i = nI (tVl n tx (tKd n tx s) s) ∧ h i = nI s.cd ∧ l i = nI (st.cd - s.cd)) :
    ∃ f g h l : Nat → Int32, v = some (.int (bI (tCl n tx s).1)) ∧ MT X a ν σ2 τ tx st = MT X a ν (u4 σ f g h l) τ tx (tCl n tx s).2 ∧ clP n tx σ i s f g h l := by
  refine ⟨f, g, h, l, by rw [hq]; exact hv, by rw [hq, hs], ho, fun z => ?_⟩
  rw [hq] at z ⊢; exact hi z
theorem clo3 {σ : Nat → Nat → Int32} {i : Nat} (x y z : Int32) : ∀ j, j ≠ i → upd (σ 16) i x j = σ 16 j ∧ upd (σ 17) i y j = σ 17 j ∧ upd (σ 18) i z j = σ 18 j ∧ σ 19 j = σ 19 j := fun j hj => ⟨pk_un hj, pk_un hj, pk_un hj, rfl⟩
theorem clo4 {σ : Nat → Nat → Int32} {i : Nat} (x y z t : Int32) : ∀ j, j ≠ i → upd (σ 16) i x j = σ 16 j ∧ upd (σ 17) i y j = σ 17 j ∧ upd (σ 18) i z j = σ 18 j ∧ upd (σ 19) i t j = σ 19 j := fun j hj => ⟨pk_un hj, pk_un hj, pk_un hj, pk_un hj⟩
