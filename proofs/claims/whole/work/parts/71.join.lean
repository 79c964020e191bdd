/-! JOINS: whom one must rescue, gifts -/
def dN (f : Nat → Int32) : Nat → Nat := fun i => cn (f i)
def isN (f : Nat → Int32) (n b : Nat) : Prop := ∀ i, i < n → ∃ k : Nat, k ≤ b ∧ f i = nI k
theorem isN_at {f : Nat → Int32} {n b i : Nat} (h : isN f n b) (hi : i < n) (hb : b < 2 ^ 31) : f i = nI (dN f i) ∧ dN f i ≤ b := by
  obtain ⟨k, hk, e⟩ := h i hi
  have e2 : dN f i = k := by unfold dN; rw [e, cn_nI (by omega)]
  rw [e2]; exact ⟨e, hk⟩
def On (de : Nat → Nat) (p : Nat) : Nat → Nat
  | 0 => 0
  | k + 1 => On de p k + de (6 * p + k)
def Dn (de : Nat → Nat) (S p : Nat) : Nat → Nat
  | 0 => 0
  | k + 1 => if S >>> k &&& 1 = 0 then Dn de S p k + de (6 * k + p) else Dn de S p k
theorem osum_N {de : Nat → Int32} {p : Nat} (h : isN de 36 9999) (hp : p < 6) : ∀ k, k ≤ 6 → osum de p k = nI (On (dN de) p k) ∧ On (dN de) p k ≤ 9999 * k := by
  intro k
  induction k with
  | zero => intro _; exact ⟨rfl, Nat.le_refl _⟩
  | succ k ih =>
    intro hk
    obtain ⟨a, b⟩ := ih (by omega)
    obtain ⟨c, d⟩ := isN_at h (show 6 * p + k < 36 by omega) (by decide)
    rw [osum, On, a, c, nI_add]
    exact ⟨rfl, by omega⟩
theorem dsum_N {de : Nat → Int32} {S p : Nat} (h : isN de 36 9999) (hp : p < 6) : ∀ k, k ≤ 6 → dsum de S p k = nI (Dn (dN de) S p k) ∧ Dn (dN de) S p k ≤ 9999 * k := by
  intro k
  induction k with
  | zero => intro _; exact ⟨rfl, Nat.le_refl _⟩
  | succ k ih =>
    intro hk
    obtain ⟨a, b⟩ := ih (by omega)
    obtain ⟨c, d⟩ := isN_at h (show 6 * k + p < 36 by omega) (by decide)
    rw [dsum, Dn]
    by_cases hb : S >>> k &&& 1 = 0
    · rw [if_pos hb, if_pos hb, a, c, nI_add]
      exact ⟨rfl, by omega⟩
    · rw [if_neg hb, if_neg hb]; exact ⟨a, by omega⟩
theorem cant_N {n : Nat} {pu de : Nat → Int32} {S p P : Nat} (hn : n ≤ 6) (h : isN de 36 9999) (hp : p < 6) (hP : pu p = nI P) (hb : P ≤ 200000) : cant n pu de S p = true ↔ P + Dn (dN de) S p n < On (dN de) p n := by
  obtain ⟨a, b⟩ := osum_N h hp n hn
  obtain ⟨c, d⟩ := dsum_N (S := S) h hp n hn
  unfold cant
  rw [decide_eq_true_eq, hP, a, c, nI_add, nI_ltI (by omega) (by omega)]
def sub6 (A B : Nat) : Prop := ∀ k, k < 6 → A >>> k &&& 1 = 1 → B >>> k &&& 1 = 1
theorem Dn_anti {de : Nat → Nat} {A B p : Nat} (h : sub6 A B) : ∀ k, k ≤ 6 → Dn de B p k ≤ Dn de A p k := by
  intro k
  induction k with
  | zero => intro _; exact Nat.le_refl _
  | succ k ih =>
    intro hk
    have i := ih (by omega)
    rw [Dn, Dn]
    by_cases hA : A >>> k &&& 1 = 0
    · rw [if_pos hA]; split <;> omega
    · rw [if_neg hA, if_neg (by rw [h k (by omega) (b1 hA)]; decide)]; exact i
theorem or_bits {S k j : Nat} (hS : S < 64) (hk : k < 6) (hj : j < 6) : (S ||| 1 <<< k) >>> j &&& 1 = 1 ↔ (S >>> j &&& 1 = 1 ∨ j = k) := by
  have : ∀ S : Fin 64, ∀ k j : Fin 6, (S.val ||| 1 <<< k.val) >>> j.val &&& 1 = 1 ↔ (S.val >>> j.val &&& 1 = 1 ∨ j.val = k.val) := by decide +kernel
  exact this ⟨S, hS⟩ ⟨k, hk⟩ ⟨j, hj⟩
def clo (n : Nat) (pu de : Nat → Int32) (B : Nat) : Prop := ∀ k, k < n → B >>> k &&& 1 = 0 → cant n pu de B k = false
def purN (n : Nat) (pu : Nat → Int32) : Prop := ∀ k, k < n → ∃ P : Nat, P ≤ 200000 ∧ pu k = nI P
theorem cant_mono {n : Nat} {pu de : Nat → Int32} {A B k : Nat} (hn : n ≤ 6) (h : isN de 36 9999) (hp : purN n pu) (hk : k < n) (hs : sub6 A B) (hc : cant n pu de A k = true) : cant n pu de B k = true := by
  obtain ⟨P, hP, e⟩ := hp k hk
  rw [cant_N hn h (by omega) e hP] at hc ⊢
  have := Dn_anti (de := dN de) (p := k) hs n hn
  omega
theorem fr_sub {n : Nat} {pu de : Nat → Int32} {S B : Nat} (hn : n ≤ 6) (h : isN de 36 9999) (hp : purN n pu) (hS : S < 64) (hB : clo n pu de B) (hs : sub6 S B) : ∀ k, k ≤ n → sub6 (fr n pu de S k) B := by
  intro k
  induction k with
  | zero => intro _; exact hs
  | succ k ih =>
    intro hk
    have i := ih (by omega)
    rw [fr]
    split
    · rename_i hc
      intro j hj hb
      rcases (or_bits (fr_lt hS (by omega)) (by omega) hj).mp hb with z | z
      · exact i j hj z
      · subst z
        refine (b01 (B >>> j)).resolve_left (fun q => ?_)
        have h1 := hB j (by omega) q
        rw [cant_mono hn h hp (by omega) i hc.2] at h1; cases h1
    · exact i
theorem fl_sub {n : Nat} {pu de : Nat → Int32} {B : Nat} (hn : n ≤ 6) (h : isN de 36 9999) (hp : purN n pu) (hB : clo n pu de B) : ∀ (f S : Nat), S < 64 → sub6 S B → sub6 (fl n pu de f S) B := by
  intro f
  induction f with
  | zero => intro S _ hs; exact hs
  | succ f ih =>
    intro S hS hs
    have h1 := fr_sub hn h hp hS hB hs n (Nat.le_refl _)
    rw [fl]; split
    · exact ih _ (fr_lt hS hn) h1
    · exact h1
theorem zero_bits (k : Nat) : 0 >>> k &&& 1 = 0 := by rw [Nat.zero_shiftRight]; rfl
theorem fails_least {n : Nat} {pu de : Nat → Int32} {B : Nat} (hn : n ≤ 6) (h : isN de 36 9999) (hp : purN n pu) (hB : clo n pu de B) : sub6 (fails n pu de 0) B :=
  fl_sub hn h hp hB 7 0 (by decide) (fun k _ z => by rw [zero_bits] at z; cases z)
theorem fm_clo {n : Nat} {pu de : Nat → Int32} {S : Nat} : ∀ m, fm n pu de S m = false → ∀ k, k < m → S >>> k &&& 1 = 0 → cant n pu de S k = false := by
  intro m
  induction m with
  | zero => intro _ k hk; omega
  | succ m ih =>
    intro hf k hk hb
    rw [fm] at hf
    by_cases hc : fr n pu de S m >>> m &&& 1 = 0 ∧ cant n pu de (fr n pu de S m) m = true
    · rw [if_pos hc] at hf; cases hf
    · rw [if_neg hc] at hf
      by_cases e : k = m
      · subst e
        rw [fm_0 k hf] at hc
        exact Bool.eq_false_iff.mpr (fun z => hc ⟨hb, z⟩)
      · exact ih hf k (by omega) hb
theorem fl_clo {n : Nat} {pu de : Nat → Int32} (hn : n ≤ 6) : ∀ (f S : Nat), S < 64 → cz S < f → clo n pu de (fl n pu de f S) := by
  intro f
  induction f with
  | zero => intro S _ h; omega
  | succ f ih =>
    intro S hS hc
    rw [fl]
    by_cases hm : fm n pu de S n = true
    · rw [if_pos hm]
      have := (fr_props (n := n) (pu := pu) (de := de) hS n hn).2.2 hm
      exact ih _ (fr_lt hS hn) (by omega)
    · rw [if_neg hm]
      have hf := Bool.eq_false_iff.mpr hm
      rw [fm_0 n hf]; exact fm_clo n hf
theorem fails_clo {n : Nat} {pu de : Nat → Int32} {S : Nat} (hn : n ≤ 6) (hS : S < 64) : clo n pu de (fails n pu de S) := fl_clo hn 7 S hS (by have := cz_le S; omega)
theorem bits_0 {F : Nat} (hF : F < 64) (h : sub6 F 0) : F = 0 := by
  have : ∀ F : Fin 64, (∀ k : Fin 6, ¬ F.val >>> k.val &&& 1 = 1) → F.val = 0 := by decide +kernel
  exact this ⟨F, hF⟩ (fun k z => by have := h k.val k.isLt z; rw [zero_bits] at this; cases this)
theorem fails_0 {n : Nat} {pu de : Nat → Int32} (hn : n ≤ 6) (h : isN de 36 9999) (hp : purN n pu) : fails n pu de 0 = 0 ↔ ∀ k, k < n → cant n pu de 0 k = false := by
  constructor
  · intro z k hk
    have := fails_clo (n := n) (pu := pu) (de := de) (S := 0) hn (by decide)
    rw [z] at this; exact this k hk (zero_bits k)
  · intro z
    exact bits_0 (fails_lt hn (by decide)) (fails_least hn h hp (fun k hk _ => z k hk))
theorem rich_in {pu : Nat → Int32} {S k : Nat} : ∀ m, k < m → rich pu S m k = if S >>> k &&& 1 = 1 then nI 99999 else pu k := by
  intro m
  induction m with
  | zero => intro h; omega
  | succ m ih =>
    intro h
    rw [rich]
    by_cases e : k = m
    · subst e
      by_cases hb : S >>> k &&& 1 = 1
      · rw [if_pos hb, if_pos hb, pk_us]
      · rw [if_neg hb, if_neg hb]; exact rich_out' k (Nat.le_refl _)
    · split
      · rw [pk_un e]; exact ih (by omega)
      · exact ih (by omega)
theorem cant_same {n : Nat} {pu pu2 de : Nat → Int32} {S k : Nat} (h : pu k = pu2 k) : cant n pu de S k = cant n pu2 de S k := by unfold cant; rw [h]
theorem cant_rich {n : Nat} {pu de : Nat → Int32} {S k : Nat} (hn : n ≤ 6) (h : isN de 36 9999) (hk : k < n) (e : pu k = nI 99999) : cant n pu de S k = false := by
  refine Bool.eq_false_iff.mpr (fun z => ?_)
  rw [cant_N hn h (by omega) e (by decide)] at z
  have := (osum_N h (show k < 6 by omega) n hn).2
  omega
theorem sv_iff {n : Nat} {pu de : Nat → Int32} {S : Nat} (hn : n ≤ 6) (h : isN de 36 9999) (hp : isN pu 6 9999) : sv n pu de S = true ↔ ∀ k, k < n → ¬ S >>> k &&& 1 = 1 → cant n pu de 0 k = false := by
  have hr : purN n (rich pu S n) := fun k hk => by
    rw [rich_in n hk]; split
    · exact ⟨99999, by decide, rfl⟩
    · obtain ⟨P, a, b⟩ := hp k (by omega); exact ⟨P, by omega, b⟩
  unfold sv
  rw [decide_eq_true_eq, fails_0 hn h hr]
  constructor
  · intro z k hk hb
    have := z k hk
    rwa [cant_same (pu2 := pu) (by rw [rich_in n hk, if_neg hb])] at this
  · intro z k hk
    by_cases hb : S >>> k &&& 1 = 1
    · exact cant_rich hn h hk (by rw [rich_in n hk, if_pos hb])
    · rw [cant_same (pu2 := pu) (by rw [rich_in n hk, if_neg hb])]; exact z k hk hb
theorem crs_bits {n : Nat} {pu de : Nat → Int32} {k : Nat} (hk : k < 6) : ∀ m, m ≤ 6 → (crs n pu de m >>> k &&& 1 = 1 ↔ (k < m ∧ cant n pu de 0 k = true)) := by
  intro m
  induction m with
  | zero => intro _; exact ⟨fun z => absurd z (by rw [show crs n pu de 0 = 0 from rfl, zero_bits]; decide), fun z => absurd z.1 (Nat.not_lt_zero _)⟩
  | succ m ih =>
    intro hm
    have i := ih (by omega)
    rw [crs]
    by_cases hc : cantX n (pu m) de 0 m = true
    · rw [if_pos hc, or_bits (crs_lt n pu de m (by omega)) (by omega) hk, i]
      constructor
      · rintro (z | z)
        · exact ⟨by omega, z.2⟩
        · subst z; exact ⟨by omega, hc⟩
      · intro z
        by_cases e : k = m
        · exact Or.inr e
        · exact Or.inl ⟨by omega, z.2⟩
    · rw [if_neg hc, i]
      constructor
      · intro z; exact ⟨by omega, z.2⟩
      · intro z
        by_cases e : k = m
        · subst e; exact absurd z.2 hc
        · exact ⟨by omega, z.2⟩
theorem resc_min {n : Nat} {pu de : Nat → Int32} : ∀ m, (∀ f, resc n pu de m = some f → f < m ∧ sv n pu de f = true ∧ ∀ S, S < m → sv n pu de S = true → popc f ≤ popc S) ∧ (resc n pu de m = none → ∀ S, S < m → ¬ sv n pu de S = true) := by
  intro m
  induction m with
  | zero => exact ⟨fun f h => (by cases h), fun _ S hS => absurd hS (Nat.not_lt_zero _)⟩
  | succ m ih =>
    obtain ⟨i1, i2⟩ := ih
    rw [resc]
    cases hr : resc n pu de m with
    | none =>
      have i3 := i2 hr
      dsimp only
      by_cases hs : sv n pu de m = true
      · rw [if_pos hs]
        refine ⟨fun f h => ?_, fun h => by cases h⟩
        cases h
        refine ⟨by omega, hs, fun S hS z => ?_⟩
        by_cases e : S = m
        · rw [e]; exact Nat.le_refl _
        · exact absurd z (i3 S (by omega))
      · rw [if_neg hs]
        refine ⟨fun f h => (by cases h), fun _ S hS z => ?_⟩
        by_cases e : S = m
        · subst e; exact hs z
        · exact i3 S (by omega) z
    | some g =>
      obtain ⟨j1, j2, j3⟩ := i1 g hr
      dsimp only
      by_cases hs : popc m < popc g ∧ sv n pu de m = true
      · rw [if_pos hs]
        refine ⟨fun f h => ?_, fun h => by cases h⟩
        cases h
        refine ⟨by omega, hs.2, fun S hS z => ?_⟩
        by_cases e : S = m
        · rw [e]; exact Nat.le_refl _
        · have := j3 S (by omega) z; omega
      · rw [if_neg hs]
        refine ⟨fun f h => ?_, fun h => by cases h⟩
        cases h
        refine ⟨by omega, j2, fun S hS z => ?_⟩
        by_cases e : S = m
        · subst e
          have : ¬ popc S < popc g := fun q => hs ⟨q, z⟩
          omega
        · exact j3 S (by omega) z
theorem sub_popc {R S : Nat} (hR : R < 64) (hS : S < 64) (h : sub6 R S) (hp : popc S ≤ popc R) : S = R := by
  have : ∀ R S : Fin 64, (∀ k : Fin 6, R.val >>> k.val &&& 1 = 1 → S.val >>> k.val &&& 1 = 1) → popc S.val ≤ popc R.val → S.val = R.val := by decide +kernel
  exact this ⟨R, hR⟩ ⟨S, hS⟩ (fun k z => h k.val k.isLt z) hp
theorem lt_pow {n R : Nat} (hn : n ≤ 6) (hR : R < 64) (h : ∀ k, k < 6 → n ≤ k → ¬ R >>> k &&& 1 = 1) : R < 1 <<< n := by
  have : ∀ n : Fin 7, ∀ R : Fin 64, (∀ k : Fin 6, n.val ≤ k.val → ¬ R.val >>> k.val &&& 1 = 1) → R.val < 1 <<< n.val := by decide +kernel
  exact this ⟨n, by omega⟩ ⟨R, hR⟩ (fun k z => h k.val k.isLt z)
theorem join_rescue {n : Nat} {pu de : Nat → Int32} (hn : n ≤ 6) (h : isN de 36 9999) (hp : isN pu 6 9999) : nI (crs n pu de n) = rs (resc n pu de (1 <<< n)) := by
  have hR : crs n pu de n < 64 := crs_lt n pu de n hn
  have hRn : crs n pu de n < 1 <<< n := lt_pow hn hR (fun k hk hnk z => by have := ((crs_bits hk n hn).mp z).1; omega)
  have hsv : ∀ S, sv n pu de S = true ↔ sub6 (crs n pu de n) S := fun S => by
    rw [sv_iff hn h hp]
    constructor
    · intro z k hk hb
      obtain ⟨a, b⟩ := (crs_bits hk n hn).mp hb
      refine Classical.byContradiction (fun q => ?_)
      rw [z k a q] at b; cases b
    · intro z k hk hb
      exact Bool.eq_false_iff.mpr (fun q => hb (z k (by omega) ((crs_bits (by omega) n hn).mpr ⟨hk, q⟩)))
  obtain ⟨i1, i2⟩ := resc_min (n := n) (pu := pu) (de := de) (1 <<< n)
  cases hr : resc n pu de (1 <<< n) with
  | none => exact absurd ((hsv _).mpr (fun k _ z => z)) (i2 hr _ hRn)
  | some f =>
    obtain ⟨j1, j2, j3⟩ := i1 f hr
    have hf : f < 64 := Nat.lt_of_lt_of_le j1 (shl_lt hn)
    rw [sub_popc hR hf ((hsv f).mp j2) (j3 _ hRn ((hsv _).mpr (fun k _ z => z)))]; rfl
theorem one_bits {p k : Nat} (hp : p < 6) (hk : k < 6) : 1 <<< p >>> k &&& 1 = 1 ↔ k = p := by
  have : ∀ p k : Fin 6, 1 <<< p.val >>> k.val &&& 1 = 1 ↔ k.val = p.val := by decide +kernel
  exact this ⟨p, hp⟩ ⟨k, hk⟩
theorem drop_bits {F p k : Nat} (hF : F < 64) (hp : p < 6) (hk : k < 6) : (F &&& (63 ^^^ 1 <<< p)) >>> k &&& 1 = 1 ↔ (F >>> k &&& 1 = 1 ∧ ¬ k = p) := by
  have : ∀ F : Fin 64, ∀ p k : Fin 6, (F.val &&& (63 ^^^ 1 <<< p.val)) >>> k.val &&& 1 = 1 ↔ (F.val >>> k.val &&& 1 = 1 ∧ ¬ k.val = p.val) := by decide +kernel
  exact this ⟨F, hF⟩ ⟨p, hp⟩ ⟨k, hk⟩
theorem rp_p {pu : Nat → Int32} {p : Nat} (hp : p < 6) : rp pu (1 <<< p) p = nI 99999 := if_pos ((one_bits hp hp).mpr rfl)
theorem rp_np {pu : Nat → Int32} {p k : Nat} (hp : p < 6) (hk : k < 6) (h : ¬ k = p) : rp pu (1 <<< p) k = pu k := if_neg (fun z => h ((one_bits hp hk).mp z))
theorem purN_rp {n : Nat} {pu : Nat → Int32} {p : Nat} (hn : n ≤ 6) (hp : p < 6) (h : isN pu 6 9999) : purN n (rp pu (1 <<< p)) := fun k hk => by
  by_cases e : k = p
  · subst e; exact ⟨99999, by decide, rp_p hp⟩
  · obtain ⟨P, a, b⟩ := h k (by omega); exact ⟨P, by omega, (rp_np hp (by omega) e).trans b⟩
theorem gift_out {n : Nat} {pu de : Nat → Int32} {p : Nat} (hn : n ≤ 6) (h : isN de 36 9999) (hp : isN pu 6 9999) (hpn : p < n) : fails n (rp pu (1 <<< p)) de 0 >>> p &&& 1 = 0 := by
  have hF := fails_lt (n := n) (pu := rp pu (1 <<< p)) (de := de) hn (S := 0) (by decide)
  have hs := fails_least (pu := rp pu (1 <<< p)) hn h (purN_rp (p := p) hn (by omega) hp) (B := fails n (rp pu (1 <<< p)) de 0 &&& (63 ^^^ 1 <<< p)) (fun k hk hb => by
    by_cases e : k = p
    · subst e; exact cant_rich hn h hk (rp_p (by omega))
    · have hk0 : fails n (rp pu (1 <<< p)) de 0 >>> k &&& 1 = 0 := b0 (fun z => by
        have := (drop_bits hF (show p < 6 by omega) (show k < 6 by omega)).mpr ⟨z, e⟩
        rw [hb] at this; cases this)
      refine Bool.eq_false_iff.mpr (fun z => ?_)
      have z2 := cant_mono hn h (purN_rp hn (by omega) hp) hk (B := fails n (rp pu (1 <<< p)) de 0) (fun j hj q => ((drop_bits hF (by omega) hj).mp q).1) z
      rw [fails_clo hn (by decide) k hk hk0] at z2; cases z2)
  refine b0 (fun z => ?_)
  exact ((drop_bits hF (show p < 6 by omega) (show p < 6 by omega)).mp (hs p (by omega) z)).2 rfl
theorem gbad_iff {n : Nat} {pu de : Nat → Int32} {p g P : Nat} (hn : n ≤ 6) (h : isN de 36 9999) (hp : isN pu 6 9999) (hpn : p < n) (hg : g ≤ 9999) (hP : P ≤ 9999) (eP : pu p = nI P) : gbad n pu de p g = true ↔ P + g + Dn (dN de) (fails n (rp pu (1 <<< p)) de 0) p n < On (dN de) p n := by
  have hpg : upd pu p (pu p + nI g) p = nI (P + g) := by rw [pk_us, eP, nI_add]
  have hng : ∀ k, ¬ k = p → upd pu p (pu p + nI g) k = pu k := fun k hk => pk_un hk
  have hur : purN n (upd pu p (pu p + nI g)) := fun k hk => by
    by_cases e : k = p
    · subst e; exact ⟨P + g, by omega, hpg⟩
    · obtain ⟨Q, a, b⟩ := hp k (by omega); exact ⟨Q, by omega, (hng k e).trans b⟩
  have hout := gift_out hn h hp hpn
  have hFr := fails_clo (n := n) (pu := rp pu (1 <<< p)) (de := de) (S := 0) hn (by decide)
  have hFg := fails_clo (n := n) (pu := upd pu p (pu p + nI g)) (de := de) (S := 0) hn (by decide)
  unfold gbad
  rw [decide_eq_true_eq]
  constructor
  · intro z
    refine Classical.byContradiction (fun q => ?_)
    have hs := fails_least hn h hur (B := fails n (rp pu (1 <<< p)) de 0) (fun k hk hb => by
      by_cases e : k = p
      · subst e
        refine Bool.eq_false_iff.mpr (fun z2 => ?_)
        rw [cant_N hn h (by omega) hpg (by omega)] at z2; exact q z2
      · rw [cant_same (pu2 := rp pu (1 <<< p)) ((hng k e).trans (rp_np (by omega) (by omega) e).symm)]
        exact hFr k hk hb)
    have := hs p (by omega) z
    rw [hout] at this; cases this
  · intro z
    refine Classical.byContradiction (fun q => ?_)
    have q0 := b0 q
    have hs := fails_least hn h (purN_rp hn (show p < 6 by omega) hp) (B := fails n (upd pu p (pu p + nI g)) de 0) (fun k hk hb => by
      by_cases e : k = p
      · subst e; exact cant_rich hn h hk (rp_p (by omega))
      · rw [cant_same (pu2 := upd pu p (pu p + nI g)) ((rp_np (by omega) (by omega) e).trans (hng k e).symm)]
        exact hFg k hk hb)
    have h1 := hFg p hpn q0
    have h2 := Dn_anti (de := dN de) (p := p) hs n hn
    have h3 : ¬ P + g + Dn (dN de) (fails n (upd pu p (pu p + nI g)) de 0) p n < On (dN de) p n := fun z3 => by
      rw [(cant_N hn h (by omega) hpg (by omega)).mpr z3] at h1; cases h1
    omega
theorem join_gift {n : Nat} {pu de : Nat → Int32} {p : Nat} {r : Int32} (hn : n ≤ 6) (h : isN de 36 9999) (hp : isN pu 6 9999) (hpn : p < n) (hr : giftP n pu de p r) : r = cgift n pu de p := by
  obtain ⟨P, hP, eP⟩ := hp p (by omega)
  obtain ⟨o1, o2⟩ := osum_N h (show p < 6 by omega) n hn
  obtain ⟨d1, d2⟩ := dsum_N (S := fails n (rp pu (1 <<< p)) de 0) h (show p < 6 by omega) n hn
  have hl : lack n pu de p = nI (On (dN de) p n) - nI P - nI (Dn (dN de) (fails n (rp pu (1 <<< p)) de 0) p n) := by unfold lack; rw [o1, d1, eP]
  have hI : (lack n pu de p).toInt = (On (dN de) p n : Int) - P - Dn (dN de) (fails n (rp pu (1 <<< p)) de 0) p n := by
    have e1 : (nI (On (dN de) p n)).toInt = On (dN de) p n := nI_toInt (by omega)
    have e2 : (nI P).toInt = P := nI_toInt (by omega)
    have e3 : (nI (Dn (dN de) (fails n (rp pu (1 <<< p)) de 0) p n)).toInt = Dn (dN de) (fails n (rp pu (1 <<< p)) de 0) p n := nI_toInt (by omega)
    have e4 := i_sub (a := nI (On (dN de) p n)) (b := nI P) (by omega) (by omega)
    rw [hl, i_sub (by omega) (by omega)]; omega
  have n9 : (nI 9999).toInt = 9999 := nI_toInt (by decide)
  have n0 : (nI 0).toInt = 0 := nI_toInt (by decide)
  rcases hr with ⟨rfl, hb⟩ | ⟨g, hg, rfl, hb, hc⟩
  · rw [gbad_iff hn h hp hpn (by decide) hP eP] at hb
    exact (cgift_t (Int32.lt_iff_toInt_lt.mpr (by rw [n9, hI]; omega))).symm
  · have hb2 : ¬ P + g + Dn (dN de) (fails n (rp pu (1 <<< p)) de 0) p n < On (dN de) p n := fun z => by
      rw [(gbad_iff hn h hp hpn hg hP eP).mpr z] at hb; cases hb
    rw [cgift_f (fun z => by have := Int32.lt_iff_toInt_lt.mp z; rw [n9, hI] at this; omega)]
    by_cases hneg : lack n pu de p < nI 0
    · rw [if_pos hneg]
      have h1 := Int32.lt_iff_toInt_lt.mp hneg
      rw [n0, hI] at h1
      rcases hc with rfl | hc
      · rfl
      · rw [gbad_iff hn h hp hpn (by omega) hP eP] at hc; omega
    · rw [if_neg hneg]
      have h1 : ¬ (lack n pu de p).toInt < 0 := fun z => hneg (Int32.lt_iff_toInt_lt.mpr (by rw [n0]; exact z))
      rw [hI] at h1
      have e : (g : Int) = (lack n pu de p).toInt := by
        rw [hI]
        rcases hc with rfl | hc
        · omega
        · rw [gbad_iff hn h hp hpn (by omega) hP eP] at hc; omega
      exact Int32.toInt_inj.mp (by rw [nI_toInt (by omega), e])
