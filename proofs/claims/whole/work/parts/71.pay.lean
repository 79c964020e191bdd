/-! JOINS: payments -/
def dif (S B : Nat) : Nat := S &&& (63 ^^^ B)
theorem dif_p {S B : Nat} (hS : S < 64) (hB : B < 64) (h : B &&& S = B) : dif S B ||| B = S ∧ dif S B &&& B = 0 ∧ dif S B &&& S = dif S B ∧ dif S B < 64 ∧ dif S B ≤ S ∧ (¬ B = 0 → dif S B < S) := by
  have : ∀ S B : Fin 64, B.val &&& S.val = B.val → (dif S.val B.val ||| B.val = S.val ∧ dif S.val B.val &&& B.val = 0 ∧ dif S.val B.val &&& S.val = dif S.val B.val ∧ dif S.val B.val < 64 ∧ dif S.val B.val ≤ S.val ∧ (¬ B.val = 0 → dif S.val B.val < S.val)) := by decide +kernel
  exact this ⟨S, hS⟩ ⟨B, hB⟩ h
theorem sub_iff {o S : Nat} (ho : o < 64) (hS : S < 64) : o &&& (63 ^^^ S) = 0 ↔ o &&& S = o := by
  have : ∀ o S : Fin 64, o.val &&& (63 ^^^ S.val) = 0 ↔ o.val &&& S.val = o.val := by decide +kernel
  exact this ⟨o, ho⟩ ⟨S, hS⟩
theorem low_in {S : Nat} (hS : S < 64) (h : ¬ S = 0) : ¬ S &&& lowb S = 0 := by
  have : ∀ S : Fin 64, ¬ S.val = 0 → ¬ S.val &&& lowb S.val = 0 := by decide +kernel
  exact this ⟨S, hS⟩ h
theorem low_uv {U V : Nat} (hU : U < 64) (hV : V < 64) (h : U &&& V = 0) (h0 : ¬ V = 0) : ¬ V &&& lowb (U ||| V) = 0 ∨ (¬ U = 0 ∧ lowb (U ||| V) = lowb U) := by
  have : ∀ U V : Fin 64, U.val &&& V.val = 0 → ¬ V.val = 0 → (¬ V.val &&& lowb (U.val ||| V.val) = 0 ∨ (¬ U.val = 0 ∧ lowb (U.val ||| V.val) = lowb U.val)) := by decide +kernel
  exact this ⟨U, hU⟩ ⟨V, hV⟩ h h0
theorem or_uv {U V : Nat} (hU : U < 64) (hV : V < 64) (h : U &&& V = 0) : U ||| V < 64 ∧ U &&& (U ||| V) = U ∧ V &&& (U ||| V) = V ∧ dif (U ||| V) V = U ∧ (¬ V = 0 → U < U ||| V) := by
  have : ∀ U V : Fin 64, U.val &&& V.val = 0 → (U.val ||| V.val < 64 ∧ U.val &&& (U.val ||| V.val) = U.val ∧ V.val &&& (U.val ||| V.val) = V.val ∧ dif (U.val ||| V.val) V.val = U.val ∧ (¬ V.val = 0 → U.val < U.val ||| V.val)) := by decide +kernel
  exact this ⟨U, hU⟩ ⟨V, hV⟩ h
theorem rem_p {S k : Nat} (hS : S < 64) (hk : k < 6) (h : S >>> k &&& 1 = 1) : S ^^^ 1 <<< k < S ∧ (S ^^^ 1 <<< k) &&& S = S ^^^ 1 <<< k ∧ S ^^^ 1 <<< k < 64 := by
  have : ∀ S : Fin 64, ∀ k : Fin 6, S.val >>> k.val &&& 1 = 1 → (S.val ^^^ 1 <<< k.val < S.val ∧ (S.val ^^^ 1 <<< k.val) &&& S.val = S.val ^^^ 1 <<< k.val ∧ S.val ^^^ 1 <<< k.val < 64) := by decide +kernel
  exact this ⟨S, hS⟩ ⟨k, hk⟩ h
theorem sub_rem {T S k : Nat} (hT : T < 64) (hS : S < 64) (hk : k < 6) (h : T &&& S = T) (h1 : S >>> k &&& 1 = 1) (h0 : ¬ T >>> k &&& 1 = 1) : T &&& (S ^^^ 1 <<< k) = T := by
  have : ∀ T S : Fin 64, T.val &&& S.val = T.val → ∀ k : Fin 6, S.val >>> k.val &&& 1 = 1 → ¬ T.val >>> k.val &&& 1 = 1 → T.val &&& (S.val ^^^ 1 <<< k.val) = T.val := by decide +kernel
  exact this ⟨T, hT⟩ ⟨S, hS⟩ h ⟨k, hk⟩ h1 h0
theorem ex_bit {T S : Nat} (hT : T < 64) (hS : S < 64) (h : T &&& S = T) (hne : ¬ T = S) : ∃ k, k < 6 ∧ S >>> k &&& 1 = 1 ∧ ¬ T >>> k &&& 1 = 1 := by
  have : ∀ T S : Fin 64, T.val &&& S.val = T.val → ¬ T.val = S.val → ∃ k : Fin 6, S.val >>> k.val &&& 1 = 1 ∧ ¬ T.val >>> k.val &&& 1 = 1 := by decide +kernel
  obtain ⟨k, a, b⟩ := this ⟨T, hT⟩ ⟨S, hS⟩ h hne
  exact ⟨k.val, k.isLt, a, b⟩
theorem bit_lt {n S k : Nat} (hn : n ≤ 6) (hS : S < 1 <<< n) (hk : k < 6) (h : S >>> k &&& 1 = 1) : k < n := by
  have : ∀ n : Fin 7, ∀ S : Fin 64, S.val < 1 <<< n.val → ∀ k : Fin 6, S.val >>> k.val &&& 1 = 1 → k.val < n.val := by decide +kernel
  exact this ⟨n, by omega⟩ ⟨S, Nat.lt_of_lt_of_le hS (shl_lt hn)⟩ hS ⟨k, hk⟩ h
theorem or_bit2 {A B k : Nat} (hA : A < 64) (hB : B < 64) (hk : k < 6) (h : A &&& B = 0) : ((A ||| B) >>> k &&& 1) = (A >>> k &&& 1) + (B >>> k &&& 1) := by
  have : ∀ A B : Fin 64, A.val &&& B.val = 0 → ∀ k : Fin 6, ((A.val ||| B.val) >>> k.val &&& 1) = (A.val >>> k.val &&& 1) + (B.val >>> k.val &&& 1) := by decide +kernel
  exact this ⟨A, hA⟩ ⟨B, hB⟩ h ⟨k, hk⟩
theorem bsum_or {n : Nat} {de : Nat → Int32} {A B : Nat} (hA : A < 64) (hB : B < 64) (h : A &&& B = 0) : ∀ m, m ≤ 6 → bsum n de (A ||| B) m = bsum n de A m + bsum n de B m := by
  intro m
  induction m with
  | zero => intro _; rfl
  | succ m ih =>
    intro hm
    have i := ih (by omega)
    have e := or_bit2 hA hB (show m < 6 by omega) h
    have a := b01 (A >>> m); have b := b01 (B >>> m); have c := b01 ((A ||| B) >>> m)
    rw [bsum, bsum, bsum, i]
    by_cases h1 : A >>> m &&& 1 = 1
    · rw [if_pos h1, if_neg (show ¬ B >>> m &&& 1 = 1 by omega), if_pos (show (A ||| B) >>> m &&& 1 = 1 by omega)]; grind
    · by_cases h2 : B >>> m &&& 1 = 1
      · rw [if_neg h1, if_pos h2, if_pos (show (A ||| B) >>> m &&& 1 = 1 by omega)]; grind
      · rw [if_neg h1, if_neg h2, if_neg (show ¬ (A ||| B) >>> m &&& 1 = 1 by omega)]
theorem z_dif {n : Nat} {de : Nat → Int32} {S B : Nat} (hn : n ≤ 6) (hS : S < 64) (hB : B < 64) (h : B &&& S = B) (zS : bsum n de S n = 0) (zB : bsum n de B n = 0) : bsum n de (dif S B) n = 0 := by
  obtain ⟨a, b, c, d, _⟩ := dif_p hS hB h
  have e := bsum_or (n := n) (de := de) d hB b n hn
  rw [a, zS, zB] at e; grind
theorem z_or {n : Nat} {de : Nat → Int32} {U V : Nat} (hn : n ≤ 6) (hU : U < 64) (hV : V < 64) (h : U &&& V = 0) (zU : bsum n de U n = 0) (zV : bsum n de V n = 0) : bsum n de (U ||| V) n = 0 := by
  rw [bsum_or hU hV h n hn, zU, zV]; rfl
-- the class' table
theorem ctab_st {n : Nat} {de t : Nat → Int32} : ∀ s S, S ≤ s → ctab n de t s S = ctab n de t S S := by
  intro s
  induction s with
  | zero => intro S h; rw [show S = 0 by omega]
  | succ s ih =>
    intro S h
    by_cases e : S = s + 1
    · rw [e]
    · rw [ctab, pk_un e]; exact ih S (by omega)
theorem mx_N {a b : Nat} (ha : a < 1000) (hb : b < 1000) : mx (nI a) (nI b) = nI (if a < b then b else a) := by
  unfold mx
  by_cases h : a < b
  · rw [if_pos ((nI_ltI (by omega) (by omega)).mpr h), if_pos h]
  · rw [if_neg (fun z => h ((nI_ltI (by omega) (by omega)).mp z)), if_neg h]
theorem cmost_N {T : Nat → Int32} {c : Nat → Nat} {S : Nat} (hT : ∀ k, k < 6 → S >>> k &&& 1 = 1 → T (S ^^^ 1 <<< k) = nI (c (S ^^^ 1 <<< k)) ∧ c (S ^^^ 1 <<< k) < 64) : ∀ m, m ≤ 6 → ∃ M : Nat, M < 64 ∧ cmost T S m = nI M ∧ (∀ k, k < m → S >>> k &&& 1 = 1 → c (S ^^^ 1 <<< k) ≤ M) ∧ (M = 0 ∨ ∃ k, k < m ∧ S >>> k &&& 1 = 1 ∧ M = c (S ^^^ 1 <<< k)) := by
  intro m
  induction m with
  | zero => intro _; exact ⟨0, by decide, rfl, fun k hk => absurd hk (Nat.not_lt_zero _), Or.inl rfl⟩
  | succ m ih =>
    intro hm
    obtain ⟨M, a, b, d, e⟩ := ih (by omega)
    rw [cmost]
    by_cases h : S >>> m &&& 1 = 1
    · obtain ⟨f, g⟩ := hT m (by omega) h
      rw [if_pos h, b, f, mx_N (by omega) (by omega)]
      refine ⟨_, by split <;> omega, rfl, fun k hk hb => ?_, ?_⟩
      · by_cases ek : k = m
        · subst ek; split <;> omega
        · have := d k (by omega) hb; split <;> omega
      · split
        · exact Or.inr ⟨m, by omega, h, rfl⟩
        · rcases e with e | ⟨k, k1, k2, k3⟩
          · exact Or.inl e
          · exact Or.inr ⟨k, by omega, k2, k3⟩
    · rw [if_neg h]
      refine ⟨M, a, b, fun k hk hb => ?_, ?_⟩
      · by_cases ek : k = m
        · subst ek; exact absurd hb h
        · exact d k (by omega) hb
      · rcases e with e | ⟨k, k1, k2, k3⟩
        · exact Or.inl e
        · exact Or.inr ⟨k, by omega, k2, k3⟩
def cN (n : Nat) (de t : Nat → Int32) (S : Nat) : Nat := cn (ctab n de t S S)
theorem cN_all {n : Nat} {de t : Nat → Int32} (hn : n ≤ 6) (ht : t 0 = nI 0) (S : Nat) : S < 64 → (ctab n de t S S = nI (cN n de t S) ∧ cN n de t S ≤ S) ∧ (¬ S = 0 → ∃ M : Nat, cN n de t S = (if bsum n de S n = 0 then M + 1 else M) ∧ (∀ k, k < n → S >>> k &&& 1 = 1 → cN n de t (S ^^^ 1 <<< k) ≤ M) ∧ (M = 0 ∨ ∃ k, k < n ∧ S >>> k &&& 1 = 1 ∧ M = cN n de t (S ^^^ 1 <<< k))) := by
  induction S using Nat.strongRecOn with
  | ind S ih =>
    intro hS
    cases S with
    | zero =>
      have e : ctab n de t 0 0 = nI 0 := ht
      have e2 : cN n de t 0 = 0 := by unfold cN; rw [e]; rfl
      exact ⟨⟨by rw [e2]; exact e, by omega⟩, fun z => absurd rfl z⟩
    | succ s =>
      obtain ⟨M, m1, m2, m3, m4⟩ := cmost_N (T := ctab n de t s) (c := cN n de t) (S := s + 1) (fun k hk hb => by
        obtain ⟨r1, r2, r3⟩ := rem_p hS hk hb
        obtain ⟨⟨i1, i2⟩, _⟩ := ih _ r1 r3
        exact ⟨(ctab_st s _ (by omega)).trans i1, by omega⟩) n hn
      have hM : M ≤ s := by
        rcases m4 with m4 | ⟨k, k1, k2, k3⟩
        · omega
        · obtain ⟨r1, r2, r3⟩ := rem_p hS (show k < 6 by omega) k2
          have := (ih _ r1 r3).1.2; omega
      have e : ctab n de t (s + 1) (s + 1) = nI (if bsum n de (s + 1) n = 0 then M + 1 else M) := by
        rw [ctab, pk_us, m2]
        split
        · rw [nI_add]
        · rfl
      have e2 : cN n de t (s + 1) = if bsum n de (s + 1) n = 0 then M + 1 else M := by
        unfold cN; rw [e]; exact cn_nI (by split <;> omega)
      exact ⟨⟨by rw [e2]; exact e, by rw [e2]; split <;> omega⟩, fun _ => ⟨M, e2, m3, m4⟩⟩
-- the model's table
theorem ptab_st {n : Nat} {de t : Nat → Int32} : ∀ s S, S ≤ s → ptab n de t s S = ptab n de t S S := by
  intro s
  induction s with
  | zero => intro S h; rw [show S = 0 by omega]
  | succ s ih =>
    intro S h
    by_cases e : S = s + 1
    · rw [e]
    · rw [ptab, pk_un e]; exact ih S (by omega)
def pI (n : Nat) (de t : Nat → Int32) (S : Nat) : Int := (ptab n de t S S).toInt
def blk (n : Nat) (de : Nat → Int32) (S o : Nat) : Prop := 1 ≤ o ∧ o &&& S = o ∧ ¬ o &&& lowb S = 0 ∧ bsum n de o n = 0
theorem pb_I {n : Nat} {de old : Nat → Int32} {p : Nat → Int} {S : Nat} (hS : S < 64) (ho : ∀ o, 1 ≤ o → o < 64 → o &&& S = o → (old (dif S o)).toInt = p (dif S o) ∧ -99 ≤ p (dif S o) ∧ p (dif S o) < S) : ∀ m, m ≤ S → (-99 ≤ (pb n de old S m).toInt ∧ (pb n de old S m).toInt ≤ S) ∧ (∀ o, o ≤ m → blk n de S o → p (dif S o) + 1 ≤ (pb n de old S m).toInt) ∧ ((pb n de old S m).toInt = -99 ∨ ∃ o, o ≤ m ∧ blk n de S o ∧ (pb n de old S m).toInt = p (dif S o) + 1) := by
  intro m
  induction m with
  | zero =>
    intro _
    have e : (pb n de old S 0).toInt = -99 := by show (-99 : Int32).toInt = -99; decide
    exact ⟨⟨by omega, by omega⟩, fun o h1 h2 => by have := h2.1; omega, Or.inl e⟩
  | succ m ih =>
    intro hm
    obtain ⟨⟨a1, a2⟩, a3, a4⟩ := ih (by omega)
    rw [pb]
    by_cases hc : (m + 1) &&& (63 ^^^ S) = 0 ∧ ¬ (m + 1) &&& lowb S = 0 ∧ bsum n de (m + 1) n = 0
    · have hs := (sub_iff (show m + 1 < 64 by omega) hS).mp hc.1
      have hb : blk n de S (m + 1) := ⟨by omega, hs, hc.2.1, hc.2.2⟩
      obtain ⟨d1, d2, d3, d4, d5, d6⟩ := dif_p hS (show m + 1 < 64 by omega) hs
      have d7 := d6 (by omega)
      obtain ⟨o1, o2, o3⟩ := ho (m + 1) (by omega) (by omega) hs
      have ev : upd old S (pb n de old S m) (S &&& (63 ^^^ (m + 1))) = old (dif S (m + 1)) := pk_un (show ¬ dif S (m + 1) = S by omega)
      have e1 : (nI 1).toInt = 1 := nI_toInt (by decide)
      have e2 : (old (dif S (m + 1)) + nI 1).toInt = p (dif S (m + 1)) + 1 := by rw [i_add (by omega) (by omega), o1, e1]
      rw [if_pos hc, ev]
      by_cases hl : pb n de old S m < old (dif S (m + 1)) + nI 1
      · have hl2 := Int32.lt_iff_toInt_lt.mp hl
        rw [if_pos hl, e2]
        rw [e2] at hl2
        refine ⟨⟨by omega, by omega⟩, fun o h1 h2 => ?_, Or.inr ⟨m + 1, Nat.le_refl _, hb, rfl⟩⟩
        by_cases eo : o = m + 1
        · subst eo; omega
        · have := a3 o (by omega) h2; omega
      · have hl2 : ¬ (pb n de old S m).toInt < (old (dif S (m + 1)) + nI 1).toInt := fun z => hl (Int32.lt_iff_toInt_lt.mpr z)
        rw [if_neg hl]
        rw [e2] at hl2
        refine ⟨⟨a1, a2⟩, fun o h1 h2 => ?_, ?_⟩
        · by_cases eo : o = m + 1
          · subst eo; omega
          · exact a3 o (by omega) h2
        · rcases a4 with a4 | ⟨o, b1, b2, b3⟩
          · exact Or.inl a4
          · exact Or.inr ⟨o, by omega, b2, b3⟩
    · rw [if_neg hc]
      refine ⟨⟨a1, a2⟩, fun o h1 h2 => ?_, ?_⟩
      · by_cases eo : o = m + 1
        · subst eo
          exact absurd ⟨(sub_iff (by omega) hS).mpr h2.2.1, h2.2.2.1, h2.2.2.2⟩ hc
        · exact a3 o (by omega) h2
      · rcases a4 with a4 | ⟨o, b1, b2, b3⟩
        · exact Or.inl a4
        · exact Or.inr ⟨o, by omega, b2, b3⟩
theorem pI_all {n : Nat} {de t : Nat → Int32} (S : Nat) : S < 64 → (-99 ≤ pI n de t S ∧ pI n de t S ≤ S) ∧ (¬ S = 0 → (∀ o, blk n de S o → o < 64 → pI n de t (dif S o) + 1 ≤ pI n de t S) ∧ (pI n de t S = -99 ∨ ∃ o, o < 64 ∧ blk n de S o ∧ pI n de t S = pI n de t (dif S o) + 1)) := by
  induction S using Nat.strongRecOn with
  | ind S ih =>
    intro hS
    cases S with
    | zero =>
      have e : pI n de t 0 = 0 := by unfold pI; rw [ptab, pk_us]; exact nI_toInt (by decide)
      exact ⟨⟨by omega, by omega⟩, fun z => absurd rfl z⟩
    | succ s =>
      have e : ptab n de t (s + 1) (s + 1) = pb n de (ptab n de t s) (s + 1) (s + 1) := by rw [ptab, pk_us]
      have e2 : pI n de t (s + 1) = (pb n de (ptab n de t s) (s + 1) (s + 1)).toInt := by unfold pI; rw [e]
      obtain ⟨⟨a1, a2⟩, a3, a4⟩ := pb_I (n := n) (de := de) (old := ptab n de t s) (p := pI n de t) (S := s + 1) hS (fun o h1 h2 h3 => by
        obtain ⟨d1, d2, d3, d4, d5, d6⟩ := dif_p hS h2 h3
        have d7 := d6 (by omega)
        have i := (ih _ d7 d4).1
        refine ⟨?_, by omega, by omega⟩
        rw [ptab_st s _ (by omega)]; rfl) (s + 1) (Nat.le_refl _)
      rw [e2]
      refine ⟨⟨a1, by omega⟩, fun _ => ⟨fun o h1 h2 => ?_, ?_⟩⟩
      · have ho : o ≤ s + 1 := by rw [← h1.2.1]; exact Nat.and_le_right
        exact a3 o ho h1
      · rcases a4 with a4 | ⟨o, b1, b2, b3⟩
        · exact Or.inl a4
        · exact Or.inr ⟨o, by omega, b2, b3⟩
theorem pI_0 {n : Nat} {de t : Nat → Int32} : pI n de t 0 = 0 := by unfold pI; rw [ptab, pk_us]; exact nI_toInt (by decide)
/-- a set that balances by itself is a block -/
theorem blk_self {n : Nat} {de : Nat → Int32} {S : Nat} (hS : S < 64) (h0 : ¬ S = 0) (hz : bsum n de S n = 0) : blk n de S S ∧ dif S S = 0 := by
  refine ⟨⟨by omega, Nat.and_self S, low_in hS h0, hz⟩, ?_⟩
  have : ∀ S : Fin 64, dif S.val S.val = 0 := by decide +kernel
  exact this ⟨S, hS⟩
theorem pI_pos {n : Nat} {de t : Nat → Int32} {S : Nat} (hS : S < 64) (h0 : ¬ S = 0) (hz : bsum n de S n = 0) : 1 ≤ pI n de t S := by
  obtain ⟨b, e⟩ := blk_self hS h0 hz
  have := ((pI_all (n := n) (de := de) (t := t) S hS).2 h0).1 S b hS
  rw [e, pI_0] at this; omega
theorem cN_mono {n : Nat} {de t : Nat → Int32} (hn : n ≤ 6) (ht : t 0 = nI 0) (S : Nat) : S < 1 <<< n → ∀ T, T < 64 → T &&& S = T → cN n de t T ≤ cN n de t S := by
  induction S using Nat.strongRecOn with
  | ind S ih =>
    intro hS T hT hs
    have hS6 : S < 64 := Nat.lt_of_lt_of_le hS (shl_lt hn)
    by_cases e : T = S
    · rw [e]; exact Nat.le_refl _
    · obtain ⟨k, k1, k2, k3⟩ := ex_bit hT hS6 hs e
      obtain ⟨r1, r2, r3⟩ := rem_p hS6 k1 k2
      have i := ih _ r1 (by omega) T hT (sub_rem hT hS6 k1 hs k2 k3)
      obtain ⟨M, m1, m2, m3⟩ := (cN_all (n := n) (de := de) (t := t) hn ht S hS6).2 (by omega)
      have := m2 k (bit_lt hn hS k1 k2) k2
      rw [m1]; split <;> omega
theorem pc_le {n : Nat} {de t t2 : Nat → Int32} (hn : n ≤ 6) (ht : t 0 = nI 0) (S : Nat) : S < 1 <<< n → ¬ S = 0 → bsum n de S n = 0 → pI n de t2 S ≤ cN n de t S := by
  induction S using Nat.strongRecOn with
  | ind S ih =>
    intro hS h0 hz
    have hS6 : S < 64 := Nat.lt_of_lt_of_le hS (shl_lt hn)
    rcases ((pI_all (n := n) (de := de) (t := t2) S hS6).2 h0).2 with h | ⟨o, o1, o2, o3⟩
    · omega
    · obtain ⟨d1, d2, d3, d4, d5, d6⟩ := dif_p hS6 o1 o2.2.1
      have d7 := d6 (by have := o2.1; omega)
      obtain ⟨M, m1, m2, m3⟩ := (cN_all (n := n) (de := de) (t := t) hn ht S hS6).2 h0
      rw [if_pos hz] at m1
      obtain ⟨k, k1, k2, k3⟩ := ex_bit d4 hS6 d3 (by omega)
      have hm := m2 k (bit_lt hn hS k1 k2) k2
      obtain ⟨r1, r2, r3⟩ := rem_p hS6 k1 k2
      have hmo := cN_mono (n := n) (de := de) (t := t) hn ht (S ^^^ 1 <<< k) (by omega) (dif S o) d4 (sub_rem d4 hS6 k1 d3 k2 k3)
      by_cases e : dif S o = 0
      · rw [e, pI_0] at o3; omega
      · have i := ih _ d7 (by omega) e (z_dif hn hS6 o1 o2.2.1 hz o2.2.2.2)
        omega
theorem pI_uv {n : Nat} {de t : Nat → Int32} (hn : n ≤ 6) (U : Nat) : U < 64 → ∀ V, V < 64 → U &&& V = 0 → ¬ V = 0 → bsum n de U n = 0 → bsum n de V n = 0 → pI n de t U + 1 ≤ pI n de t (U ||| V) := by
  induction U using Nat.strongRecOn with
  | ind U ih =>
    intro hU V hV hd h0 zU zV
    obtain ⟨u1, u2, u3, u4, u5⟩ := or_uv hU hV hd
    have u6 := u5 h0
    have hne : ¬ U ||| V = 0 := by omega
    have P := (pI_all (n := n) (de := de) (t := t) (U ||| V) u1).2 hne
    rcases low_uv hU hV hd h0 with hl | ⟨hU0, hl⟩
    · have := P.1 V ⟨by omega, u3, hl, zV⟩ hV
      rw [u4] at this; exact this
    · rcases ((pI_all (n := n) (de := de) (t := t) U hU).2 hU0).2 with h | ⟨o, o1, o2, o3⟩
      · have := pI_pos (t := t) u1 hne (z_or hn hU hV hd zU zV); omega
      · obtain ⟨d1, d2, d3, d4, d5, d6⟩ := dif_p hU o1 o2.2.1
        have d7 := d6 (by have := o2.1; omega)
        have hoV : o &&& V = 0 := by
          rw [← o2.2.1, Nat.and_assoc, hd, Nat.and_zero]
        have hdV : dif U o &&& V = 0 := by
          unfold dif; rw [Nat.and_assoc, Nat.and_comm (63 ^^^ o), ← Nat.and_assoc, hd, Nat.zero_and]
        have i := ih _ d7 d4 V hV hdV h0 (z_dif hn hU o1 o2.2.1 zU o2.2.2.2) zV
        have hVo : dif V o = V := by
          have : ∀ V o : Fin 64, o.val &&& V.val = 0 → dif V.val o.val = V.val := by decide +kernel
          exact this ⟨V, hV⟩ ⟨o, o1⟩ hoV
        have hdd : dif (U ||| V) o = dif U o ||| V := by
          have : dif (U ||| V) o = dif U o ||| dif V o := by unfold dif; exact Nat.and_or_distrib_right ..
          rw [this, hVo]
        have hou : o &&& (U ||| V) = o := by rw [Nat.and_or_distrib_left, o2.2.1, hoV, Nat.or_zero]
        have h9 := P.1 o ⟨o2.1, hou, by rw [hl]; exact o2.2.2.1, o2.2.2.2⟩ o1
        rw [hdd] at h9; omega
theorem cN_z {n : Nat} {de t : Nat → Int32} (hn : n ≤ 6) (ht : t 0 = nI 0) (T : Nat) : T < 64 → (cN n de t T = 0 ∨ ∃ Z, Z < 64 ∧ Z &&& T = Z ∧ Z ≤ T ∧ ¬ Z = 0 ∧ bsum n de Z n = 0 ∧ cN n de t Z = cN n de t T) := by
  induction T using Nat.strongRecOn with
  | ind T ih =>
    intro hT
    by_cases h0 : T = 0
    · subst h0; exact Or.inl (by have := (cN_all (n := n) (de := de) (t := t) hn ht 0 hT).1.2; omega)
    · by_cases hz : bsum n de T n = 0
      · exact Or.inr ⟨T, hT, Nat.and_self T, Nat.le_refl _, h0, hz, rfl⟩
      · obtain ⟨M, m1, m2, m3⟩ := (cN_all (n := n) (de := de) (t := t) hn ht T hT).2 h0
        rw [if_neg hz] at m1
        rcases m3 with m3 | ⟨k, k1, k2, k3⟩
        · exact Or.inl (by omega)
        · obtain ⟨r1, r2, r3⟩ := rem_p hT (show k < 6 by omega) k2
          rcases ih _ r1 r3 with i | ⟨Z, z1, z2, z3, z4, z5, z6⟩
          · exact Or.inl (by omega)
          · refine Or.inr ⟨Z, z1, ?_, by omega, z4, z5, by omega⟩
            rw [← z2, Nat.and_assoc, r2]
theorem cp_le {n : Nat} {de t t2 : Nat → Int32} (hn : n ≤ 6) (ht : t 0 = nI 0) (S : Nat) : S < 1 <<< n → ¬ S = 0 → bsum n de S n = 0 → (cN n de t S : Int) ≤ pI n de t2 S := by
  induction S using Nat.strongRecOn with
  | ind S ih =>
    intro hS h0 hz
    have hS6 : S < 64 := Nat.lt_of_lt_of_le hS (shl_lt hn)
    have hpos := pI_pos (t := t2) hS6 h0 hz
    obtain ⟨M, m1, m2, m3⟩ := (cN_all (n := n) (de := de) (t := t) hn ht S hS6).2 h0
    rw [if_pos hz] at m1
    rcases m3 with m3 | ⟨k, k1, k2, k3⟩
    · omega
    · obtain ⟨r1, r2, r3⟩ := rem_p hS6 (show k < 6 by omega) k2
      rcases cN_z (n := n) (de := de) (t := t) hn ht _ r3 with i | ⟨Z, z1, z2, z3, z4, z5, z6⟩
      · omega
      · have hZS : Z &&& S = Z := by rw [← z2, Nat.and_assoc, r2]
        obtain ⟨d1, d2, d3, d4, d5, d6⟩ := dif_p hS6 z1 hZS
        have i := ih Z (by omega) (by omega) z4 z5
        have hV0 : ¬ dif S Z = 0 := fun q => by
          rw [q, Nat.zero_or] at d1; omega
        have h9 := pI_uv (t := t2) hn Z z1 (dif S Z) d4 (by rw [Nat.and_comm]; exact d2) hV0 z5 (z_dif hn hS6 z1 hZS hz z5)
        rw [Nat.or_comm, d1] at h9
        omega
-- all together balance
theorem isum_add {f g : Nat → Int32} : ∀ k, isum (fun i => f i + g i) k = isum f k + isum g k := by
  intro k
  induction k with
  | zero => rfl
  | succ k ih => rw [isum, isum, isum, ih]; grind
theorem isum_sub {f g : Nat → Int32} : ∀ k, isum (fun i => f i - g i) k = isum f k - isum g k := by
  intro k
  induction k with
  | zero => show (0 : Int32) = 0 - 0; decide
  | succ k ih => rw [isum, isum, isum, ih]; grind
theorem isum_0 : ∀ k, isum (fun _ => (0 : Int32)) k = 0 := by
  intro k
  induction k with
  | zero => rfl
  | succ k ih => rw [isum, ih]; rfl
theorem isum_swap {f : Nat → Nat → Int32} {b : Nat} : ∀ a, isum (fun p => isum (fun q => f p q) b) a = isum (fun q => isum (fun p => f p q) a) b := by
  intro a
  induction a with
  | zero => rw [isum]; exact (isum_0 b).symm
  | succ a ih =>
    rw [isum, ih]
    rw [show (fun q => isum (fun p => f p q) (a + 1)) = fun q => isum (fun p => f p q) a + f a q from rfl, isum_add]
theorem osum_i {de : Nat → Int32} {p : Nat} : ∀ k, osum de p k = isum (fun q => de (6 * p + q)) k := by
  intro k
  induction k with
  | zero => rfl
  | succ k ih => rw [osum, isum, ih]
theorem dsum_i {de : Nat → Int32} {p : Nat} : ∀ k, dsum de 0 p k = isum (fun q => de (6 * q + p)) k := by
  intro k
  induction k with
  | zero => rfl
  | succ k ih => rw [dsum, if_pos (by rw [Nat.zero_shiftRight]; rfl), isum, ih]
theorem full_bit {n k : Nat} (hn : n ≤ 6) (hk : k < n) : (1 <<< n - 1) >>> k &&& 1 = 1 := by
  have : ∀ n : Fin 7, ∀ k : Fin 6, k.val < n.val → (1 <<< n.val - 1) >>> k.val &&& 1 = 1 := by decide +kernel
  exact this ⟨n, by omega⟩ ⟨k, by omega⟩ hk
theorem bsum_full {n : Nat} {de : Nat → Int32} (hn : n ≤ 6) : ∀ m, m ≤ n → bsum n de (1 <<< n - 1) m = isum (fun k => bal n de k) m := by
  intro m
  induction m with
  | zero => intro _; rfl
  | succ m ih => intro h; rw [bsum, if_pos (full_bit hn (by omega)), isum, ih (by omega)]
theorem full_z {n : Nat} {de : Nat → Int32} (hn : n ≤ 6) : bsum n de (1 <<< n - 1) n = 0 := by
  rw [bsum_full hn n (Nat.le_refl _)]
  rw [show (fun k => bal n de k) = fun k => isum (fun q => de (6 * q + k)) n - isum (fun q => de (6 * k + q)) n from funext fun k => by unfold bal; rw [dsum_i, osum_i], isum_sub, isum_swap (f := fun k q => de (6 * q + k))]
  grind
theorem join_pay {n : Nat} {de t t2 : Nat → Int32} (hn : n ≤ 6) (ht : t 0 = nI 0) : ctab n de t (1 <<< n - 1) (1 <<< n - 1) = ptab n de t2 (1 <<< n - 1) (1 <<< n - 1) := by
  have h1 := shl_lt hn; have h2 := shl_pos n
  by_cases h0 : 1 <<< n - 1 = 0
  · rw [h0]; show t 0 = upd t2 0 (nI 0) 0; rw [pk_us]; exact ht
  · have hz := full_z (n := n) (de := de) hn
    have a := pc_le (t2 := t2) hn ht (1 <<< n - 1) (by omega) h0 hz
    have b := cp_le (t2 := t2) hn ht (1 <<< n - 1) (by omega) h0 hz
    obtain ⟨⟨c1, c2⟩, _⟩ := cN_all (n := n) (de := de) (t := t) hn ht (1 <<< n - 1) (by omega)
    refine Int32.toInt_inj.mp ?_
    rw [c1, nI_toInt (by omega)]
    show _ = pI n de t2 (1 <<< n - 1)
    omega
