/-! THE LAW: a call over a middle part of the world -/
theorem mid_C : ∀ (wc pre post : va_W), (List.range' pre.length wc.length).map (fun i => (pre ++ (wc ++ post))[i]?) = wc.map some
  | [], _, _ => rfl
  | c :: wc, pre, post => by
    have h := mid_C wc (pre ++ [c]) post
    have e : pre ++ [c] ++ (wc ++ post) = pre ++ (c :: wc ++ post) := by simp
    rw [e, List.length_append] at h
    rw [List.length_cons, List.range'_succ, List.map_cons, List.map_cons, show pre.length + 1 = pre.length + [c].length from rfl, h, List.getElem?_append_right (Nat.le_refl _), Nat.sub_self]
    rfl
theorem mid_put : ∀ (wc w1 pre post : va_W), w1.length = wc.length → Xput (pre ++ (wc ++ post)) (List.range' pre.length wc.length) w1 = pre ++ (w1 ++ post)
  | [], [], _, _, _ => rfl
  | [], _ :: _, _, _, h => by cases h
  | _ :: _, [], _, _, h => by cases h
  | c :: wc, q :: w1, pre, post, h => by
    have h := mid_put wc w1 (pre ++ [q]) post (Nat.succ.inj h)
    have e1 : pre ++ [q] ++ (w1 ++ post) = pre ++ (q :: w1 ++ post) := by simp
    have e2 : (pre ++ (c :: wc ++ post)).set pre.length q = pre ++ [q] ++ (wc ++ post) := by
      rw [List.set_append_right _ _ (Nat.le_refl _), Nat.sub_self]; simp
    rw [e1, List.length_append] at h
    rw [List.length_cons, List.range'_succ, Xput, e2]
    exact h
theorem mid_nd (n k : Nat) : va_nd (List.range' n k) = true := Xnd_of _ List.nodup_range'
theorem law_cm {X : Xn} {sb L : Nat} {xs : Nat → Int32} {Q : Option Value → va_W → Prop} {pc : Nat} {ls : List (Option Value)} {rest st : List Value} {M2 : XM} {ix np d2 : Nat} {As : List Value} {Q1 : Option Value → va_W → Prop} {b : Nat} {pre wc post : va_W} {ci : Nat} {fs : List Value} {T0 : u_T} {N0 : Nat} (hlk : LVt M2 np) (hln : Cond.methodLink "HandshakeBindsLaw" ix M2.1 ∈ TB) (hM : Does X d2 M2 (.ref b :: As) wc 0 0 Q1) (hd2 : d2 ≤ 60) (hnp : As.length = np) (hst : As.reverse ++ .ref b :: rest = st) (hcat : (rest.map fun v => v.category).sum ≤ 8) (hci : CLS[ci]? = some (M2.1.cls, T0, N0)) (hrc : wc[0]? = some (b, .inr (ci, fs))) (hQ : ∀ v w, Q1 v w → w.map Prod.fst = wc.map Prod.fst) (pc2 : Nat) (hp : pc + 3 = pc2) (hd : decode code pc = .ok (.invokevirtual ix, 3)) (kk : ∀ v w', Q1 v w' → w'.map Prod.fst = wc.map Prod.fst → RunsS X sb L xs 62 M_Law_law 115 7510 Q pc2 ls (v.toList ++ rest) 115 7510 (pre ++ (w' ++ post))) : RunsS X sb L xs 62 M_Law_law 115 7510 Q pc ls st 115 7510 (pre ++ (wc ++ post)) := by
  refine s_callVQ (st2 := []) (w2 := []) hlk hln hM (by omega) hnp hst hcat (Nat.le_refl _) (Nat.le_refl _) (List.range' pre.length wc.length) (mid_C wc pre post) (mid_nd _ _) 0 hci hrc pc2 hp hd (fun v w' q => ⟨hQ v w' q, ?_⟩)
  have hl : w'.length = wc.length := by have := congrArg List.length (hQ v w' q); simpa using this
  rw [mid_put wc w' pre post hl]
  exact kk v w' q (hQ v w' q)
/-- the state of the law between two words of the script -/
def LK (X : Xn) (Q : Option Value → va_W → Prop) (sb L : Nat) (xs : Nat → Int32) (a b : Nat → Nat) (i pc : Nat) : Prop := ∀ (ν : Nat → Nat → Nat) (σ : Nat → Nat → Int32) (τ : Nat → Nat → Int64) (νm : Nat → Nat) (σm : Nat → Nat → Int32) (τm : Nat → Int64), REL ν σ τ νm σm τm → RunsS X sb L xs 62 M_Law_law 115 7510 Q pc [some (.ref sb), some (.ref (a 0)), some (.ref (b 0)), some (.int (nI i))] [] 115 7510 (CW X a ν σ τ ++ MW X b νm σm τm)
theorem CW_0 {X : Xn} {a : Nat → Nat} {ν : Nat → Nat → Nat} {σ : Nat → Nat → Int32} {τ : Nat → Nat → Int64} : ∃ fs, (CW X a ν σ τ)[0]? = some (a 0, .inr (0, fs)) := ⟨_, rfl⟩
theorem MW_0 {X : Xn} {b νm : Nat → Nat} {σm : Nat → Nat → Int32} {τm : Nat → Int64} : ∃ fs, (MW X b νm σm τm)[0]? = some (b 0, .inr (9, fs)) := ⟨_, rfl⟩
/-- both calls of a case that answers an int: from the first call on; the second's arguments are loaded between (hmid) -/
theorem law_pair {X : Xn} {Q : Option Value → va_W → Prop} {sb L : Nat} {xs : Nat → Int32} {a b : Nat → Nat} {i : Nat} {M1 M2 : XM} {np : Nat} {as st : List Value} {ix1 ix2 : Nat} {N1 N2 : Nat} {T1 T2 : u_T} {off : Int} (hp : PairI X M1 M2 as) (hl1 : LVt M1 np) (hl2 : LVt M2 np) (hk1 : Cond.methodLink "HandshakeBindsLaw" ix1 M1.1 ∈ TB) (hk2 : Cond.methodLink "HandshakeBindsLaw" ix2 M2.1 ∈ TB) (hnp : as.length = np) (hc1 : CLS[0]? = some (M1.1.cls, T1, N1)) (hc2 : CLS[9]? = some (M2.1.cls, T2, N2)) (p1 p1' p2 p2' : Nat) (e1 : p1 + 3 = p1') (e2 : p2 + 3 = p2') (hd1 : decode code p1 = .ok (.invokevirtual ix1, 3)) (hd2 : decode code p2 = .ok (.invokevirtual ix2, 3)) (hd3 : decode code p2' = .ok (.if_icmp .eq off, 3)) (ht : (p2' : Int) + off = ((1302 : Nat) : Int)) (hst : as.reverse ++ [.ref (a 0)] = st)
    (hmid : ∀ (r : Int32) (w : va_W), RunsS X sb L xs 62 M_Law_law 115 7510 Q p2 [some (.ref sb), some (.ref (a 0)), some (.ref (b 0)), some (.int (nI i))] (as.reverse ++ .ref (b 0) :: [.int r]) 115 7510 w → RunsS X sb L xs 62 M_Law_law 115 7510 Q p1' [some (.ref sb), some (.ref (a 0)), some (.ref (b 0)), some (.int (nI i))] [.int r] 115 7510 w)
    (kk : LK X Q sb L xs a b i 1302) : ∀ (ν : Nat → Nat → Nat) (σ : Nat → Nat → Int32) (τ : Nat → Nat → Int64) (νm : Nat → Nat) (σm : Nat → Nat → Int32) (τm : Nat → Int64), REL ν σ τ νm σm τm → RunsS X sb L xs 62 M_Law_law 115 7510 Q p1 [some (.ref sb), some (.ref (a 0)), some (.ref (b 0)), some (.int (nI i))] st 115 7510 (CW X a ν σ τ ++ MW X b νm σm τm) := by
  intro ν σ τ νm σm τm h
  obtain ⟨d1, d2, Q1, Q2, k1, k2, D1, D2, f1, f2, hj⟩ := hp a ν σ τ b νm σm τm h
  obtain ⟨fs1, z1⟩ := CW_0 (X := X) (a := a) (ν := ν) (σ := σ) (τ := τ)
  obtain ⟨fs2, z2⟩ := MW_0 (X := X) (b := b) (νm := νm) (σm := σm) (τm := τm)
  refine law_cm (pre := []) (rest := []) hl1 hk1 D1 k1 hnp hst (Nat.zero_le _) hc1 z1 (fun v w q => (f1 v w q).2) p1' e1 hd1 (fun v1 w1 q1 g1 => ?_)
  obtain ⟨⟨r, rfl⟩, -⟩ := f1 v1 w1 q1
  refine hmid r (w1 ++ MW X b νm σm τm) ?_
  have key : RunsS X sb L xs 62 M_Law_law 115 7510 Q p2 [some (.ref sb), some (.ref (a 0)), some (.ref (b 0)), some (.int (nI i))] (as.reverse ++ .ref (b 0) :: [.int r]) 115 7510 (w1 ++ (MW X b νm σm τm ++ [])) := by
    refine law_cm (rest := [.int r]) hl2 hk2 D2 k2 hnp rfl (by show (1 : Nat) ≤ 8; omega) hc2 z2 f2 p2' e2 hd2 (fun v2 w2 q2 g2 => ?_)
    obtain ⟨rfl, ν', σ', τ', νm', σm', τm', rfl, rfl, hR⟩ := hj _ _ _ _ q1 q2
    refine s_icmp_eq_t 1302 ht hd3 rfl ?_
    have := kk ν' σ' τ' νm' σm' τm' hR
    rw [List.append_nil]; exact this
  rw [List.append_nil] at key; exact key
theorem law_pairL {X : Xn} {Q : Option Value → va_W → Prop} {sb L : Nat} {xs : Nat → Int32} {a b : Nat → Nat} {i : Nat} {M1 M2 : XM} {np : Nat} {as st : List Value} {ix1 ix2 : Nat} {N1 N2 : Nat} {T1 T2 : u_T} {off : Int} (hp : PairL X M1 M2 as) (hl1 : LVt M1 np) (hl2 : LVt M2 np) (hk1 : Cond.methodLink "HandshakeBindsLaw" ix1 M1.1 ∈ TB) (hk2 : Cond.methodLink "HandshakeBindsLaw" ix2 M2.1 ∈ TB) (hnp : as.length = np) (hc1 : CLS[0]? = some (M1.1.cls, T1, N1)) (hc2 : CLS[9]? = some (M2.1.cls, T2, N2)) (p1 p1' p2 p2' : Nat) (e1 : p1 + 3 = p1') (e2 : p2 + 3 = p2') (hd1 : decode code p1 = .ok (.invokevirtual ix1, 3)) (hd2 : decode code p2 = .ok (.invokevirtual ix2, 3)) (hd3 : decode code p2' = .ok (.lcmp, 1)) (hd4 : decode code (p2' + 1) = .ok (.ifCond .eq off, 3)) (ht : ((p2' + 1 : Nat) : Int) + off = ((1302 : Nat) : Int)) (hst : as.reverse ++ [.ref (a 0)] = st)
    (hmid : ∀ (r : Int64) (w : va_W), RunsS X sb L xs 62 M_Law_law 115 7510 Q p2 [some (.ref sb), some (.ref (a 0)), some (.ref (b 0)), some (.int (nI i))] (as.reverse ++ .ref (b 0) :: [.long r]) 115 7510 w → RunsS X sb L xs 62 M_Law_law 115 7510 Q p1' [some (.ref sb), some (.ref (a 0)), some (.ref (b 0)), some (.int (nI i))] [.long r] 115 7510 w)
    (kk : LK X Q sb L xs a b i 1302) : ∀ (ν : Nat → Nat → Nat) (σ : Nat → Nat → Int32) (τ : Nat → Nat → Int64) (νm : Nat → Nat) (σm : Nat → Nat → Int32) (τm : Nat → Int64), REL ν σ τ νm σm τm → RunsS X sb L xs 62 M_Law_law 115 7510 Q p1 [some (.ref sb), some (.ref (a 0)), some (.ref (b 0)), some (.int (nI i))] st 115 7510 (CW X a ν σ τ ++ MW X b νm σm τm) := by
  intro ν σ τ νm σm τm h
  obtain ⟨d1, d2, r, k1, k2, D1, D2⟩ := hp a ν σ τ b νm σm τm h
  obtain ⟨fs1, z1⟩ := CW_0 (X := X) (a := a) (ν := ν) (σ := σ) (τ := τ)
  obtain ⟨fs2, z2⟩ := MW_0 (X := X) (b := b) (νm := νm) (σm := σm) (τm := τm)
  refine law_cm (pre := []) (rest := []) hl1 hk1 D1 k1 hnp hst (Nat.zero_le _) hc1 z1 (fun v w q => by rw [q.2]) p1' e1 hd1 (fun v1 w1 q1 g1 => ?_)
  obtain ⟨rfl, rfl⟩ := q1
  refine hmid r (CW X a ν σ τ ++ MW X b νm σm τm) ?_
  have key : RunsS X sb L xs 62 M_Law_law 115 7510 Q p2 [some (.ref sb), some (.ref (a 0)), some (.ref (b 0)), some (.int (nI i))] (as.reverse ++ .ref (b 0) :: [.long r]) 115 7510 (CW X a ν σ τ ++ (MW X b νm σm τm ++ [])) := by
    refine law_cm (rest := [.long r]) hl2 hk2 D2 k2 hnp rfl (by show (2 : Nat) ≤ 8; omega) hc2 z2 (fun v w q => by rw [q.2]) p2' e2 hd2 (fun v2 w2 q2 g2 => ?_)
    obtain ⟨rfl, rfl⟩ := q2
    refine s_lcmp (p2' + 1) rfl hd3 ?_
    refine s_if_eq_t 1302 ht hd4 ((lg_cmp_eq _ _).mpr rfl) ?_
    have := kk ν σ τ νm σm τm h
    rw [List.append_nil]; exact this
  rw [List.append_nil] at key; exact key
