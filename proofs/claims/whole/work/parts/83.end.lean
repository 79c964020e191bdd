/-! THE LAW'S RUN AS THE CLAIM WANTS IT -/
theorem room_less {s : State} {pl : Platform} {r r' : Room} (hf : r.frames ≤ r'.frames) (hl : r.locals ≤ r'.locals) (hc : r.cells ≤ r'.cells) (hs : r.slots ≤ r'.slots) (h : s.hasRoom pl r' = true) : s.hasRoom pl r = true := by
  simp only [State.hasRoom, Bool.and_eq_true, decide_eq_true_eq] at h ⊢
  obtain ⟨⟨⟨⟨y, a, b, c, d, e⟩, f⟩, g⟩, i⟩ := h
  exact ⟨⟨⟨⟨by omega, by omega, by omega, by omega, by omega, e⟩, by omega⟩, by omega⟩, i⟩
theorem same_drop {s t : State} {Ls : List Loc} {k n k2 n2 : Nat} (h : s.sameButNew t Ls k n) (hL : ∀ q ∈ Ls, s.heap.size ≤ q.base) (hk : k ≤ k2) (hn : n ≤ n2) : s.sameButNew t [] k2 n2 := by
  obtain ⟨h1, h2, h3, h4, h5, h6⟩ := h
  refine ⟨h1, h2, by omega, h4, by omega, fun a c hc => ?_⟩
  obtain ⟨c', g1, g2, g3, g4⟩ := h6 a c hc
  refine ⟨c', g1, g2, g3, fun i _ => g4 i (fun hm => ?_)⟩
  have z1 := hL _ hm
  have z2 := (Array.getElem?_eq_some_iff.mp hc).1
  have z3 : s.heap.size ≤ a := z1
  omega
theorem law_W {p : Program} {e : Env} {s : State} {m : MethodId} {below : List Frame} {meth : Method} {c : Code} (X : Xn) {b L : Nat} {xs : Nat → Int32} (hL : L ≤ 3072) (hcx : Cx X M_Law_law p s m #[.ref b] meth c (fun q => s.heap.size ≤ q)) (hsc : va_T .int b L (fun q => .int (xs q)) (fun q => s.heap.size ≤ q) s s.heap) : W p X.1 e room_1 s m #[Value.ref b] below meth c s.heap [] 0 0 (fun t => ∃ o, t.status = .running ∧ Ended t below o ∧ o = .returned (some (.int 1)) ∧ Framed s o t [] 600000 7302250) (entryFrame m ([Value.ref b] : List Value).toArray 4) := by
  intro T hT XT
  have hl := lv_entry [Value.ref b] (n := 4) (Nat.le_of_ble_eq_true rfl)
  have XR : Stand p X.1 e (Xrm 62 115 7510) s m #[Value.ref b] below meth c T [] 0 0 := { XT with room := room_less (by decide) (by decide) (by decide) (by decide) XT.room }
  have hls : Xhas ((lg_sl [Value.ref b] ++ List.replicate (4 - (lg_sl [Value.ref b]).length) Slot.unset).toArray) M_Law_law.2.2.1 [some (.ref b), none, none, none] := by
    refine ⟨hl.1, hl.2.1, fun i v hi => hl.2.2 (i, v) ?_⟩
    match i, hi with
    | 0, hi => cases hi; exact List.mem_cons_self
    | 1, hi => cases hi
    | 2, hi => cases hi
    | 3, hi => cases hi
    | i + 4, hi => cases hi
  obtain ⟨t, st, o, h1, h2, ⟨⟨v, w, ho, hv, -⟩, -⟩, Ls, ⟨hret, hW, hsame⟩, hfree⟩ := law_runs X (sb := b) (xs := xs) hL p e s m #[Value.ref b] below meth c (fun q => s.heap.size ≤ q) s.heap [] _ hcx ⟨fun k q hk => by simp at hk, ⟨fun i j p q hi => by simp at hi, fun k q hk => by simp at hk⟩, va_S.rf⟩ hls hsc T hT XR
  rw [lg_entry_eq]
  have ho2 : o = .returned (some (.int 1)) := by rw [ho, show v = some (.int 1) from hv]
  exact ⟨t, st, o, h1, h2, ho2, ⟨_, ho2⟩, hW, same_drop hsame hfree (by decide) (by decide)⟩
