/-! putting cells back in one pass -/
def mrg : Nat → va_W → List Nat → va_W → va_W
  | i, x :: xs, j :: js, q :: qs => if i = j then q :: mrg (i + 1) xs js qs else x :: mrg (i + 1) xs (j :: js) (q :: qs)
  | _, xs, _, _ => xs
def asc : Nat → List Nat → Bool
  | _, [] => true
  | o, i :: is => Nat.ble o i && asc (i + 1) is
theorem asc_le : ∀ (is : List Nat) (o p : Nat), o ≤ p → asc p is = true → asc o is = true
  | [], _, _, _, _ => rfl
  | i :: is, o, p, h, h2 => by
    simp only [asc, Bool.and_eq_true, Nat.ble_eq] at h2 ⊢
    exact ⟨Nat.le_trans h h2.1, h2.2⟩
theorem Xput_cons (o : Nat) : ∀ (is : List Nat) (qs : va_W) (y : Nat × va_E) (ys : va_W), asc (o + 1) is = true → Xput (y :: ys) (is.map (· - o)) qs = y :: Xput ys (is.map (· - (o + 1))) qs
  | [], qs, y, ys, _ => by cases qs <;> rfl
  | i :: is, [], y, ys, _ => rfl
  | i :: is, q :: qs, y, ys, h => by
    simp only [asc, Bool.and_eq_true, Nat.ble_eq] at h
    rw [List.map_cons, List.map_cons, Xput, Xput, show i - o = (i - (o + 1)) + 1 by omega, List.set_cons_succ]
    exact Xput_cons o is qs y _ (asc_le is _ _ (by omega) h.2)
theorem Xput_mrg0 : ∀ (w : va_W) (o : Nat) (is : List Nat) (qs : va_W), asc o is = true → Xput w (is.map (· - o)) qs = mrg o w is qs
  | w, o, [], qs, _ => by cases w <;> cases qs <;> rfl
  | w, o, i :: is, [], _ => by cases w <;> rfl
  | [], o, i :: is, q :: qs, h => by
    rw [mrg]
    · rw [List.map_cons, Xput, List.set_nil]
      have : ∀ (js : List Nat) (rs : va_W), Xput [] js rs = [] := by
        intro js
        induction js with
        | nil => intro rs; cases rs <;> rfl
        | cons j js ih => intro rs; cases rs with
          | nil => rfl
          | cons r rs => rw [Xput, List.set_nil]; exact ih rs
      exact this _ _
    · intros; contradiction
  | x :: xs, o, i :: is, q :: qs, h => by
    have h0 := h
    simp only [asc, Bool.and_eq_true, Nat.ble_eq] at h
    rw [mrg]
    by_cases e : o = i
    · subst e
      rw [if_pos rfl, List.map_cons, Xput, Nat.sub_self, List.set_cons_zero, Xput_cons o is qs q xs h.2, Xput_mrg0 xs (o + 1) is qs h.2]
    · have h1 : asc (o + 1) (i :: is) = true := by
        simp only [asc, Bool.and_eq_true, Nat.ble_eq]; exact ⟨by omega, h.2⟩
      rw [if_neg e, Xput_cons o (i :: is) (q :: qs) x xs h1, Xput_mrg0 xs (o + 1) (i :: is) (q :: qs) h1]
theorem Xput_mrg {w : va_W} {is : List Nat} {qs : va_W} (h : asc 0 is = true) : Xput w is qs = mrg 0 w is qs := by
  have := Xput_mrg0 w 0 is qs h
  rwa [show is.map (· - 0) = is from by simp] at this
theorem Xput_app : ∀ (is : List Nat) (js : List Nat) (qs w : va_W), is.length ≤ qs.length → Xput w (is ++ js) qs = Xput (Xput w is (qs.take is.length)) js (qs.drop is.length)
  | [], js, qs, w, _ => by simp [Xput]
  | i :: is, js, [], w, h => by simp at h
  | i :: is, js, q :: qs, w, h => by
    rw [List.cons_append, Xput, List.length_cons, List.take_succ_cons, List.drop_succ_cons, Xput]
    exact Xput_app is js qs _ (by simpa using h)
theorem Xput_mrg2 {w : va_W} {is js : List Nat} {qs : va_W} (h : asc 0 is = true) (h2 : asc 0 js = true) (hl : is.length ≤ qs.length) : Xput w (is ++ js) qs = mrg 0 (mrg 0 w is (qs.take is.length)) js (qs.drop is.length) := by
  rw [Xput_app is js qs w hl, Xput_mrg h, Xput_mrg h2]
