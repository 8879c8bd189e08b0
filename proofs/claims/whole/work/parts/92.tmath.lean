/-! WAITS GO ROUND: how many are enough is doubled -/
/-- who stays, with one step to come or more -/
def sty (m : Mat) (b : Nat → Int) (s n : Nat) : Bool := decide (1 ≤ n) && qstay m b s n
theorem sty_dn {m : Mat} (hw : wf m) {b : Nat → Int} {s n n' : Nat} (h1 : 1 ≤ n') (h2 : n' ≤ n) (h : sty m b s n = true) : sty m b s n' = true := by
  unfold sty at h ⊢
  rw [Bool.and_eq_true] at h ⊢
  refine ⟨decide_eq_true h1, (qstay_iff hw).mpr ?_⟩
  have hq := (qstay_iff hw).mp h.2
  refine ⟨by omega, fun i hi => ?_⟩
  have := hq.2 i hi
  have hm : (n' : Int) * (qday m : Int) ≤ (n : Int) * (qday m : Int) := Int.mul_le_mul_of_nonneg_right (by omega) (by omega)
  omega
theorem sty_40 {m : Mat} (hw : wf m) {b : Nat → Int} {s n : Nat} (h : sty m b s n = true) : 1 ≤ n ∧ n ≤ 40 := by
  unfold sty at h
  rw [Bool.and_eq_true] at h
  exact ⟨of_decide_eq_true h.1, ((qstay_iff hw).mp h.2).1⟩
/-- a gift of t's comes first -/
def Bt (m : Mat) (b : Nat → Int) (s t n : Nat) : Bool := sty m b s n && givs m s (fun k => decide (qown m k = t)) (fun u => sf m b (n - 1) u ((t + 1) % qS m))
theorem sf_turn {m : Mat} {b : Nat → Int} {s t n : Nat} (h0 : qmode m = 0) (hf : s ≠ qfin m) : sf m b n s t = (Bt m b s t n || (sty m b s n && sf m b (n - 1) s ((t + 1) % qS m))) := by
  cases n with
  | zero =>
    show decide (s = qfin m) = _
    simp [hf, Bt, sty]
  | succ n =>
    show ((!decide (s = qfin m) && qstay m b s (n + 1)) && onw m (sf m b n) s t) = _
    have e : onw m (sf m b n) s t = (sf m b n s ((t + 1) % qS m) || givs m s (fun k => decide (qown m k = t)) (fun u => sf m b n u ((t + 1) % qS m))) := by
      unfold onw qnext
      rw [if_neg (by omega), if_pos h0, if_pos h0]
    rw [e]
    unfold Bt sty
    rw [Nat.add_sub_cancel, decide_eq_false hf, decide_eq_true (show 1 ≤ n + 1 by omega)]
    cases qstay m b s (n + 1) <;> simp [Bool.or_comm]
/-- with fewer than c waits, then a gift -/
def Ut (m : Mat) (b : Nat → Int) (s c t n : Nat) : Prop := sty m b s n = true ∧ ∃ w : Nat, w < c ∧ w < n ∧ Bt m b s ((t + w) % qS m) (n - w) = true
theorem Bt_sty {m : Mat} {b : Nat → Int} {s t n : Nat} (h : Bt m b s t n = true) : sty m b s n = true := by
  unfold Bt at h
  rw [Bool.and_eq_true] at h
  exact h.1
theorem Ut_1 {m : Mat} (hw : wf m) {b : Nat → Int} {s t n : Nat} (ht : t < qS m) : Ut m b s 1 t n ↔ Bt m b s t n = true := by
  constructor
  · intro ⟨_, w, h1, h2, h3⟩
    have : w = 0 := by omega
    subst this
    rw [Nat.add_zero, Nat.mod_eq_of_lt ht] at h3
    exact h3
  · intro h
    have h1 := Bt_sty h
    refine ⟨h1, 0, by omega, (sty_40 hw h1).1, ?_⟩
    rw [Nat.add_zero, Nat.mod_eq_of_lt ht]
    exact h
theorem Ut_2 {m : Mat} (hw : wf m) {b : Nat → Int} {s c t n : Nat} : Ut m b s (2 * c) t n ↔ (Ut m b s c t n ∨ (c ≤ n ∧ Ut m b s c ((t + c) % qS m) (n - c) ∧ sty m b s n = true)) := by
  constructor
  · intro ⟨h1, w, h2, h3, h4⟩
    by_cases cw : w < c
    · exact Or.inl ⟨h1, w, cw, h3, h4⟩
    · refine Or.inr ⟨by omega, ⟨sty_dn hw (by omega) (by omega) h1, w - c, by omega, by omega, ?_⟩, h1⟩
      rw [Nat.mod_add_mod, show t + c + (w - c) = t + w by omega, show n - c - (w - c) = n - w by omega]
      exact h4
  · intro h
    rcases h with ⟨h1, w, h2, h3, h4⟩ | ⟨h0, ⟨h1, w, h2, h3, h4⟩, h5⟩
    · exact ⟨h1, w, by omega, h3, h4⟩
    · refine ⟨h5, w + c, by omega, by omega, ?_⟩
      rw [Nat.mod_add_mod, show t + c + w = t + (w + c) by omega, show n - c - w = n - (w + c) by omega] at h4
      exact h4
theorem Ut_sf {m : Mat} (hw : wf m) {b : Nat → Int} {s : Nat} (h0 : qmode m = 0) (hf : s ≠ qfin m) : ∀ (n t : Nat), t < qS m → (Ut m b s 64 t n ↔ sf m b n s t = true) := by
  have hS := hw.1
  intro n
  induction n with
  | zero =>
    intro t ht
    rw [sf_turn h0 hf]
    constructor
    · intro ⟨h1, _⟩
      have := sty_40 hw h1
      omega
    · intro h
      simp [Bt, sty] at h
  | succ n ih =>
    intro t ht
    rw [sf_turn h0 hf, Bool.or_eq_true, Bool.and_eq_true, Nat.add_sub_cancel]
    have hmod : (t + 1) % qS m < qS m := Nat.mod_lt _ (by omega)
    constructor
    · intro ⟨h1, w, h2, h3, h4⟩
      cases w with
      | zero =>
        rw [Nat.add_zero, Nat.mod_eq_of_lt ht] at h4
        exact Or.inl h4
      | succ w =>
        refine Or.inr ⟨h1, (ih _ hmod).mp ⟨sty_dn hw (by omega) (by omega) h1, w, by omega, by omega, ?_⟩⟩
        rw [Nat.mod_add_mod, show t + 1 + w = t + (w + 1) by omega, show n - w = n + 1 - (w + 1) by omega]
        exact h4
    · intro h
      rcases h with h | ⟨h1, h2⟩
      · have h1 := Bt_sty h
        refine ⟨h1, 0, by omega, by omega, ?_⟩
        rw [Nat.add_zero, Nat.mod_eq_of_lt ht]
        exact h
      · obtain ⟨a1, w, a2, a3, a4⟩ := (ih _ hmod).mpr h2
        have := sty_40 hw h1
        refine ⟨h1, w + 1, by omega, by omega, ?_⟩
        rw [Nat.mod_add_mod, show t + 1 + w = t + (w + 1) by omega, show n - w = n + 1 - (w + 1) by omega] at a4
        exact a4
