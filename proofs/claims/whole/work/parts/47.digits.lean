/-! A STATE'S PARTS as digits -/
theorem pl_succ (m : Mat) (n : Nat) : qpl m (n + 1) = qpl m n * (qcut m n + 1) := rfl
theorem dig_sum (m : Mat) (s : Nat) : ∀ n : Nat, qdot m (qhas m s) n = s % qpl m n
  | 0 => by simp [qdot, qpl, Nat.mod_one]
  | n + 1 => by
    rw [pl_succ, Nat.mod_mul, ← dig_sum m s n]
    rfl
theorem dig_all {m : Mat} {s : Nat} (hs : s < qN m) : qdot m (qhas m s) (qP m) = s := by
  rw [dig_sum]
  exact Nat.mod_eq_of_lt hs
theorem has_mod (m : Mat) (s k : Nat) : qhas m s k = s % qpl m (k + 1) / qpl m k := by
  rw [pl_succ, Nat.mod_mul_right_div_self]
  rfl
theorem pl_dvd (m : Mat) {a : Nat} : ∀ b : Nat, a ≤ b → qpl m a ∣ qpl m b
  | 0, h => by
    have : a = 0 := by omega
    subst this
    exact Nat.dvd_refl _
  | b + 1, h => by
    by_cases e : a = b + 1
    · subst e
      exact Nat.dvd_refl _
    · exact Nat.dvd_trans (pl_dvd m (a := a) b (by omega)) (Nat.dvd_mul_right _ _)
theorem dig_has {m : Mat} {g : Nat → Nat} : ∀ n : Nat, (∀ k : Nat, k < n → g k ≤ qcut m k) → ∀ k : Nat, k < n → qhas m (qdot m g n) k = g k
  | 0, _, k, hk => by omega
  | n + 1, h, k, hk => by
    have h1 := qdot_lt (m := m) (g := g) n (fun k hk => h k (by omega))
    have hp := qpl_pos m n
    by_cases e : k = n
    · subst e
      unfold qhas
      simp only [qdot]
      rw [Nat.add_mul_div_left _ _ (by omega), Nat.div_eq_of_lt h1, Nat.zero_add]
      exact Nat.mod_eq_of_lt (by have := h k (by omega); omega)
    · rw [← dig_has n (fun k hk => h k (by omega)) k (by omega), has_mod, has_mod m (qdot m g n)]
      congr 1
      simp only [qdot]
      obtain ⟨c, hc⟩ := pl_dvd m (a := k + 1) n (by omega)
      rw [hc, Nat.mul_assoc, Nat.add_mul_mod_self_left]
def up1 (g : Nat → Nat) (k v : Nat) : Nat → Nat := fun j => if j = k then v else g j
theorem dot_up {m : Mat} {g : Nat → Nat} {k v : Nat} : ∀ n : Nat, qdot m (up1 g k v) n + (if k < n then qpl m k * g k else 0) = qdot m g n + (if k < n then qpl m k * v else 0)
  | 0 => by simp [qdot]
  | n + 1 => by
    have ih := dot_up (m := m) (g := g) (k := k) (v := v) n
    simp only [qdot]
    by_cases e : n = k
    · subst e
      rw [if_neg (by omega), if_neg (by omega)] at ih
      rw [if_pos (by omega), if_pos (by omega)]
      simp only [up1, if_true]
      omega
    · have e2 : up1 g k v n = g n := by simp [up1, e]
      rw [e2]
      by_cases c : k < n
      · rw [if_pos c, if_pos c] at ih
        rw [if_pos (by omega), if_pos (by omega)]
        omega
      · rw [if_neg c, if_neg c] at ih
        rw [if_neg (by omega), if_neg (by omega)]
        omega
theorem has_mul_le (m : Mat) (s k : Nat) : qhas m s k * qpl m k ≤ s := by
  unfold qhas
  have h1 := Nat.mod_le (s / qpl m k) (qcut m k + 1)
  have h2 := Nat.div_mul_le_self s (qpl m k)
  exact Nat.le_trans (Nat.mul_le_mul_right _ h1) h2
theorem sub_le {m : Mat} {s k q : Nat} (hq : q ≤ qhas m s k) : q * qpl m k ≤ s := Nat.le_trans (Nat.mul_le_mul_right _ hq) (has_mul_le m s k)
theorem sub_dot {m : Mat} {s k q : Nat} (hs : s < qN m) (hk : k < qP m) (hq : q ≤ qhas m s k) : s - q * qpl m k = qdot m (up1 (qhas m s) k (qhas m s k - q)) (qP m) := by
  have h1 := dot_up (m := m) (g := qhas m s) (k := k) (v := qhas m s k - q) (qP m)
  rw [if_pos hk, if_pos hk, dig_all hs] at h1
  have h2 : qpl m k * (qhas m s k - q) = qpl m k * qhas m s k - q * qpl m k := by rw [Nat.mul_sub, Nat.mul_comm q]
  have h3 := Nat.mul_le_mul_left (qpl m k) hq
  rw [Nat.mul_comm (qpl m k) q] at h3
  have h4 := sub_le hq
  omega
theorem has_sub {m : Mat} {s k q : Nat} (hs : s < qN m) (hk : k < qP m) (hq : q ≤ qhas m s k) {j : Nat} (hj : j < qP m) : qhas m (s - q * qpl m k) j = if j = k then qhas m s k - q else qhas m s j := by
  rw [sub_dot hs hk hq, dig_has (qP m) (fun i hi => ?_) j hj]
  · rfl
  · unfold up1
    split
    · rename_i e
      subst e
      have := qhas_le m s i
      omega
    · exact qhas_le m s i
theorem dig_inj {m : Mat} {s t : Nat} (hs : s < qN m) (ht : t < qN m) (h : ∀ k : Nat, k < qP m → qhas m s k = qhas m t k) : s = t := by
  rw [← dig_all hs, ← dig_all ht]
  have : ∀ n : Nat, n ≤ qP m → qdot m (qhas m s) n = qdot m (qhas m t) n := fun n => by
    induction n with
    | zero => exact fun _ => rfl
    | succ n ih =>
      intro hn
      simp only [qdot, ih (by omega), h n (by omega)]
  exact this _ (Nat.le_refl _)
theorem has_fin {m : Mat} (hw : wf m) {k : Nat} (hk : k < qP m) : qhas m (qfin m) k = qkept m k := dig_has (qP m) (fun j hj => by have := (hw.2.2.1 j hj).2.2.1; omega) k hk
theorem has_beg {m : Mat} {k : Nat} (hk : k < qP m) : qhas m (qbeg m) k = qcut m k := dig_has (qP m) (fun _ _ => Nat.le_refl _) k hk
theorem may_le {m : Mat} {s k q : Nat} (h : qmay m s k q = true) : 1 ≤ q ∧ q + qkept m k ≤ qhas m s k := by
  unfold qmay at h
  split at h
  · have := of_decide_eq_true h
    omega
  · have := of_decide_eq_true h
    omega
/-! ONE OF MANY -/
def anyN (p : Nat → Bool) : Nat → Bool
  | 0 => false
  | n + 1 => anyN p n || p n
theorem anyN_iff {p : Nat → Bool} : ∀ n : Nat, anyN p n = true ↔ ∃ k : Nat, k < n ∧ p k = true
  | 0 => by
    constructor
    · intro h
      cases h
    · rintro ⟨k, hk, _⟩
      omega
  | n + 1 => by
    unfold anyN
    rw [Bool.or_eq_true, anyN_iff n]
    constructor
    · rintro (⟨k, hk, hp⟩ | h)
      · exact ⟨k, by omega, hp⟩
      · exact ⟨n, by omega, h⟩
    · rintro ⟨k, hk, hp⟩
      by_cases e : k = n
      · subst e
        exact Or.inr hp
      · exact Or.inl ⟨k, by omega, hp⟩
theorem anyN_congr {p q : Nat → Bool} : ∀ n : Nat, (∀ k : Nat, k < n → p k = q k) → anyN p n = anyN q n
  | 0, _ => rfl
  | n + 1, h => by
    simp only [anyN, anyN_congr n (fun k hk => h k (by omega)), h n (by omega)]
/-- a gift by k's owner from s leads to something -/
def giv (m : Mat) (s k : Nat) (f : Nat → Bool) : Bool := anyN (fun q => qmay m s k (q + 1) && f (s - (q + 1) * qpl m k)) 9
/-- a side's gift from s leads to something -/
def givs (m : Mat) (s : Nat) (sel : Nat → Bool) (f : Nat → Bool) : Bool := anyN (fun k => sel k && giv m s k f) (qP m)
def tgB (m : Mat) (s : Nat) (f : Nat → Bool) : Nat → Nat → Nat → Nat → Bool
  | 0, _, g, to => decide (0 < g) && f to
  | j + 1, i, g, to => tgB m s f j (i + 1) g to || anyN (fun k => decide (qown m k = i) && anyN (fun q => qmay m s k (q + 1) && tgB m s f j (i + 1) (g + 1) (to - (q + 1) * qpl m k)) 9) (qP m)
/-- a step from (s, t) leads to something -/
def onw (m : Mat) (f : Nat → Nat → Bool) (s t : Nat) : Bool := if qmode m = 2 then tgB m s (fun u => f u 0) (qS m) 0 0 s else if qmode m = 0 then f s (qnext m t) || givs m s (fun k => decide (qown m k = t)) (fun u => f u (qnext m t)) else givs m s (fun _ => true) (fun u => f u 0)
