/-! ROWS, as the class finds them: what lies in its layers -/
/-- a state with no less of any piece than is left of it -/
def okS (m : Mat) (s : Nat) : Prop := ∀ k : Nat, k < qP m → qkept m k ≤ qhas m s k
theorem may_c {m : Mat} {s t k q : Nat} (h : qhas m s k = qhas m t k) : qmay m s k q = qmay m t k q := by unfold qmay; rw [h]
theorem gift_le {m : Mat} {s k q : Nat} (hs : s < qN m) (hk : k < qP m) (hb : qmay m s k (q + 1) = true) : s - (q + 1) * qpl m k < s ∧ ∀ j : Nat, j < qP m → qhas m (s - (q + 1) * qpl m k) j ≤ qhas m s j := by
  have h1 := may_le hb
  refine ⟨sub_lt_s hb (Nat.le_refl _), fun j hj => ?_⟩
  rw [has_sub hs hk (by omega) hj]
  split
  · next e => subst e; omega
  · exact Nat.le_refl _
theorem okS_le {m : Mat} {u s : Nat} (h : ∀ k : Nat, k < qP m → qhas m u k ≤ qhas m s k) (hu : okS m u) : okS m s := fun k hk => Nat.le_trans (hu k hk) (h k hk)
theorem giv_iff {m : Mat} {s k : Nat} {f : Nat → Bool} : giv m s k f = true ↔ ∃ q : Nat, q < 9 ∧ qmay m s k (q + 1) = true ∧ f (s - (q + 1) * qpl m k) = true := by
  unfold giv
  rw [anyN_iff]
  constructor
  · intro ⟨q, h1, h2⟩
    rw [Bool.and_eq_true] at h2
    exact ⟨q, h1, h2⟩
  · intro ⟨q, h1, h2, h3⟩
    exact ⟨q, h1, by rw [Bool.and_eq_true]; exact ⟨h2, h3⟩⟩
theorem givs_iff {m : Mat} {s : Nat} {sel f : Nat → Bool} : givs m s sel f = true ↔ ∃ k q : Nat, k < qP m ∧ sel k = true ∧ q < 9 ∧ qmay m s k (q + 1) = true ∧ f (s - (q + 1) * qpl m k) = true := by
  unfold givs
  rw [anyN_iff]
  constructor
  · intro ⟨k, h1, h2⟩
    rw [Bool.and_eq_true] at h2
    obtain ⟨q, a, b, c⟩ := giv_iff.mp h2.2
    exact ⟨k, q, h1, h2.1, a, b, c⟩
  · intro ⟨k, q, h1, h2, h3, h4, h5⟩
    exact ⟨k, h1, by rw [Bool.and_eq_true]; exact ⟨h2, giv_iff.mpr ⟨q, h3, h4, h5⟩⟩⟩
theorem beq_iff {a b : Bool} (h : a = true ↔ b = true) : a = b := by
  cases a <;> cases b <;> simp_all
/-- what may come of a state within one step, when only the last j sides are still to give -/
def AL (m : Mat) (f : Nat → Bool) : Nat → Nat → Bool
  | 0, s => f s
  | j + 1, s => AL m f j s || givs m s (fun k => decide (qown m k = qS m - 1 - j)) (AL m f j)
theorem AL_s (m : Mat) (f : Nat → Bool) (j s : Nat) : AL m f (j + 1) s = (AL m f j s || givs m s (fun k => decide (qown m k = qS m - 1 - j)) (AL m f j)) := rfl
theorem tg_AL {m : Mat} {s : Nat} (hs : s < qN m) {f : Nat → Bool} : ∀ (j i g to : Nat), i + j = qS m → to < qN m → (∀ k : Nat, k < qP m → i ≤ qown m k → qhas m to k = qhas m s k) → tgB m s f j i (g + 1) to = AL m f j to
  | 0, i, g, to, _, _, _ => by
    show (decide (0 < g + 1) && f to) = f to
    simp
  | j + 1, i, g, to, hi, hto, hd => by
    rw [tgB_s, AL_s, tg_AL hs j (i + 1) g to (by omega) hto (fun k hk h => hd k hk (by omega))]
    congr 1
    apply beq_iff
    rw [anyN_iff, givs_iff]
    constructor
    · intro ⟨k, h1, h2⟩
      unfold tKp at h2
      rw [Bool.and_eq_true, anyN_iff] at h2
      obtain ⟨o, q, h3, h4⟩ := h2
      have o' := of_decide_eq_true o
      unfold tQp at h4
      rw [Bool.and_eq_true] at h4
      have hk := hd k h1 (by omega)
      have hm : qmay m to k (q + 1) = true := by rw [may_c hk]; exact h4.1
      have hml := may_le hm
      refine ⟨k, q, h1, decide_eq_true (by omega), h3, hm, ?_⟩
      rw [← tg_AL hs j (i + 1) (g + 1) _ (by omega) (by omega) (fun k' hk' ho => ?_)]
      · exact h4.2
      · rw [has_sub hto h1 (by omega) hk', if_neg (fun e => by subst e; omega)]
        exact hd k' hk' (by omega)
    · intro ⟨k, q, h1, o, h3, hm, h5⟩
      have o' := of_decide_eq_true o
      have hk := hd k h1 (by omega)
      have hml := may_le hm
      refine ⟨k, h1, ?_⟩
      unfold tKp
      rw [Bool.and_eq_true, anyN_iff]
      refine ⟨decide_eq_true (by omega), q, h3, ?_⟩
      unfold tQp
      rw [Bool.and_eq_true]
      refine ⟨by rw [← may_c hk]; exact hm, ?_⟩
      rw [tg_AL hs j (i + 1) (g + 1) _ (by omega) (by omega) (fun k' hk' ho => ?_)]
      · exact h5
      · rw [has_sub hto h1 (by omega) hk', if_neg (fun e => by subst e; omega)]
        exact hd k' hk' (by omega)
/-- some of the last j sides' gifts from s lead on -/
def TJ (m : Mat) (s : Nat) (f : Nat → Bool) : Nat → Bool
  | 0 => false
  | j + 1 => TJ m s f j || givs m s (fun k => decide (qown m k = qS m - 1 - j)) (AL m f j)
theorem TJ_s (m : Mat) (s : Nat) (f : Nat → Bool) (j : Nat) : TJ m s f (j + 1) = (TJ m s f j || givs m s (fun k => decide (qown m k = qS m - 1 - j)) (AL m f j)) := rfl
theorem tg_TJ {m : Mat} {s : Nat} (hs : s < qN m) {f : Nat → Bool} : ∀ (j i : Nat), i + j = qS m → tgB m s f j i 0 s = TJ m s f j
  | 0, i, _ => rfl
  | j + 1, i, hi => by
    rw [tgB_s, TJ_s, tg_TJ hs j (i + 1) (by omega)]
    congr 1
    apply beq_iff
    rw [anyN_iff, givs_iff]
    constructor
    · intro ⟨k, h1, h2⟩
      unfold tKp at h2
      rw [Bool.and_eq_true, anyN_iff] at h2
      obtain ⟨o, q, h3, h4⟩ := h2
      have o' := of_decide_eq_true o
      unfold tQp at h4
      rw [Bool.and_eq_true] at h4
      have hml := may_le h4.1
      refine ⟨k, q, h1, decide_eq_true (by omega), h3, h4.1, ?_⟩
      rw [← tg_AL hs j (i + 1) 0 _ (by omega) (by omega) (fun k' hk' ho => ?_)]
      · exact h4.2
      · rw [has_sub hs h1 (by omega) hk', if_neg (fun e => by subst e; omega)]
    · intro ⟨k, q, h1, o, h3, hm, h5⟩
      have o' := of_decide_eq_true o
      have hml := may_le hm
      refine ⟨k, h1, ?_⟩
      unfold tKp
      rw [Bool.and_eq_true, anyN_iff]
      refine ⟨decide_eq_true (by omega), q, h3, ?_⟩
      unfold tQp
      rw [Bool.and_eq_true]
      refine ⟨hm, ?_⟩
      rw [tg_AL hs j (i + 1) 0 _ (by omega) (by omega) (fun k' hk' ho => ?_)]
      · exact h5
      · rw [has_sub hs h1 (by omega) hk', if_neg (fun e => by subst e; omega)]
theorem AL_TJ (m : Mat) (s : Nat) (f : Nat → Bool) : ∀ j : Nat, AL m f j s = (f s || TJ m s f j)
  | 0 => by simp [AL, TJ]
  | j + 1 => by rw [AL_s, TJ_s, AL_TJ m s f j, Bool.or_assoc]
/-- a step leads to a state with no more of anything -/
theorem onw_le {m : Mat} {f : Nat → Nat → Bool} {s t : Nat} (hs : s < qN m) (h : onw m f s t = true) : ∃ u v : Nat, u < qN m ∧ (∀ k : Nat, k < qP m → qhas m u k ≤ qhas m s k) ∧ f u v = true := by
  have g1 : ∀ {sel f : Nat → Bool}, givs m s sel f = true → ∃ u : Nat, u < qN m ∧ (∀ k : Nat, k < qP m → qhas m u k ≤ qhas m s k) ∧ f u = true := by
    intro sel f hg
    obtain ⟨k, q, h1, _, _, h4, h5⟩ := givs_iff.mp hg
    have := gift_le hs h1 h4
    exact ⟨_, by omega, this.2, h5⟩
  unfold onw at h
  split at h
  · rw [tg_TJ hs (qS m) 0 (by omega)] at h
    have key : ∀ (j : Nat) (u : Nat), u < qN m → AL m (fun u => f u 0) j u = true → ∃ v : Nat, v < qN m ∧ (∀ k : Nat, k < qP m → qhas m v k ≤ qhas m u k) ∧ f v 0 = true := by
      intro j
      induction j with
      | zero => intro u hu ha; exact ⟨u, hu, fun _ _ => Nat.le_refl _, ha⟩
      | succ j ih =>
        intro u hu ha
        rw [AL_s, Bool.or_eq_true] at ha
        rcases ha with ha | ha
        · exact ih u hu ha
        · obtain ⟨k, q, h1, _, _, h4, h5⟩ := givs_iff.mp ha
          have hl := gift_le hu h1 h4
          obtain ⟨v, v1, v2, v3⟩ := ih _ (by omega) h5
          exact ⟨v, v1, fun k hk => Nat.le_trans (v2 k hk) (hl.2 k hk), v3⟩
    have key2 : ∀ j : Nat, TJ m s (fun u => f u 0) j = true → ∃ v : Nat, v < qN m ∧ (∀ k : Nat, k < qP m → qhas m v k ≤ qhas m s k) ∧ f v 0 = true := by
      intro j
      induction j with
      | zero => intro ha; cases ha
      | succ j ih =>
        intro ha
        rw [TJ_s, Bool.or_eq_true] at ha
        rcases ha with ha | ha
        · exact ih ha
        · obtain ⟨k, q, h1, _, _, h4, h5⟩ := givs_iff.mp ha
          have hl := gift_le hs h1 h4
          obtain ⟨v, v1, v2, v3⟩ := key j _ (by omega) h5
          exact ⟨v, v1, fun k hk => Nat.le_trans (v2 k hk) (hl.2 k hk), v3⟩
    obtain ⟨v, v1, v2, v3⟩ := key2 _ h
    exact ⟨v, 0, v1, v2, v3⟩
  · split at h
    · rw [Bool.or_eq_true] at h
      rcases h with h | h
      · exact ⟨s, _, hs, fun _ _ => Nat.le_refl _, h⟩
      · obtain ⟨u, u1, u2, u3⟩ := g1 h
        exact ⟨u, _, u1, u2, u3⟩
    · obtain ⟨u, u1, u2, u3⟩ := g1 h
      exact ⟨u, _, u1, u2, u3⟩
theorem sf_ok {m : Mat} (hw : wf m) {b : Nat → Int} : ∀ (n s t : Nat), s < qN m → sf m b n s t = true → okS m s
  | 0, s, t, hs, h => by
    have e : s = qfin m := of_decide_eq_true h
    intro k hk
    rw [e, has_fin hw hk]
    exact Nat.le_refl _
  | n + 1, s, t, hs, h => by
    obtain ⟨u, v, u1, u2, u3⟩ := onw_le hs (sf_onw h)
    exact okS_le u2 (sf_ok hw n u v u1 u3)
theorem AL_ok {m : Mat} (hw : wf m) {b : Nat → Int} {n t : Nat} : ∀ (j s : Nat), s < qN m → AL m (fun u => sf m b n u t) j s = true → okS m s
  | 0, s, hs, h => sf_ok hw n s t hs h
  | j + 1, s, hs, h => by
    rw [AL_s, Bool.or_eq_true] at h
    rcases h with h | h
    · exact AL_ok hw j s hs h
    · obtain ⟨k, q, h1, _, _, h4, h5⟩ := givs_iff.mp h
      have hl := gift_le hs h1 h4
      exact okS_le hl.2 (AL_ok hw j _ (by omega) h5)
/-- what lies in layer t at s -/
def LB (m : Mat) (b : Nat → Int) (t s n : Nat) : Bool := if qmode m = 2 then AL m (fun u => sf m b n u 0) t s else sf m b n s t
def nlay (m : Mat) : Nat := if qmode m = 1 then 1 else qS m
theorem LB_ok {m : Mat} (hw : wf m) {b : Nat → Int} {t s n : Nat} (hs : s < qN m) (h : LB m b t s n = true) : okS m s := by
  unfold LB at h
  split at h
  · exact AL_ok hw t s hs h
  · exact sf_ok hw n s t hs h
/-! the states in their order -/
theorem cut_full (m : Mat) : ∀ n : Nat, qdot m (qcut m) n + 1 = qpl m n
  | 0 => rfl
  | n + 1 => by
    rw [dot_s, pl_succ, Nat.mul_add, Nat.mul_one]
    have := cut_full m n
    omega
theorem qdot_le {m : Mat} {g g' : Nat → Nat} : ∀ n : Nat, (∀ k : Nat, k < n → g k ≤ g' k) → qdot m g n ≤ qdot m g' n
  | 0, _ => Nat.le_refl _
  | n + 1, h => by
    rw [dot_s, dot_s]
    have h1 := qdot_le (m := m) n (fun k hk => h k (by omega))
    have h2 := Nat.mul_le_mul_left (qpl m n) (h n (by omega))
    omega
theorem qdot_c {m : Mat} {g g' : Nat → Nat} : ∀ n : Nat, (∀ k : Nat, k < n → g k = g' k) → qdot m g n = qdot m g' n
  | 0, _ => rfl
  | n + 1, h => by rw [dot_s, dot_s, qdot_c n (fun k hk => h k (by omega)), h n (by omega)]
theorem fin_least {m : Mat} {u : Nat} (hu : u < qN m) (ho : okS m u) : qfin m ≤ u := by
  rw [← dig_all hu]
  exact qdot_le _ ho
theorem beg_max {m : Mat} : qbeg m + 1 = qN m := cut_full m _
theorem ok_beg {m : Mat} (hw : wf m) : okS m (qbeg m) := fun k hk => by
  rw [has_beg hk]
  have := (hw.2.2.1 k hk).2.2.1
  omega
theorem ok_fin {m : Mat} (hw : wf m) : okS m (qfin m) := fun k hk => by rw [has_fin hw hk]; exact Nat.le_refl _
/-- the digits of the next state: those below are as left, one is more -/
def nxd (m : Mat) (s k0 : Nat) (j : Nat) : Nat := if j < k0 then qkept m j else if j = k0 then qhas m s k0 + 1 else qhas m s j
theorem nx_sum {m : Mat} {s k0 : Nat} (hf : ∀ j : Nat, j < k0 → qhas m s j = qcut m j) : ∀ n : Nat, k0 < n → qdot m (nxd m s k0) n = qdot m (qhas m s) n + qdot m (qkept m) k0 + 1
  | 0, h => by omega
  | n + 1, h => by
    rw [dot_s, dot_s]
    by_cases c : n = k0
    · subst c
      rw [qdot_c (g := nxd m s n) (g' := qkept m) n (fun k hk => if_pos hk), qdot_c (g := qhas m s) (g' := qcut m) n hf]
      have e : nxd m s n n = qhas m s n + 1 := by
        unfold nxd
        rw [if_neg (by omega), if_pos rfl]
      have := cut_full m n
      rw [e, Nat.mul_add, Nat.mul_one]
      omega
    · rw [nx_sum hf n (by omega)]
      have e : nxd m s k0 n = qhas m s n := by
        unfold nxd
        rw [if_neg (by omega), if_neg c]
      rw [e]
      omega
theorem nx_state {m : Mat} (hw : wf m) {s k0 : Nat} (hs : s < qN m) (hk : k0 < qP m) (hf : ∀ j : Nat, j < k0 → qhas m s j = qcut m j) (hl : qhas m s k0 < qcut m k0) (ho : okS m s) : s + qdot m (qkept m) k0 + 1 < qN m ∧ (∀ j : Nat, j < qP m → qhas m (s + qdot m (qkept m) k0 + 1) j = nxd m s k0 j) ∧ okS m (s + qdot m (qkept m) k0 + 1) ∧ ∀ u : Nat, s < u → u < s + qdot m (qkept m) k0 + 1 → ¬ okS m u := by
  have e1 : qdot m (nxd m s k0) (qP m) = s + qdot m (qkept m) k0 + 1 := by
    rw [nx_sum hf _ hk, dig_all hs]
  have hle : ∀ j : Nat, j < qP m → nxd m s k0 j ≤ qcut m j := fun j hj => by
    unfold nxd
    split
    · exact Nat.le_of_lt (hw.2.2.1 j hj).2.2.1
    · split
      · next e => subst e; omega
      · exact qhas_le m s j
  have hN : s + qdot m (qkept m) k0 + 1 < qN m := by
    rw [← e1]
    exact qdot_lt _ hle
  have hd : ∀ j : Nat, j < qP m → qhas m (s + qdot m (qkept m) k0 + 1) j = nxd m s k0 j := fun j hj => by
    rw [← e1]
    exact dig_has _ hle j hj
  refine ⟨hN, hd, fun j hj => ?_, fun u h1 h2 hu => ?_⟩
  · rw [hd j hj]
    unfold nxd
    split
    · exact Nat.le_refl _
    · split
      · next e => subst e; have := ho j hj; omega
      · exact ho j hj
  · have hW := qpl_pos m k0
    have a1 : s % qpl m k0 = qpl m k0 - 1 := by
      rw [← dig_sum, qdot_c (g := qhas m s) (g' := qcut m) k0 hf]
      have := cut_full m k0
      omega
    have a2 : qdot m (qkept m) k0 ≤ u % qpl m k0 := by
      rw [← dig_sum]
      exact qdot_le _ (fun k hk' => hu k (by omega))
    have a3 : qdot m (qkept m) k0 < qpl m k0 := qdot_lt _ (fun k hk' => Nat.le_of_lt (hw.2.2.1 k (by omega)).2.2.1)
    have a4 := Nat.div_add_mod s (qpl m k0)
    have a5 : u = qpl m k0 * (s / qpl m k0 + 1) + (u - s - 1) := by
      rw [Nat.mul_add, Nat.mul_one]
      omega
    have a6 : u % qpl m k0 = u - s - 1 := by
      rw [a5, Nat.mul_add_mod, Nat.mod_eq_of_lt (by omega)]
      omega
    omega
theorem full_beg {m : Mat} {s : Nat} (hs : s < qN m) (h : ∀ j : Nat, j < qP m → qhas m s j = qcut m j) : s = qbeg m := by
  rw [← dig_all hs]
  exact qdot_c _ h
