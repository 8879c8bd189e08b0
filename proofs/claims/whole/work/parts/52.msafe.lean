/-! THE MODEL'S work, safeAt, holds, lowest, isSafe, safe, many -/
def fstN (p : Nat → Bool) : Nat → Nat
  | 0 => 0
  | n + 1 => if anyN p n then fstN p n else n
theorem fstN_lt {p : Nat → Bool} : ∀ n : Nat, anyN p n = true → fstN p n < n ∧ p (fstN p n) = true ∧ ∀ k : Nat, k < fstN p n → p k = false
  | 0, h => by cases h
  | n + 1, h => by
    unfold fstN
    by_cases c : anyN p n = true
    · rw [if_pos c]
      obtain ⟨h1, h2⟩ := fstN_lt n c
      exact ⟨by omega, h2⟩
    · rw [if_neg c]
      unfold anyN at h
      rw [Bool.not_eq_true] at c
      rw [c, Bool.false_or] at h
      refine ⟨by omega, h, fun k hk => ?_⟩
      cases hp : p k
      · rfl
      · exact absurd ((anyN_iff n).mpr ⟨k, hk, hp⟩) (by rw [c]; exact Bool.false_ne_true)
theorem fstN_eq {p : Nat → Bool} {n k : Nat} (hk : k < n) (hp : p k = true) (hl : ∀ j : Nat, j < k → p j = false) : anyN p n = true ∧ fstN p n = k := by
  have h := (anyN_iff n).mpr ⟨k, hk, hp⟩
  refine ⟨h, ?_⟩
  obtain ⟨_, h2, h3⟩ := fstN_lt n h
  rcases Nat.lt_trichotomy (fstN p n) k with c | c | c
  · rw [hl _ c] at h2
    cases h2
  · exact c
  · rw [h3 _ c] at hp
    cases hp
theorem fstN_congr {p q : Nat → Bool} : ∀ n : Nat, (∀ k : Nat, k < n → p k = q k) → fstN p n = fstN q n
  | 0, _ => rfl
  | n + 1, h => by
    simp only [fstN, anyN_congr n (fun k hk => h k (by omega)), fstN_congr n (fun k hk => h k (by omega))]
theorem anyN_none {p : Nat → Bool} {n : Nat} (h : anyN p n = false) {k : Nat} (hk : k < n) : p k = false := by
  cases hp : p k
  · rfl
  · exact absurd ((anyN_iff n).mpr ⟨k, hk, hp⟩) (by rw [h]; exact Bool.false_ne_true)
/-- a search ends at the first, or at the end -/
theorem srch {α : Type} (F : Nat → α) (p : Nat → Bool) (n : Nat) (r : Nat → α) (hit : ∀ k : Nat, k < n → p k = true → F k = r k) (miss : ∀ k : Nat, k < n → p k = false → F k = F (k + 1)) : F 0 = if anyN p n then r (fstN p n) else F n := by
  have : ∀ k : Nat, k ≤ n → (∀ j : Nat, j < k → p j = false) → F 0 = F k := fun k => by
    induction k with
    | zero => exact fun _ _ => rfl
    | succ k ih => exact fun h h2 => (ih (by omega) (fun j hj => h2 j (by omega))).trans (miss k (by omega) (h2 k (by omega)))
  by_cases c : anyN p n = true
  · rw [if_pos c]
    obtain ⟨h1, h2, h3⟩ := fstN_lt n c
    exact (this _ (by omega) h3).trans (hit _ h1 h2)
  · rw [if_neg c]
    rw [Bool.not_eq_true] at c
    exact this n (Nat.le_refl _) (fun j hj => anyN_none c hj)
theorem srchS {α σ : Type} (F : Nat → σ → α) (p : Nat → Bool) (n : Nat) (r : Nat → α) (hit : ∀ (k : Nat) (x : σ), k < n → p k = true → F k x = r k) (miss : ∀ (k : Nat) (x : σ), k < n → p k = false → ∃ x' : σ, F k x = F (k + 1) x') (x0 : σ) : (anyN p n = true → F 0 x0 = r (fstN p n)) ∧ (anyN p n = false → ∃ x' : σ, F 0 x0 = F n x') := by
  have : ∀ k : Nat, k ≤ n → (∀ j : Nat, j < k → p j = false) → ∃ x' : σ, F 0 x0 = F k x' := fun k => by
    induction k with
    | zero => exact fun _ _ => ⟨x0, rfl⟩
    | succ k ih =>
      intro h h2
      obtain ⟨x1, e1⟩ := ih (by omega) (fun j hj => h2 j (by omega))
      obtain ⟨x2, e2⟩ := miss k x1 (by omega) (h2 k (by omega))
      exact ⟨x2, e1.trans e2⟩
  constructor
  · intro c
    obtain ⟨h1, h2, h3⟩ := fstN_lt n c
    obtain ⟨x1, e1⟩ := this _ (by omega) h3
    exact e1.trans (hit _ x1 h1 h2)
  · intro c
    exact this n (Nat.le_refl _) (fun j hj => anyN_none c hj)
def qtt (m : Mat) (t : Nat) : Nat := if qmode m = 0 then t else 0
theorem qtt_lt {m : Mat} {t : Nat} (ht : t < qS m) : qtt m t < qturns m := by
  unfold qtt qturns
  split
  · exact ht
  · omega
/-- what work() finds -/
def WK (m : Mat) (b : Nat → Int) (J : Nat → Nat → Int64) : Prop := ∀ s v n : Nat, s < qN m → v < qturns m → n < 64 → gb (J 162 (3 * s + v)) n = sf m b n s v
def afew (m : Mat) (b : Nat → Int) (s t : Nat) : Int := if anyN (fun n => sf m b n s t) 41 then (fstN (fun n => sf m b n s t) 41 : Nat) else -1
def hld (m : Mat) (b : Nat → Int) (s t : Nat) : Bool := anyN (fun n => sf m b n s t) 41
def cntN (p : Nat → Bool) : Nat → Nat
  | 0 => 0
  | n + 1 => cntN p n + (if p n then 1 else 0)
theorem cntN_le (p : Nat → Bool) : ∀ n : Nat, cntN p n ≤ n
  | 0 => Nat.le_refl _
  | n + 1 => by
    have := cntN_le p n
    unfold cntN
    split
    · omega
    · omega
section
variable {d : Nat} {J : Nat → Nat → Int64} {Z : Nat → Nat → Int} {p0 p1 p2 p3 p4 p5 p6 p7 : Nat} {m : Mat} {b : Nat → Int}
theorem g_work (h : MI m Z) (hx : MX b Z) : ∃ J' : Nat → Nat → Int64, (∀ a : Nat, a ≠ 162 → a ≠ 163 → J' a = J a) ∧ WK m b J' ∧ Mean (d + 9) 198 [.ref 140] (176, zs Z, J, RP p0 p1 p2 p3 p4 p5 p6 p7) = some (none, (176, zs Z, J', RP p0 p1 p2 p3 p4 p5 p6 p7)) := by
  obtain ⟨J1, h1, h2, h3⟩ := g_findStay (d := d + 2) (J := J) (p0 := p0) (p1 := p1) (p2 := p2) (p3 := p3) (p4 := p4) (p5 := p5) (p6 := p6) (p7 := p7) h hx
  obtain ⟨J2, g1, g2, g3⟩ := g_findSafe (d := d) (J := J1) (b := b) (p0 := p0) (p1 := p1) (p2 := p2) (p3 := p3) (p4 := p4) (p5 := p5) (p6 := p6) (p7 := p7) h h2
  refine ⟨J2, fun a ha hb => (g1 a ha).trans (h1 a hb), g2, ?_⟩
  rw [e_X11_work]
  simp (disch := omega) only [k_X11_work_0, k_X11_work_4, k_X11_work_8, li_0, li_1, li_2, li_3, li_4, li_5, li_6, li_9, li_10, li_40, lm_1, lm_2, lm_3, lm_4, zs_ap, i32_add, i32_sub, i32_mul, i32_neg, i32_lt, i32_le, i32_eq, i32_nat, ckn, pka_r, pka_v, if_pos, if_neg, if_true, if_false, h3, g3]
theorem wk_z {J : Nat → Nat → Int64} (hw : wf m) (hk : WK m b J) {s v : Nat} (hs : s < qN m) (hv : v < qturns m) : (J 162 (3 * s + v) = 0) = (hld m b s v = false) := by
  rw [gb_nz]
  apply propext
  constructor
  · intro h
    cases c : hld m b s v
    · rfl
    · obtain ⟨n, h1, h2⟩ := (anyN_iff 41).mp c
      rw [← hk s v n hs hv (by omega), h n (by omega)] at h2
      cases h2
  · intro h n hn
    rw [hk s v n hs hv hn]
    cases c : sf m b n s v
    · rfl
    · have := sf_40 hw c
      rw [anyN_none h (show n < 41 by omega)] at c
      cases c
theorem g_safeAt (h : MI m Z) {s t : Nat} (hs : s < qN m) (ht : t < qS m) : Mean (d + 2) 199 [.ref 140, .int (i32 (s : Int)), .int (i32 (t : Int))] (176, zs Z, J, RP p0 p1 p2 p3 p4 p5 p6 p7) = some (some (.long (J 162 (3 * s + qtt m t))), (176, zs Z, J, RP p0 p1 p2 p3 p4 p5 p6 p7)) := by
  have h0 := MI_n h
  have h1 := qtt_lt ht
  have h2 := turns_le h.1
  have h3 : (if qmode m = 0 then (t : Int) else 0) = ((qtt m t : Nat) : Int) := by
    unfold qtt
    split
    · rfl
    · rfl
  rw [e_X11_safeAt]
  simp (disch := omega) only [k_X11_safeAt_0, k_X11_safeAt_12, k_X11_safeAt_14, li_0, li_1, li_2, li_3, li_4, li_5, li_6, li_9, li_10, li_40, lm_1, lm_2, lm_3, lm_4, zs_ap, i32_add, i32_sub, i32_mul, i32_neg, i32_lt, i32_le, i32_eq, i32_nat, ckn, pka_r, pka_v, if_pos, if_neg, if_true, if_false, g_turnOf h, h3, show (3 * (s : Int) + (qtt m t : Int)).toNat = 3 * s + qtt m t by omega]
theorem g_holds (h : MI m Z) (hk : WK m b J) : Mean (d + 3) 200 [.ref 140] (176, zs Z, J, RP p0 p1 p2 p3 p4 p5 p6 p7) = some (some (.int (i32 (bB (hld m b (qbeg m) (qtt m (qfst m)))))), (176, zs Z, J, RP p0 p1 p2 p3 p4 p5 p6 p7)) := by
  have h0 := MI_n h
  have h1 := h.2.1.1
  have h2 := h.1.2.2.2.2.2.1
  have h3 := wk_z h.1 hk (s := qbeg m) (v := qtt m (qfst m)) h0.2.2.2.2.2.2.2.2.1 (qtt_lt (by omega))
  rw [e_X11_holds]
  simp (disch := omega) only [k_X11_holds_0, k_X11_holds_12, k_X11_holds_17, k_X11_holds_21, k_X11_holds_22, li_0, li_1, li_2, li_3, li_4, li_5, li_6, li_9, li_10, li_40, lm_1, lm_2, lm_3, lm_4, zs_ap, i32_add, i32_sub, i32_mul, i32_neg, i32_lt, i32_le, i32_eq, i32_nat, ckn, pka_r, pka_v, if_pos, if_neg, if_true, if_false, h0, h1, g_safeAt h, cmp_z, h3]
  cases c : hld m b (qbeg m) (qtt m (qfst m))
  · rw [bBf]
    simp (disch := omega) only [k_X11_holds_0, k_X11_holds_12, k_X11_holds_17, k_X11_holds_21, k_X11_holds_22, li_0, li_1, li_2, li_3, li_4, li_5, li_6, li_9, li_10, li_40, lm_1, lm_2, lm_3, lm_4, zs_ap, i32_add, i32_sub, i32_mul, i32_neg, i32_lt, i32_le, i32_eq, i32_nat, ckn, pka_r, pka_v, if_pos, if_neg, if_true, if_false, true_or]
  · rw [bBt, if_neg (show ¬ (true = false) by decide)]
    simp (disch := omega) only [k_X11_holds_0, k_X11_holds_12, k_X11_holds_17, k_X11_holds_21, k_X11_holds_22, li_0, li_1, li_2, li_3, li_4, li_5, li_6, li_9, li_10, li_40, lm_1, lm_2, lm_3, lm_4, zs_ap, i32_add, i32_sub, i32_mul, i32_neg, i32_lt, i32_le, i32_eq, i32_nat, ckn, pka_r, pka_v, if_pos, if_neg, if_true, if_false, or_true]
theorem g_lowest {x : Int64} : Mean (d + 1) 201 [.long x] (176, zs Z, J, RP p0 p1 p2 p3 p4 p5 p6 p7) = some (some (.int (i32 (if anyN (gb x) 41 then (fstN (gb x) 41 : Nat) else -1))), (176, zs Z, J, RP p0 p1 p2 p3 p4 p5 p6 p7)) := by
  rw [e_X11_lowest, k_X11_lowest_0]
  refine Eq.trans (srch (fun k => den none (Mean d) (some .int) tQ_X11_lowest (2, [some (.long x), none, some (.int (i32 (k : Int)))], [], 176, zs Z, J, RP p0 p1 p2 p3 p4 p5 p6 p7)) (gb x) 41 (fun k => some (some (.int (i32 (k : Int))), (176, zs Z, J, RP p0 p1 p2 p3 p4 p5 p6 p7))) (fun k hk hp => ?_) (fun k hk hp => ?_)) ?_
  · rw [k_X11_lowest_2]
    simp (disch := omega) only [k_X11_lowest_0, k_X11_lowest_8, k_X11_lowest_18, k_X11_lowest_20, k_X11_lowest_26, li_0, li_1, li_2, li_3, li_4, li_5, li_6, li_9, li_10, li_40, lm_1, lm_2, lm_3, lm_4, zs_ap, i32_add, i32_sub, i32_mul, i32_neg, i32_lt, i32_le, i32_eq, i32_nat, ckn, pka_r, pka_v, if_pos, if_neg, if_true, if_false, gb_sgn, hp, cmp_z, cond_true]
  · rw [k_X11_lowest_2]
    simp (disch := omega) only [k_X11_lowest_0, k_X11_lowest_8, k_X11_lowest_18, k_X11_lowest_20, k_X11_lowest_26, li_0, li_1, li_2, li_3, li_4, li_5, li_6, li_9, li_10, li_40, lm_1, lm_2, lm_3, lm_4, zs_ap, i32_add, i32_sub, i32_mul, i32_neg, i32_lt, i32_le, i32_eq, i32_nat, ckn, pka_r, pka_v, if_pos, if_neg, if_true, if_false, gb_sgn, hp, cmp_z, cond_false, show ((0 : Int64) = 1) = False from by decide]
    rfl
  · by_cases c : anyN (gb x) 41 = true
    · rw [if_pos c, if_pos c]
    · rw [if_neg c, if_neg c, k_X11_lowest_2]
      simp (disch := omega) only [k_X11_lowest_0, k_X11_lowest_8, k_X11_lowest_18, k_X11_lowest_20, k_X11_lowest_26, li_0, li_1, li_2, li_3, li_4, li_5, li_6, li_9, li_10, li_40, lm_1, lm_2, lm_3, lm_4, zs_ap, i32_add, i32_sub, i32_mul, i32_neg, i32_lt, i32_le, i32_eq, i32_nat, ckn, pka_r, pka_v, if_pos, if_neg, if_true, if_false]
theorem g_few {J : Nat → Nat → Int64} (hk : WK m b J) {s v : Nat} (hs : s < qN m) (hv : v < qturns m) : (if anyN (gb (J 162 (3 * s + v))) 41 then ((fstN (gb (J 162 (3 * s + v))) 41 : Nat) : Int) else -1) = afew m b s v := by
  unfold afew
  rw [anyN_congr 41 (fun n hn => hk s v n hs hv (by omega)), fstN_congr 41 (fun n hn => hk s v n hs hv (by omega))]
theorem g_isSafe (h : MI m Z) (hk : WK m b J) {s v n : Nat} (hs : s < qN m) (hv : v < qturns m) (hn : n < 64) : Mean (d + 1) 203 [.ref 140, .int (i32 (s : Int)), .int (i32 (v : Int)), .int (i32 (n : Int))] (176, zs Z, J, RP p0 p1 p2 p3 p4 p5 p6 p7) = some (some (.int (i32 (bB (sf m b n s v)))), (176, zs Z, J, RP p0 p1 p2 p3 p4 p5 p6 p7)) := by
  have h0 := MI_n h
  have h2 := turns_le h.1
  rw [e_X11_isSafe]
  simp (disch := omega) only [k_X11_isSafe_0, k_X11_isSafe_10, k_X11_isSafe_19, k_X11_isSafe_23, k_X11_isSafe_24, li_0, li_1, li_2, li_3, li_4, li_5, li_6, li_9, li_10, li_40, lm_1, lm_2, lm_3, lm_4, zs_ap, i32_add, i32_sub, i32_mul, i32_neg, i32_lt, i32_le, i32_eq, i32_nat, ckn, pka_r, pka_v, if_pos, if_neg, if_true, if_false, show (3 * (s : Int) + (v : Int)).toNat = 3 * s + v by omega, gb_sgn, hk s v n hs hv hn, cmp_z]
  cases sf m b n s v
  · simp (disch := omega) only [k_X11_isSafe_0, k_X11_isSafe_10, k_X11_isSafe_19, k_X11_isSafe_23, k_X11_isSafe_24, li_0, li_1, li_2, li_3, li_4, li_5, li_6, li_9, li_10, li_40, lm_1, lm_2, lm_3, lm_4, zs_ap, i32_add, i32_sub, i32_mul, i32_neg, i32_lt, i32_le, i32_eq, i32_nat, ckn, pka_r, pka_v, if_pos, if_neg, if_true, if_false, cond_false, show ((0 : Int64) = 1) = False from by decide, bBf, true_or]
  · simp (disch := omega) only [k_X11_isSafe_0, k_X11_isSafe_10, k_X11_isSafe_19, k_X11_isSafe_23, k_X11_isSafe_24, li_0, li_1, li_2, li_3, li_4, li_5, li_6, li_9, li_10, li_40, lm_1, lm_2, lm_3, lm_4, zs_ap, i32_add, i32_sub, i32_mul, i32_neg, i32_lt, i32_le, i32_eq, i32_nat, ckn, pka_r, pka_v, if_pos, if_neg, if_true, if_false, cond_true, bBt, or_true]
theorem g_safe (h : MI m Z) (hx : MX b Z) {s t : Int} (hs : -2147483648 ≤ s ∧ s < 2147483648) (ht : -2147483648 ≤ t ∧ t < 2147483648) : ∃ (J' : Nat → Nat → Int64) (x : Int64), (∀ a : Nat, a ≠ 162 → a ≠ 163 → J' a = J a) ∧ ((0 ≤ s ∧ s < qN m) ∧ (0 ≤ t ∧ t < qS m) → ∀ n : Nat, n < 64 → gb x n = sf m b n s.toNat (qtt m t.toNat)) ∧ (¬ ((0 ≤ s ∧ s < qN m) ∧ (0 ≤ t ∧ t < qS m)) → x = -2) ∧ Mean (d + 10) 208 [.ref 140, .int (i32 s), .int (i32 t)] (176, zs Z, J, RP p0 p1 p2 p3 p4 p5 p6 p7) = some (some (.long x), (176, zs Z, J', RP p0 p1 p2 p3 p4 p5 p6 p7)) := by
  have h0 := MI_n h
  by_cases c1 : 0 ≤ s ∧ s < qN m
  · by_cases c2 : 0 ≤ t ∧ t < qS m
    · obtain ⟨J', h1, h2, h3⟩ := g_work (d := d) (J := J) (p0 := p0) (p1 := p1) (p2 := p2) (p3 := p3) (p4 := p4) (p5 := p5) (p6 := p6) (p7 := p7) h hx
      refine ⟨J', J' 162 (3 * s.toNat + qtt m t.toNat), h1, fun _ n hn => h2 _ _ n (by omega) (qtt_lt (by omega)) hn, fun q => absurd ⟨c1, c2⟩ q, ?_⟩
      rw [e_X11_safe]
      have h4 := g_safeAt (d := d + 7) (J := J') (p0 := p0) (p1 := p1) (p2 := p2) (p3 := p3) (p4 := p4) (p5 := p5) (p6 := p6) (p7 := p7) h (s := s.toNat) (t := t.toNat) (by omega) (by omega)
      rw [show ((s.toNat : Nat) : Int) = s by omega, show ((t.toNat : Nat) : Int) = t by omega] at h4
      simp (disch := omega) only [k_X11_safe_0, k_X11_safe_5, k_X11_safe_8, k_X11_safe_13, k_X11_safe_16, k_X11_safe_20, k_X11_safe_24, k_X11_safe_30, li_0, li_1, li_2, li_3, li_4, li_5, li_6, li_9, li_10, li_40, lm_1, lm_2, lm_3, lm_4, zs_ap, i32_add, i32_sub, i32_mul, i32_neg, i32_lt, i32_le, i32_eq, i32_nat, ckn, pka_r, pka_v, if_pos, if_neg, if_true, if_false, s_isState, s_isSide, bI_t, bI_f, h0, h3, h4]
    · refine ⟨J, -2, fun _ _ _ => rfl, fun q => absurd q.2 c2, fun _ => rfl, ?_⟩
      rw [e_X11_safe]
      simp (disch := omega) only [k_X11_safe_0, k_X11_safe_5, k_X11_safe_8, k_X11_safe_13, k_X11_safe_16, k_X11_safe_20, k_X11_safe_24, k_X11_safe_30, li_0, li_1, li_2, li_3, li_4, li_5, li_6, li_9, li_10, li_40, lm_1, lm_2, lm_3, lm_4, zs_ap, i32_add, i32_sub, i32_mul, i32_neg, i32_lt, i32_le, i32_eq, i32_nat, ckn, pka_r, pka_v, if_pos, if_neg, if_true, if_false, s_isState, s_isSide, bI_t, bI_f, h0]
  · refine ⟨J, -2, fun _ _ _ => rfl, fun q => absurd q.1 c1, fun _ => rfl, ?_⟩
    rw [e_X11_safe]
    simp (disch := omega) only [k_X11_safe_0, k_X11_safe_5, k_X11_safe_8, k_X11_safe_13, k_X11_safe_16, k_X11_safe_20, k_X11_safe_24, k_X11_safe_30, li_0, li_1, li_2, li_3, li_4, li_5, li_6, li_9, li_10, li_40, lm_1, lm_2, lm_3, lm_4, zs_ap, i32_add, i32_sub, i32_mul, i32_neg, i32_lt, i32_le, i32_eq, i32_nat, ckn, pka_r, pka_v, if_pos, if_neg, if_true, if_false, s_isState, s_isSide, bI_t, bI_f, h0]
def aMany (m : Mat) (b : Nat → Int) (t : Int) : Int := if 0 ≤ t ∧ t < qS m then (cntN (fun s => hld m b s (qtt m t.toNat)) (qN m) : Nat) else -2
theorem g_many (h : MI m Z) (hx : MX b Z) {t : Int} (ht : -2147483648 ≤ t ∧ t < 2147483648) : ∃ J' : Nat → Nat → Int64, (∀ a : Nat, a ≠ 162 → a ≠ 163 → J' a = J a) ∧ Mean (d + 10) 209 [.ref 140, .int (i32 t)] (176, zs Z, J, RP p0 p1 p2 p3 p4 p5 p6 p7) = some (some (.int (i32 (aMany m b t))), (176, zs Z, J', RP p0 p1 p2 p3 p4 p5 p6 p7)) := by
  have h0 := MI_n h
  by_cases c2 : 0 ≤ t ∧ t < qS m
  · obtain ⟨J', h1, h2, h3⟩ := g_work (d := d) (J := J) (p0 := p0) (p1 := p1) (p2 := p2) (p3 := p3) (p4 := p4) (p5 := p5) (p6 := p6) (p7 := p7) h hx
    refine ⟨J', h1, ?_⟩
    obtain ⟨t', rfl⟩ : ∃ t' : Nat, t = t' := ⟨t.toNat, by omega⟩
    unfold aMany
    rw [if_pos c2, Int.toNat_natCast, e_X11_many, k_X11_many_0]
    simp (disch := omega) only [k_X11_many_0, k_X11_many_5, k_X11_many_8, k_X11_many_11, k_X11_many_15, k_X11_many_27, k_X11_many_34, k_X11_many_39, k_X11_many_43, k_X11_many_44, k_X11_many_52, li_0, li_1, li_2, li_3, li_4, li_5, li_6, li_9, li_10, li_40, lm_1, lm_2, lm_3, lm_4, zs_ap, i32_add, i32_sub, i32_mul, i32_neg, i32_lt, i32_le, i32_eq, i32_nat, ckn, pka_r, pka_v, if_pos, if_neg, if_true, if_false, s_isSide, bI_t, bI_f, h0, h3]
    refine Eq.trans (up_eq (fun (k : Nat) => den none (Mean (d + 9)) (some .int) tQ_X11_many (19, [some (.ref 140), some (.int (i32 (t' : Int))), some (.int (i32 ((cntN (fun s => hld m b s (qtt m t')) k : Nat) : Int))), some (.int (i32 (k : Int)))], [], 176, zs Z, J', RP p0 p1 p2 p3 p4 p5 p6 p7)) (qN m) (fun k hk => ?_)) ?_
    · have hc := cntN_le (fun s => hld m b s (qtt m t')) k
      have h4 := wk_z h.1 h2 (s := k) (v := qtt m t') hk (qtt_lt (by omega))
      rw [k_X11_many_19]
      simp (disch := omega) only [k_X11_many_0, k_X11_many_5, k_X11_many_8, k_X11_many_11, k_X11_many_15, k_X11_many_27, k_X11_many_34, k_X11_many_39, k_X11_many_43, k_X11_many_44, k_X11_many_52, li_0, li_1, li_2, li_3, li_4, li_5, li_6, li_9, li_10, li_40, lm_1, lm_2, lm_3, lm_4, zs_ap, i32_add, i32_sub, i32_mul, i32_neg, i32_lt, i32_le, i32_eq, i32_nat, ckn, pka_r, pka_v, if_pos, if_neg, if_true, if_false, h0, g_safeAt h, cmp_z, h4]
      cases c : hld m b k (qtt m t')
      · simp (disch := omega) only [k_X11_many_0, k_X11_many_5, k_X11_many_8, k_X11_many_11, k_X11_many_15, k_X11_many_27, k_X11_many_34, k_X11_many_39, k_X11_many_43, k_X11_many_44, k_X11_many_52, li_0, li_1, li_2, li_3, li_4, li_5, li_6, li_9, li_10, li_40, lm_1, lm_2, lm_3, lm_4, zs_ap, i32_add, i32_sub, i32_mul, i32_neg, i32_lt, i32_le, i32_eq, i32_nat, ckn, pka_r, pka_v, if_pos, if_neg, if_true, if_false, cntN, c, Bool.false_eq_true]
        rfl
      · rw [if_neg (by simp)]
        simp (disch := omega) only [k_X11_many_0, k_X11_many_5, k_X11_many_8, k_X11_many_11, k_X11_many_15, k_X11_many_27, k_X11_many_34, k_X11_many_39, k_X11_many_43, k_X11_many_44, k_X11_many_52, li_0, li_1, li_2, li_3, li_4, li_5, li_6, li_9, li_10, li_40, lm_1, lm_2, lm_3, lm_4, zs_ap, i32_add, i32_sub, i32_mul, i32_neg, i32_lt, i32_le, i32_eq, i32_nat, ckn, pka_r, pka_v, if_pos, if_neg, if_true, if_false, cntN, c]
        rfl
    · rw [k_X11_many_19]
      simp (disch := omega) only [k_X11_many_0, k_X11_many_5, k_X11_many_8, k_X11_many_11, k_X11_many_15, k_X11_many_27, k_X11_many_34, k_X11_many_39, k_X11_many_43, k_X11_many_44, k_X11_many_52, li_0, li_1, li_2, li_3, li_4, li_5, li_6, li_9, li_10, li_40, lm_1, lm_2, lm_3, lm_4, zs_ap, i32_add, i32_sub, i32_mul, i32_neg, i32_lt, i32_le, i32_eq, i32_nat, ckn, pka_r, pka_v, if_pos, if_neg, if_true, if_false, h0]
  · refine ⟨J, fun _ _ _ => rfl, ?_⟩
    unfold aMany
    rw [if_neg c2, e_X11_many]
    simp (disch := omega) only [k_X11_many_0, k_X11_many_5, k_X11_many_8, k_X11_many_11, k_X11_many_15, k_X11_many_27, k_X11_many_34, k_X11_many_39, k_X11_many_43, k_X11_many_44, k_X11_many_52, li_0, li_1, li_2, li_3, li_4, li_5, li_6, li_9, li_10, li_40, lm_1, lm_2, lm_3, lm_4, zs_ap, i32_add, i32_sub, i32_mul, i32_neg, i32_lt, i32_le, i32_eq, i32_nat, ckn, pka_r, pka_v, if_pos, if_neg, if_true, if_false, s_isSide, bI_t, bI_f, h0]
end
