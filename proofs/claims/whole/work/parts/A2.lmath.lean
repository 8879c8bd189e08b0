/-! THE LEAST ROW, as the class takes it: one side after another -/
def cselB (m : Mat) (i : Nat) : Nat → Bool := fun k => decide (qown m k = i)
def cs (m : Mat) (f : Nat → Bool) : Nat → Nat → Nat → Nat
  | 0, _, to => to
  | j + 1, i, to => if AL m f j to then cs m f j (i + 1) to else cs m f j (i + 1) (gTo m to (cselB m i) (AL m f j))
def csg (m : Mat) (f : Nat → Bool) : Nat → Nat → Nat → Nat → Int
  | 0, _, _, _ => -1
  | j + 1, i, to, w => if AL m f j to then (if w = i then -1 else csg m f j (i + 1) to w) else (if w = i then ((10 * gK m to (cselB m i) (AL m f j) + gQ m to (cselB m i) (AL m f j) : Nat) : Int) else csg m f j (i + 1) (gTo m to (cselB m i) (AL m f j)) w)
theorem cs_s (m : Mat) (f : Nat → Bool) (j i to : Nat) : cs m f (j + 1) i to = if AL m f j to then cs m f j (i + 1) to else cs m f j (i + 1) (gTo m to (cselB m i) (AL m f j)) := rfl
theorem csg_s (m : Mat) (f : Nat → Bool) (j i to w : Nat) : csg m f (j + 1) i to w = if AL m f j to then (if w = i then -1 else csg m f j (i + 1) to w) else (if w = i then ((10 * gK m to (cselB m i) (AL m f j) + gQ m to (cselB m i) (AL m f j) : Nat) : Int) else csg m f j (i + 1) (gTo m to (cselB m i) (AL m f j)) w) := rfl
theorem AL_gs {m : Mat} {f : Nat → Bool} {j i to : Nat} (hi : i + (j + 1) = qS m) (h : AL m f (j + 1) to = true) (h0 : AL m f j to = false) : givs m to (cselB m i) (AL m f j) = true := by
  rw [AL_s, h0, Bool.false_or, show qS m - 1 - j = i by omega] at h
  exact h
/-- the class's way and the reference's are one -/
theorem ch_cs {m : Mat} {s : Nat} (hs : s < qN m) {f : Nat → Bool} (hf : f s = false) : ∀ (j i g to : Nat), i + j = qS m → (g = 0 → to = s) → to < qN m → (∀ k : Nat, k < qP m → i ≤ qown m k → qhas m to k = qhas m s k) → tgB m s f j i g to = true → chN m s f j i g to = cs m f j i to ∧ ∀ w : Nat, i ≤ w → chG m s f j i g to w = csg m f j i to w
  | 0, i, g, to, _, _, _, _, _ => ⟨rfl, fun _ _ => rfl⟩
  | j + 1, i, g, to, hi, hg0, hto, hd, h => by
    have eA : tgB m s f j (i + 1) g to = AL m f j to := by
      cases g with
      | zero =>
        rw [hg0 rfl, tg_TJ hs j (i + 1) (by omega), AL_TJ, hf, Bool.false_or]
      | succ g => exact tg_AL hs j (i + 1) g to (by omega) hto (fun k hk ho => hd k hk (by omega))
    rw [chN_s, cs_s, eA]
    cases cA : AL m f j to
    · rw [if_neg Bool.false_ne_true, if_neg Bool.false_ne_true]
      have hq : ∀ k q : Nat, k < qP m → qown m k = i → tQp m s f j i g to k q = gQp m to k (AL m f j) q := fun k q hk ho => by
        have hk' := hd k hk (by omega)
        unfold tQp gQp
        rw [may_c hk']
        cases cm : qmay m s k (q + 1)
        · rfl
        · have hml := may_le cm
          rw [Bool.true_and, Bool.true_and, tg_AL hs j (i + 1) g _ (by omega) (by omega) (fun k' hk2 ho2 => ?_)]
          rw [has_sub hto hk (by omega) hk2, if_neg (fun e => by subst e; omega)]
          exact hd k' hk2 (by omega)
      have hkp : ∀ k : Nat, k < qP m → tKp m s f j i g to k = (fun k => cselB m i k && giv m to k (AL m f j)) k := fun k hk => by
        unfold tKp
        show _ = (decide (qown m k = i) && giv m to k (AL m f j))
        by_cases ho : qown m k = i
        · rw [giv_gQ, anyN_congr 9 (fun q _ => hq k q hk ho)]
        · rw [decide_eq_false ho, Bool.false_and, Bool.false_and]
      have eK : tK m s f j i g to = gK m to (cselB m i) (AL m f j) := fstN_congr _ hkp
      have hgs : givs m to (cselB m i) (AL m f j) = true := by
        rw [tgB_s, eA, cA, Bool.false_or, anyN_congr _ hkp] at h
        exact h
      obtain ⟨k1, k2, k3, k4, k5⟩ := gK_ok hgs
      have ho : qown m (gK m to (cselB m i) (AL m f j)) = i := of_decide_eq_true k2
      have eQ : tQ m s f j i g to = gQ m to (cselB m i) (AL m f j) := by
        unfold tQ gQ
        rw [eK, fstN_congr 9 (fun q _ => hq _ q k1 ho)]
      have eT : to - tQ m s f j i g to * qpl m (tK m s f j i g to) = gTo m to (cselB m i) (AL m f j) := by
        rw [eK, eQ]
        rfl
      have hlt := gTo_lt hgs
      have hml := may_le k4
      have hd' : ∀ k : Nat, k < qP m → i + 1 ≤ qown m k → qhas m (gTo m to (cselB m i) (AL m f j)) k = qhas m s k := fun k hk ho2 => by
        unfold gTo
        rw [has_sub hto k1 (by omega) hk, if_neg (fun e => by subst e; omega)]
        exact hd k hk (by omega)
      have h' : tgB m s f j (i + 1) (g + 1) (gTo m to (cselB m i) (AL m f j)) = true := by
        rw [tg_AL hs j (i + 1) g _ (by omega) (by omega) hd']
        exact k5
      obtain ⟨r1, r2⟩ := ch_cs hs hf j (i + 1) (g + 1) _ (by omega) (by omega) (by omega) hd' h'
      rw [eT]
      refine ⟨r1, fun w hw => ?_⟩
      rw [chG_s, csg_s, eA, cA, if_neg Bool.false_ne_true, if_neg Bool.false_ne_true, eT, eK, eQ]
      by_cases cw : w = i
      · rw [if_pos cw, if_pos cw]
      · rw [if_neg cw, if_neg cw]
        exact r2 w (by omega)
    · rw [if_pos rfl, if_pos rfl]
      have h' : tgB m s f j (i + 1) g to = true := by rw [eA, cA]
      obtain ⟨r1, r2⟩ := ch_cs hs hf j (i + 1) g to (by omega) hg0 hto (fun k hk ho => hd k hk (by omega)) h'
      refine ⟨r1, fun w hw => ?_⟩
      rw [chG_s, csg_s, eA, cA, if_pos rfl, if_pos rfl]
      by_cases cw : w = i
      · rw [if_pos cw, if_pos cw]
      · rw [if_neg cw, if_neg cw]
        exact r2 w (by omega)
/-- a step that leads on leads on to whatever holds there -/
theorem ch_g {m : Mat} {s : Nat} {f h : Nat → Bool} : ∀ (j i g to : Nat), tgB m s f j i g to = true → h (chN m s f j i g to) = true → tgB m s h j i g to = true
  | 0, i, g, to, h1, h2 => by
    have h1' : (decide (0 < g) && f to) = true := h1
    rw [Bool.and_eq_true] at h1'
    show (decide (0 < g) && h to) = true
    rw [Bool.and_eq_true]
    exact ⟨h1'.1, h2⟩
  | j + 1, i, g, to, h1, h2 => by
    rw [chN_s] at h2
    rw [tgB_s] at h1 ⊢
    rw [Bool.or_eq_true]
    cases c : tgB m s f j (i + 1) g to
    · rw [c, if_neg Bool.false_ne_true] at h2
      rw [c, Bool.false_or] at h1
      right
      obtain ⟨a1, a2, _⟩ := fstN_lt _ h1
      have a2' : tKp m s f j i g to (tK m s f j i g to) = true := a2
      unfold tKp at a2'
      rw [Bool.and_eq_true] at a2'
      obtain ⟨b1, b2, _⟩ := fstN_lt _ a2'.2
      have b2' : tQp m s f j i g to (tK m s f j i g to) (fstN (tQp m s f j i g to (tK m s f j i g to)) 9) = true := b2
      unfold tQp at b2'
      rw [Bool.and_eq_true] at b2'
      refine (anyN_iff _).mpr ⟨tK m s f j i g to, a1, ?_⟩
      unfold tKp
      rw [Bool.and_eq_true]
      refine ⟨a2'.1, (anyN_iff _).mpr ⟨fstN (tQp m s f j i g to (tK m s f j i g to)) 9, b1, ?_⟩⟩
      unfold tQp
      rw [Bool.and_eq_true]
      exact ⟨b2'.1, ch_g j (i + 1) (g + 1) _ b2'.2 h2⟩
    · rw [c, if_pos rfl] at h2
      exact Or.inl (ch_g j (i + 1) g to c h2)
/-- on a row with fewest steps there is no shorter one -/
theorem row_min {m : Mat} (hw : wf m) {b : Nat → Int} (h2 : qmode m = 2) {n s t : Nat} (hsn : s < qN m) (h : sf m b n s t = true) (hmin : ∀ n' : Nat, n' < n → sf m b n' s t = false) : ∀ k : Nat, k ≤ n → ∀ n' : Nat, n' < n - k → sf m b n' (rwS m b n s t k) 0 = false := by
  have ht0 : ∀ (n' u v v' : Nat), sf m b n' u v = sf m b n' u v' := fun n' u v v' => by
    cases n' with
    | zero => rfl
    | succ n' =>
      show ((!decide (u = qfin m) && qstay m b u (n' + 1)) && onw m (sf m b n') u v) = ((!decide (u = qfin m) && qstay m b u (n' + 1)) && onw m (sf m b n') u v')
      unfold onw
      rw [if_pos h2, if_pos h2]
  intro k
  induction k with
  | zero =>
    intro _ n' hn'
    rw [ht0 n' _ 0 t]
    exact hmin n' (by omega)
  | succ k ih =>
    intro hk n' hn'
    cases c : sf m b n' (rwS m b n s t (k + 1)) 0
    · rfl
    · exfalso
      have hr := (rw_sf h k (by omega)).1
      obtain ⟨r, hr'⟩ : ∃ r : Nat, n - k = r + 1 := ⟨n - k - 1, by omega⟩
      rw [hr'] at hr
      have hr2 : ((!decide (rwS m b n s t k = qfin m) && qstay m b (rwS m b n s t k) (r + 1)) && onw m (sf m b r) (rwS m b n s t k) (rwT m t k)) = true := hr
      rw [Bool.and_eq_true, Bool.and_eq_true] at hr2
      have hst : sty m b (rwS m b n s t k) (r + 1) = true := by
        unfold sty
        rw [Bool.and_eq_true]
        exact ⟨decide_eq_true (by omega), hr2.1.2⟩
      have hst2 := sty_dn hw (n' := n' + 1) (by omega) (by omega) hst
      unfold sty at hst2
      rw [Bool.and_eq_true] at hst2
      have hon : onw m (sf m b r) (rwS m b n s t k) (rwT m t k) = true := hr2.2
      have hstep : rwS m b n s t (k + 1) = chN m (rwS m b n s t k) (fun u => sf m b r u 0) (qS m) 0 0 (rwS m b n s t k) := by
        show stp m b (n - 1 - k) (rwS m b n s t k) (rwT m t k) = _
        rw [show n - 1 - k = r by omega]
        unfold stp
        rw [if_pos h2]
      unfold onw at hon
      rw [if_pos h2] at hon
      have hon2 : onw m (sf m b n') (rwS m b n s t k) 0 = true := by
        unfold onw
        rw [if_pos h2]
        refine ch_g (h := fun u => sf m b n' u 0) _ _ _ _ hon ?_
        rw [← hstep]
        exact c
      have : sf m b (n' + 1) (rwS m b n s t k) 0 = true := by
        show ((!decide (rwS m b n s t k = qfin m) && qstay m b (rwS m b n s t k) (n' + 1)) && onw m (sf m b n') (rwS m b n s t k) 0) = true
        rw [Bool.and_eq_true, Bool.and_eq_true]
        exact ⟨⟨hr2.1.1, hst2.2⟩, hon2⟩
      rw [ih (by omega) (n' + 1) (by omega)] at this
      cases this
