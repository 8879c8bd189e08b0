/-! THE MODEL'S chosen: the least STEP of all at once -/
theorem srchV {α σ : Type} (F : Nat → σ → α) (V : σ → Prop) (p : Nat → Bool) (n : Nat) (Q : Nat → α → Prop) (hit : ∀ (k : Nat) (x : σ), k < n → V x → p k = true → Q k (F k x)) (miss : ∀ (k : Nat) (x : σ), k < n → V x → p k = false → ∃ x' : σ, V x' ∧ F k x = F (k + 1) x') (x0 : σ) (h0 : V x0) : (anyN p n = true → Q (fstN p n) (F 0 x0)) ∧ (anyN p n = false → ∃ x' : σ, V x' ∧ F 0 x0 = F n x') := by
  have : ∀ k : Nat, k ≤ n → (∀ j : Nat, j < k → p j = false) → ∃ x' : σ, V x' ∧ F 0 x0 = F k x' := fun k => by
    induction k with
    | zero => exact fun _ _ => ⟨x0, h0, rfl⟩
    | succ k ih =>
      intro h h2
      obtain ⟨x1, v1, e1⟩ := ih (by omega) (fun j hj => h2 j (by omega))
      obtain ⟨x2, v2, e2⟩ := miss k x1 (by omega) v1 (h2 k (by omega))
      exact ⟨x2, v2, e1.trans e2⟩
  constructor
  · intro c
    obtain ⟨h1, h2, h3⟩ := fstN_lt n c
    obtain ⟨x1, v1, e1⟩ := this _ (by omega) h3
    rw [e1]
    exact hit _ x1 h1 v1 h2
  · intro c
    exact this n (Nat.le_refl _) (fun j hj => anyN_none c hj)
theorem MI_fr {m : Mat} {Z Z' : Nat → Nat → Int} (h : MI m Z) (h1 : ∀ j : Nat, j < 60 → Z' 140 j = Z 140 j) (h2 : ∀ a : Nat, 142 ≤ a → a ≤ 160 → Z' a = Z a) : MI m Z' := by
  refine ⟨h.1, MR_fr h.2.1 (fun j hj => h1 j (by omega)) (fun a ha hb => h2 a ha (by omega)), ?_, ?_⟩
  · have := h.2.2.1
    unfold mJk at this ⊢
    rw [h2 145 (by decide) (by decide), h2 159 (by decide) (by decide), h2 142 (by decide) (by decide), h2 160 (by decide) (by decide)]
    exact this
  · have := h.2.2.2
    unfold MT at this ⊢
    rw [h1 49 (by decide), h1 50 (by decide), h1 51 (by decide), h2 158 (by decide) (by decide), h2 159 (by decide) (by decide), h2 160 (by decide) (by decide)]
    exact this
def tQp (m : Mat) (s : Nat) (f : Nat → Bool) (j i g to k q : Nat) : Bool := qmay m s k (q + 1) && tgB m s f j (i + 1) (g + 1) (to - (q + 1) * qpl m k)
def tKp (m : Mat) (s : Nat) (f : Nat → Bool) (j i g to k : Nat) : Bool := decide (qown m k = i) && anyN (tQp m s f j i g to k) 9
theorem tgB_s (m : Mat) (s : Nat) (f : Nat → Bool) (j i g to : Nat) : tgB m s f (j + 1) i g to = (tgB m s f j (i + 1) g to || anyN (tKp m s f j i g to) (qP m)) := rfl
def tK (m : Mat) (s : Nat) (f : Nat → Bool) (j i g to : Nat) : Nat := fstN (tKp m s f j i g to) (qP m)
def tQ (m : Mat) (s : Nat) (f : Nat → Bool) (j i g to : Nat) : Nat := fstN (tQp m s f j i g to (tK m s f j i g to)) 9 + 1
def chN (m : Mat) (s : Nat) (f : Nat → Bool) : Nat → Nat → Nat → Nat → Nat
  | 0, _, _, to => to
  | j + 1, i, g, to => if tgB m s f j (i + 1) g to then chN m s f j (i + 1) g to else chN m s f j (i + 1) (g + 1) (to - tQ m s f j i g to * qpl m (tK m s f j i g to))
def chG (m : Mat) (s : Nat) (f : Nat → Bool) : Nat → Nat → Nat → Nat → Nat → Int
  | 0, _, _, _, _ => -1
  | j + 1, i, g, to, w => if tgB m s f j (i + 1) g to then (if w = i then -1 else chG m s f j (i + 1) g to w) else (if w = i then ((10 * tK m s f j i g to + tQ m s f j i g to : Nat) : Int) else chG m s f j (i + 1) (g + 1) (to - tQ m s f j i g to * qpl m (tK m s f j i g to)) w)
theorem chN_s (m : Mat) (s : Nat) (f : Nat → Bool) (j i g to : Nat) : chN m s f (j + 1) i g to = if tgB m s f j (i + 1) g to then chN m s f j (i + 1) g to else chN m s f j (i + 1) (g + 1) (to - tQ m s f j i g to * qpl m (tK m s f j i g to)) := rfl
theorem chG_s (m : Mat) (s : Nat) (f : Nat → Bool) (j i g to w : Nat) : chG m s f (j + 1) i g to w = if tgB m s f j (i + 1) g to then (if w = i then -1 else chG m s f j (i + 1) g to w) else (if w = i then ((10 * tK m s f j i g to + tQ m s f j i g to : Nat) : Int) else chG m s f j (i + 1) (g + 1) (to - tQ m s f j i g to * qpl m (tK m s f j i g to)) w) := rfl
theorem chN_le (m : Mat) (s : Nat) (f : Nat → Bool) : ∀ (j i g to : Nat), chN m s f j i g to ≤ to
  | 0, _, _, to => Nat.le_refl _
  | j + 1, i, g, to => by
    unfold chN
    split
    · exact chN_le m s f j (i + 1) g to
    · exact Nat.le_trans (chN_le m s f j (i + 1) (g + 1) _) (Nat.sub_le _ _)
/-- the rows of gifts, but those of a STEP from a SIDE on, are as they were -/
def CP (m : Mat) (st i : Nat) (Z0 Z : Nat → Nat → Int) : Prop := (∀ a : Nat, a ≠ 164 → Z a = Z0 a) ∧ ∀ x : Nat, (x < 3 * st + i ∨ 3 * st + qS m ≤ x) → Z 164 x = Z0 164 x
theorem CP_tr {m : Mat} {st i : Nat} {Z0 Z1 Z2 : Nat → Nat → Int} (h1 : CP m st i Z0 Z1) (h2 : CP m st (i + 1) Z1 Z2) : CP m st i Z0 Z2 := ⟨fun a ha => (h2.1 a ha).trans (h1.1 a ha), fun x hx => (h2.2 x (by omega)).trans (h1.2 x hx)⟩
theorem CP_u {m : Mat} {st i : Nat} {Z0 Z1 : Nat → Nat → Int} {v : Int} (h1 : CP m st i Z0 Z1) (hi : i < qS m) : CP m st i Z0 (u2 Z1 164 (3 * st + i) v) := ⟨fun a ha => (u2_ne ha).trans (h1.1 a ha), fun x hx => (u2f (by omega)).trans (h1.2 x hx)⟩
theorem CP_MI {m : Mat} {st i : Nat} {Z0 Z : Nat → Nat → Int} (h : MI m Z0) (h1 : CP m st i Z0 Z) : MI m Z := MI_fr h (fun j _ => by rw [h1.1 140 (by decide)]) (fun a _ hb => h1.1 a (by omega))
section
variable {d : Nat} {J : Nat → Nat → Int64} {p0 p1 p2 p3 p4 p5 p6 p7 : Nat} {m : Mat} {b : Nat → Int}
theorem ch_end {Z : Nat → Nat → Int} {x1 x2 x3 x4 x5 x6 : Int32} {v : Nat} {k : Nat} {o9 : Option Value} (hv : v < 400) (hk : k < 100) (h : MI m Z) : den none (Mean d) (some .int) tQ_X11_chosen (64, [some (.ref 140), some (.int x1), some (.int x2), some (.int x3), some (.int x4), some (.int x5), some (.int x6), some (.int (i32 (v : Int))), some (.int (i32 (k : Int))), o9], [], 176, zs Z, J, RP p0 p1 p2 p3 p4 p5 p6 p7) = some (some (.int (i32 (v : Int))), (176, zs Z, J, RP p0 p1 p2 p3 p4 p5 p6 p7)) := by
  have h0 := MI_n h
  rw [k_X11_chosen_64]
  by_cases c : qP m ≤ k
  · simp (disch := omega) only [k_X11_chosen_0, k_X11_chosen_9, k_X11_chosen_14, k_X11_chosen_22, k_X11_chosen_25, k_X11_chosen_30, k_X11_chosen_31, k_X11_chosen_32, k_X11_chosen_44, k_X11_chosen_59, k_X11_chosen_73, k_X11_chosen_79, k_X11_chosen_86, k_X11_chosen_91, k_X11_chosen_94, k_X11_chosen_104, k_X11_chosen_110, k_X11_chosen_119, k_X11_chosen_122, k_X11_chosen_125, k_X11_chosen_148, k_X11_chosen_153, k_X11_chosen_161, k_X11_chosen_180, k_X11_chosen_186, k_X11_chosen_192, li_0, li_1, li_2, li_3, li_4, li_5, li_6, li_9, li_10, li_40, lm_1, lm_2, lm_3, lm_4, zs_ap, i32_add, i32_sub, i32_mul, i32_neg, i32_lt, i32_le, i32_eq, i32_nat, ckn, pka_r, pka_v, if_pos, if_neg, if_true, if_false, h0]
  · simp (disch := omega) only [k_X11_chosen_0, k_X11_chosen_9, k_X11_chosen_14, k_X11_chosen_22, k_X11_chosen_25, k_X11_chosen_30, k_X11_chosen_31, k_X11_chosen_32, k_X11_chosen_44, k_X11_chosen_59, k_X11_chosen_73, k_X11_chosen_79, k_X11_chosen_86, k_X11_chosen_91, k_X11_chosen_94, k_X11_chosen_104, k_X11_chosen_110, k_X11_chosen_119, k_X11_chosen_122, k_X11_chosen_125, k_X11_chosen_148, k_X11_chosen_153, k_X11_chosen_161, k_X11_chosen_180, k_X11_chosen_186, k_X11_chosen_192, li_0, li_1, li_2, li_3, li_4, li_5, li_6, li_9, li_10, li_40, lm_1, lm_2, lm_3, lm_4, zs_ap, i32_add, i32_sub, i32_mul, i32_neg, i32_lt, i32_le, i32_eq, i32_nat, ckn, pka_r, pka_v, if_pos, if_neg, if_true, if_false, h0]
theorem g_chosen {s st n : Nat} (hs : s < qN m) (hst : st < 40) (hn : n < 64) (h2 : qmode m = 2) (hk : WK m b J) : ∀ (j i g to : Nat) (Z : Nat → Nat → Int), MI m Z → i + j = qS m → g ≤ i → to < qN m → (∀ k : Nat, k < qP m → i ≤ qown m k → qhas m to k = qhas m s k) →
    ∃ (Z' : Nat → Nat → Int), CP m st i Z Z' ∧ (tgB m s (fun u => sf m b n u 0) j i g to = true → ∀ w : Nat, i ≤ w → w < qS m → Z' 164 (3 * st + w) = chG m s (fun u => sf m b n u 0) j i g to w) ∧ Mean (d + j + 3) 205 [.ref 140, .int (i32 (s : Int)), .int (i32 (st : Int)), .int (i32 (n : Int)), .int (i32 (i : Int)), .int (i32 (g : Int)), .int (i32 (to : Int))] (176, zs Z, J, RP p0 p1 p2 p3 p4 p5 p6 p7) = some (some (.int (i32 (if tgB m s (fun u => sf m b n u 0) j i g to then ((chN m s (fun u => sf m b n u 0) j i g to : Nat) : Int) else -1))), (176, zs Z', J, RP p0 p1 p2 p3 p4 p5 p6 p7)) := by
  generalize hf : (fun u => sf m b n u 0) = f
  have hfu : ∀ u : Nat, sf m b n u 0 = f u := fun u => congrFun hf u
  have h1t : qturns m = 1 := by unfold qturns; rw [if_neg (by omega)]
  intro j
  induction j with
  | zero =>
    intro i g to Z h hi hg hto hd
    have h0 := MI_n h
    have hi' : i = qS m := by omega
    refine ⟨Z, ⟨fun _ _ => rfl, fun _ _ => rfl⟩, fun _ w hw hw2 => absurd hw (by omega), ?_⟩
    rw [e_X11_chosen]
    unfold tgB chN
    have hsafe := g_isSafe (d := d + 1) (p0 := p0) (p1 := p1) (p2 := p2) (p3 := p3) (p4 := p4) (p5 := p5) (p6 := p6) (p7 := p7) h hk (s := to) (v := 0) (n := n) hto (by omega) hn
    rw [hfu] at hsafe
    by_cases c : 0 < g
    · rw [decide_eq_true c, Bool.true_and]
      cases cf : f to
      · rw [cf, bBf] at hsafe
        simp (disch := omega) only [k_X11_chosen_0, k_X11_chosen_9, k_X11_chosen_14, k_X11_chosen_22, k_X11_chosen_25, k_X11_chosen_30, k_X11_chosen_31, k_X11_chosen_32, k_X11_chosen_44, k_X11_chosen_59, k_X11_chosen_73, k_X11_chosen_79, k_X11_chosen_86, k_X11_chosen_91, k_X11_chosen_94, k_X11_chosen_104, k_X11_chosen_110, k_X11_chosen_119, k_X11_chosen_122, k_X11_chosen_125, k_X11_chosen_148, k_X11_chosen_153, k_X11_chosen_161, k_X11_chosen_180, k_X11_chosen_186, k_X11_chosen_192, li_0, li_1, li_2, li_3, li_4, li_5, li_6, li_9, li_10, li_40, lm_1, lm_2, lm_3, lm_4, zs_ap, i32_add, i32_sub, i32_mul, i32_neg, i32_lt, i32_le, i32_eq, i32_nat, ckn, pka_r, pka_v, if_pos, if_neg, if_true, if_false, h0]
        refine (congrArg (fun o => pka o _ _) hsafe).trans ?_
        simp (disch := omega) only [k_X11_chosen_0, k_X11_chosen_9, k_X11_chosen_14, k_X11_chosen_22, k_X11_chosen_25, k_X11_chosen_30, k_X11_chosen_31, k_X11_chosen_32, k_X11_chosen_44, k_X11_chosen_59, k_X11_chosen_73, k_X11_chosen_79, k_X11_chosen_86, k_X11_chosen_91, k_X11_chosen_94, k_X11_chosen_104, k_X11_chosen_110, k_X11_chosen_119, k_X11_chosen_122, k_X11_chosen_125, k_X11_chosen_148, k_X11_chosen_153, k_X11_chosen_161, k_X11_chosen_180, k_X11_chosen_186, k_X11_chosen_192, li_0, li_1, li_2, li_3, li_4, li_5, li_6, li_9, li_10, li_40, lm_1, lm_2, lm_3, lm_4, zs_ap, i32_add, i32_sub, i32_mul, i32_neg, i32_lt, i32_le, i32_eq, i32_nat, ckn, pka_r, pka_v, if_pos, if_neg, if_true, if_false, Bool.false_eq_true]
      · rw [cf, bBt] at hsafe
        simp (disch := omega) only [k_X11_chosen_0, k_X11_chosen_9, k_X11_chosen_14, k_X11_chosen_22, k_X11_chosen_25, k_X11_chosen_30, k_X11_chosen_31, k_X11_chosen_32, k_X11_chosen_44, k_X11_chosen_59, k_X11_chosen_73, k_X11_chosen_79, k_X11_chosen_86, k_X11_chosen_91, k_X11_chosen_94, k_X11_chosen_104, k_X11_chosen_110, k_X11_chosen_119, k_X11_chosen_122, k_X11_chosen_125, k_X11_chosen_148, k_X11_chosen_153, k_X11_chosen_161, k_X11_chosen_180, k_X11_chosen_186, k_X11_chosen_192, li_0, li_1, li_2, li_3, li_4, li_5, li_6, li_9, li_10, li_40, lm_1, lm_2, lm_3, lm_4, zs_ap, i32_add, i32_sub, i32_mul, i32_neg, i32_lt, i32_le, i32_eq, i32_nat, ckn, pka_r, pka_v, if_pos, if_neg, if_true, if_false, h0]
        refine (congrArg (fun o => pka o _ _) hsafe).trans ?_
        simp (disch := omega) only [k_X11_chosen_0, k_X11_chosen_9, k_X11_chosen_14, k_X11_chosen_22, k_X11_chosen_25, k_X11_chosen_30, k_X11_chosen_31, k_X11_chosen_32, k_X11_chosen_44, k_X11_chosen_59, k_X11_chosen_73, k_X11_chosen_79, k_X11_chosen_86, k_X11_chosen_91, k_X11_chosen_94, k_X11_chosen_104, k_X11_chosen_110, k_X11_chosen_119, k_X11_chosen_122, k_X11_chosen_125, k_X11_chosen_148, k_X11_chosen_153, k_X11_chosen_161, k_X11_chosen_180, k_X11_chosen_186, k_X11_chosen_192, li_0, li_1, li_2, li_3, li_4, li_5, li_6, li_9, li_10, li_40, lm_1, lm_2, lm_3, lm_4, zs_ap, i32_add, i32_sub, i32_mul, i32_neg, i32_lt, i32_le, i32_eq, i32_nat, ckn, pka_r, pka_v, if_pos, if_neg, if_true, if_false]
    · rw [decide_eq_false c, Bool.false_and]
      simp (disch := omega) only [k_X11_chosen_0, k_X11_chosen_9, k_X11_chosen_14, k_X11_chosen_22, k_X11_chosen_25, k_X11_chosen_30, k_X11_chosen_31, k_X11_chosen_32, k_X11_chosen_44, k_X11_chosen_59, k_X11_chosen_73, k_X11_chosen_79, k_X11_chosen_86, k_X11_chosen_91, k_X11_chosen_94, k_X11_chosen_104, k_X11_chosen_110, k_X11_chosen_119, k_X11_chosen_122, k_X11_chosen_125, k_X11_chosen_148, k_X11_chosen_153, k_X11_chosen_161, k_X11_chosen_180, k_X11_chosen_186, k_X11_chosen_192, li_0, li_1, li_2, li_3, li_4, li_5, li_6, li_9, li_10, li_40, lm_1, lm_2, lm_3, lm_4, zs_ap, i32_add, i32_sub, i32_mul, i32_neg, i32_lt, i32_le, i32_eq, i32_nat, ckn, pka_r, pka_v, if_pos, if_neg, if_true, if_false, h0, Bool.false_eq_true]
  | succ j ih =>
    intro i g to Z h hi hg hto hd
    have h0 := MI_n h
    have hCP0 : CP m st i Z (u2 Z 164 (3 * st + i) (-1)) := CP_u ⟨fun _ _ => rfl, fun _ _ => rfl⟩ (by omega)
    obtain ⟨Z1, a1, a2, a3⟩ := ih (i + 1) g to _ (CP_MI h hCP0) (by omega) (by omega) hto (fun k hk ho => hd k hk (by omega))
    have b1 := CP_tr hCP0 a1
    have b2 : Z1 164 (3 * st + i) = -1 := by rw [a1.2 _ (by omega), u2s]
    have e0 : Mean (d + (j + 1) + 3) 205 [.ref 140, .int (i32 (s : Int)), .int (i32 (st : Int)), .int (i32 (n : Int)), .int (i32 (i : Int)), .int (i32 (g : Int)), .int (i32 (to : Int))] (176, zs Z, J, RP p0 p1 p2 p3 p4 p5 p6 p7) = den none (Mean (d + j + 3)) (some .int) tQ_X11_chosen (64, [some (.ref 140), some (.int (i32 (s : Int))), some (.int (i32 (st : Int))), some (.int (i32 (n : Int))), some (.int (i32 (i : Int))), some (.int (i32 (g : Int))), some (.int (i32 (to : Int))), some (.int (i32 (if tgB m s f j (i + 1) g to then ((chN m s f j (i + 1) g to : Nat) : Int) else -1))), some (.int (i32 ((0 : Nat) : Int))), none], [], 176, zs Z1, J, RP p0 p1 p2 p3 p4 p5 p6 p7) := by
      rw [show d + (j + 1) + 3 = (d + j + 3) + 1 by omega, e_X11_chosen]
      simp (disch := omega) only [k_X11_chosen_0, k_X11_chosen_9, k_X11_chosen_14, k_X11_chosen_22, k_X11_chosen_25, k_X11_chosen_30, k_X11_chosen_31, k_X11_chosen_32, k_X11_chosen_44, k_X11_chosen_59, k_X11_chosen_73, k_X11_chosen_79, k_X11_chosen_86, k_X11_chosen_91, k_X11_chosen_94, k_X11_chosen_104, k_X11_chosen_110, k_X11_chosen_119, k_X11_chosen_122, k_X11_chosen_125, k_X11_chosen_148, k_X11_chosen_153, k_X11_chosen_161, k_X11_chosen_180, k_X11_chosen_186, k_X11_chosen_192, li_0, li_1, li_2, li_3, li_4, li_5, li_6, li_9, li_10, li_40, lm_1, lm_2, lm_3, lm_4, zs_ap, i32_add, i32_sub, i32_mul, i32_neg, i32_lt, i32_le, i32_eq, i32_nat, ckn, pka_r, pka_v, if_pos, if_neg, if_true, if_false, h0, show (3 * (st : Int) + (i : Int)).toNat = 3 * st + i by omega, zs_u2]
      rw [show (i : Int) + 1 = ((i + 1 : Nat) : Int) by omega, a3]
      simp (disch := omega) only [k_X11_chosen_0, k_X11_chosen_9, k_X11_chosen_14, k_X11_chosen_22, k_X11_chosen_25, k_X11_chosen_30, k_X11_chosen_31, k_X11_chosen_32, k_X11_chosen_44, k_X11_chosen_59, k_X11_chosen_73, k_X11_chosen_79, k_X11_chosen_86, k_X11_chosen_91, k_X11_chosen_94, k_X11_chosen_104, k_X11_chosen_110, k_X11_chosen_119, k_X11_chosen_122, k_X11_chosen_125, k_X11_chosen_148, k_X11_chosen_153, k_X11_chosen_161, k_X11_chosen_180, k_X11_chosen_186, k_X11_chosen_192, li_0, li_1, li_2, li_3, li_4, li_5, li_6, li_9, li_10, li_40, lm_1, lm_2, lm_3, lm_4, zs_ap, i32_add, i32_sub, i32_mul, i32_neg, i32_lt, i32_le, i32_eq, i32_nat, ckn, pka_r, pka_v, if_pos, if_neg, if_true, if_false]
      rfl
    cases ct : tgB m s f j (i + 1) g to
    · rw [ct, if_neg Bool.false_ne_true] at e0
      have inn : ∀ (k : Nat) (Zx : Nat → Nat → Int), k < qP m → qown m k = i → CP m st i Z Zx → (anyN (tQp m s f j i g to k) 9 = true → ∃ Z' : Nat → Nat → Int, CP m st i Z Z' ∧ Z' 164 (3 * st + i) = ((10 * k + (fstN (tQp m s f j i g to k) 9 + 1) : Nat) : Int) ∧ (∀ w : Nat, i < w → w < qS m → Z' 164 (3 * st + w) = chG m s f j (i + 1) (g + 1) (to - (fstN (tQp m s f j i g to k) 9 + 1) * qpl m k) w) ∧ den none (Mean (d + j + 3)) (some .int) tQ_X11_chosen (97, [some (.ref 140), some (.int (i32 (s : Int))), some (.int (i32 (st : Int))), some (.int (i32 (n : Int))), some (.int (i32 (i : Int))), some (.int (i32 (g : Int))), some (.int (i32 (to : Int))), some (.int (i32 (-1))), some (.int (i32 (k : Int))), some (.int (i32 ((0 + 1 : Nat) : Int)))], [], 176, zs Zx, J, RP p0 p1 p2 p3 p4 p5 p6 p7) = some (some (.int (i32 ((chN m s f j (i + 1) (g + 1) (to - (fstN (tQp m s f j i g to k) 9 + 1) * qpl m k) : Nat) : Int))), (176, zs Z', J, RP p0 p1 p2 p3 p4 p5 p6 p7))) ∧ (anyN (tQp m s f j i g to k) 9 = false → ∃ Z' : Nat → Nat → Int, CP m st i Z Z' ∧ den none (Mean (d + j + 3)) (some .int) tQ_X11_chosen (97, [some (.ref 140), some (.int (i32 (s : Int))), some (.int (i32 (st : Int))), some (.int (i32 (n : Int))), some (.int (i32 (i : Int))), some (.int (i32 (g : Int))), some (.int (i32 (to : Int))), some (.int (i32 (-1))), some (.int (i32 (k : Int))), some (.int (i32 ((0 + 1 : Nat) : Int)))], [], 176, zs Zx, J, RP p0 p1 p2 p3 p4 p5 p6 p7) = den none (Mean (d + j + 3)) (some .int) tQ_X11_chosen (97, [some (.ref 140), some (.int (i32 (s : Int))), some (.int (i32 (st : Int))), some (.int (i32 (n : Int))), some (.int (i32 (i : Int))), some (.int (i32 (g : Int))), some (.int (i32 (to : Int))), some (.int (i32 (-1))), some (.int (i32 (k : Int))), some (.int (i32 ((9 + 1 : Nat) : Int)))], [], 176, zs Z', J, RP p0 p1 p2 p3 p4 p5 p6 p7)) := by
        intro k Zx hkP hown hx
        have hpl := qpl_b h.1 (k := k) (by omega)
        refine srchV (fun (q : Nat) (x : Nat → Nat → Int) => den none (Mean (d + j + 3)) (some .int) tQ_X11_chosen (97, [some (.ref 140), some (.int (i32 (s : Int))), some (.int (i32 (st : Int))), some (.int (i32 (n : Int))), some (.int (i32 (i : Int))), some (.int (i32 (g : Int))), some (.int (i32 (to : Int))), some (.int (i32 (-1))), some (.int (i32 (k : Int))), some (.int (i32 ((q + 1 : Nat) : Int)))], [], 176, zs x, J, RP p0 p1 p2 p3 p4 p5 p6 p7)) (fun x => CP m st i Z x) (tQp m s f j i g to k) 9 (fun q r => ∃ Z' : Nat → Nat → Int, CP m st i Z Z' ∧ Z' 164 (3 * st + i) = ((10 * k + (q + 1) : Nat) : Int) ∧ (∀ w : Nat, i < w → w < qS m → Z' 164 (3 * st + w) = chG m s f j (i + 1) (g + 1) (to - (q + 1) * qpl m k) w) ∧ r = some (some (.int (i32 ((chN m s f j (i + 1) (g + 1) (to - (q + 1) * qpl m k) : Nat) : Int))), (176, zs Z', J, RP p0 p1 p2 p3 p4 p5 p6 p7))) (fun q x hq hx hp => ?_) (fun q x hq hx hp => ?_) Zx hx
        · have hMx := CP_MI h hx
          have hr := hMx.2.2.2.2.1 k (by omega)
          unfold tQp at hp
          rw [Bool.and_eq_true] at hp
          have hle := may_le hp.1
          have hto' : (q + 1) ≤ qhas m to k := by rw [hd k hkP (by omega)]; omega
          have hsub := sub_le hto'
          have ec := sub_c hsub
          obtain ⟨Z2, c1, c2, c3⟩ := ih (i + 1) (g + 1) (to - (q + 1) * qpl m k) x hMx (by omega) (by omega) (by omega) (fun k' hk' ho' => by
            rw [has_sub hto hkP hto' hk', if_neg (by intro e; subst e; omega)]
            exact hd k' hk' (by omega))
          rw [hp.2, if_pos rfl] at c3
          have hcl := chN_le m s f j (i + 1) (g + 1) (to - (q + 1) * qpl m k)
          refine ⟨u2 Z2 164 (3 * st + i) ((10 * k + (q + 1) : Nat) : Int), CP_u (CP_tr hx c1) (by omega), u2s, fun w hw1 hw2 => ?_, ?_⟩
          · rw [u2f (by omega)]
            exact c2 hp.2 w (by omega) hw2
          · have hMe := CP_MI h (CP_u (v := ((10 * k + (q + 1) : Nat) : Int)) (CP_tr hx c1) (show i < qS m by omega))
            refine Eq.trans ?_ (ch_end (d := d + j + 3) (J := J) (p0 := p0) (p1 := p1) (p2 := p2) (p3 := p3) (p4 := p4) (p5 := p5) (p6 := p6) (p7 := p7) (x1 := i32 (s : Int)) (x2 := i32 (st : Int)) (x3 := i32 (n : Int)) (x4 := i32 (i : Int)) (x5 := i32 (g : Int)) (x6 := i32 (to : Int)) (v := chN m s f j (i + 1) (g + 1) (to - (q + 1) * qpl m k)) (k := k + 1) (o9 := some (.int (i32 ((q + 1 + 1 : Nat) : Int)))) (by omega) (by omega) hMe)
            rw [k_X11_chosen_97]
            simp (disch := omega) only [k_X11_chosen_0, k_X11_chosen_9, k_X11_chosen_14, k_X11_chosen_22, k_X11_chosen_25, k_X11_chosen_30, k_X11_chosen_31, k_X11_chosen_32, k_X11_chosen_44, k_X11_chosen_59, k_X11_chosen_73, k_X11_chosen_79, k_X11_chosen_86, k_X11_chosen_91, k_X11_chosen_94, k_X11_chosen_104, k_X11_chosen_110, k_X11_chosen_119, k_X11_chosen_122, k_X11_chosen_125, k_X11_chosen_148, k_X11_chosen_153, k_X11_chosen_161, k_X11_chosen_180, k_X11_chosen_186, k_X11_chosen_192, li_0, li_1, li_2, li_3, li_4, li_5, li_6, li_9, li_10, li_40, lm_1, lm_2, lm_3, lm_4, zs_ap, i32_add, i32_sub, i32_mul, i32_neg, i32_lt, i32_le, i32_eq, i32_nat, ckn, pka_r, pka_v, if_pos, if_neg, if_true, if_false, g_mayGive hMx, hp.1, bBt, Int.toNat_natCast, hr, ec]
            rw [show (i : Int) + 1 = ((i + 1 : Nat) : Int) by omega, show (g : Int) + 1 = ((g + 1 : Nat) : Int) by omega, c3]
            simp (disch := omega) only [k_X11_chosen_0, k_X11_chosen_9, k_X11_chosen_14, k_X11_chosen_22, k_X11_chosen_25, k_X11_chosen_30, k_X11_chosen_31, k_X11_chosen_32, k_X11_chosen_44, k_X11_chosen_59, k_X11_chosen_73, k_X11_chosen_79, k_X11_chosen_86, k_X11_chosen_91, k_X11_chosen_94, k_X11_chosen_104, k_X11_chosen_110, k_X11_chosen_119, k_X11_chosen_122, k_X11_chosen_125, k_X11_chosen_148, k_X11_chosen_153, k_X11_chosen_161, k_X11_chosen_180, k_X11_chosen_186, k_X11_chosen_192, li_0, li_1, li_2, li_3, li_4, li_5, li_6, li_9, li_10, li_40, lm_1, lm_2, lm_3, lm_4, zs_ap, i32_add, i32_sub, i32_mul, i32_neg, i32_lt, i32_le, i32_eq, i32_nat, ckn, pka_r, pka_v, if_pos, if_neg, if_true, if_false, show (3 * (st : Int) + (i : Int)).toNat = 3 * st + i by omega, zs_u2]
            rw [k_X11_chosen_97]
            by_cases c9 : q = 8
            · simp (disch := omega) only [k_X11_chosen_0, k_X11_chosen_9, k_X11_chosen_14, k_X11_chosen_22, k_X11_chosen_25, k_X11_chosen_30, k_X11_chosen_31, k_X11_chosen_32, k_X11_chosen_44, k_X11_chosen_59, k_X11_chosen_73, k_X11_chosen_79, k_X11_chosen_86, k_X11_chosen_91, k_X11_chosen_94, k_X11_chosen_104, k_X11_chosen_110, k_X11_chosen_119, k_X11_chosen_122, k_X11_chosen_125, k_X11_chosen_148, k_X11_chosen_153, k_X11_chosen_161, k_X11_chosen_180, k_X11_chosen_186, k_X11_chosen_192, li_0, li_1, li_2, li_3, li_4, li_5, li_6, li_9, li_10, li_40, lm_1, lm_2, lm_3, lm_4, zs_ap, i32_add, i32_sub, i32_mul, i32_neg, i32_lt, i32_le, i32_eq, i32_nat, ckn, pka_r, pka_v, if_pos, if_neg, if_true, if_false]
              rfl
            · simp (disch := omega) only [k_X11_chosen_0, k_X11_chosen_9, k_X11_chosen_14, k_X11_chosen_22, k_X11_chosen_25, k_X11_chosen_30, k_X11_chosen_31, k_X11_chosen_32, k_X11_chosen_44, k_X11_chosen_59, k_X11_chosen_73, k_X11_chosen_79, k_X11_chosen_86, k_X11_chosen_91, k_X11_chosen_94, k_X11_chosen_104, k_X11_chosen_110, k_X11_chosen_119, k_X11_chosen_122, k_X11_chosen_125, k_X11_chosen_148, k_X11_chosen_153, k_X11_chosen_161, k_X11_chosen_180, k_X11_chosen_186, k_X11_chosen_192, li_0, li_1, li_2, li_3, li_4, li_5, li_6, li_9, li_10, li_40, lm_1, lm_2, lm_3, lm_4, zs_ap, i32_add, i32_sub, i32_mul, i32_neg, i32_lt, i32_le, i32_eq, i32_nat, ckn, pka_r, pka_v, if_pos, if_neg, if_true, if_false]
              rfl
        · have hMx := CP_MI h hx
          have hr := hMx.2.2.2.2.1 k (by omega)
          unfold tQp at hp
          cases hb : qmay m s k (q + 1)
          · refine ⟨x, hx, ?_⟩
            rw [k_X11_chosen_97]
            simp (disch := omega) only [k_X11_chosen_0, k_X11_chosen_9, k_X11_chosen_14, k_X11_chosen_22, k_X11_chosen_25, k_X11_chosen_30, k_X11_chosen_31, k_X11_chosen_32, k_X11_chosen_44, k_X11_chosen_59, k_X11_chosen_73, k_X11_chosen_79, k_X11_chosen_86, k_X11_chosen_91, k_X11_chosen_94, k_X11_chosen_104, k_X11_chosen_110, k_X11_chosen_119, k_X11_chosen_122, k_X11_chosen_125, k_X11_chosen_148, k_X11_chosen_153, k_X11_chosen_161, k_X11_chosen_180, k_X11_chosen_186, k_X11_chosen_192, li_0, li_1, li_2, li_3, li_4, li_5, li_6, li_9, li_10, li_40, lm_1, lm_2, lm_3, lm_4, zs_ap, i32_add, i32_sub, i32_mul, i32_neg, i32_lt, i32_le, i32_eq, i32_nat, ckn, pka_r, pka_v, if_pos, if_neg, if_true, if_false, g_mayGive hMx, hb, bBf]
            rfl
          · rw [hb, Bool.true_and] at hp
            have hle := may_le hb
            have hto' : (q + 1) ≤ qhas m to k := by rw [hd k hkP (by omega)]; omega
            have hsub := sub_le hto'
            have ec := sub_c hsub
            obtain ⟨Z2, c1, c2, c3⟩ := ih (i + 1) (g + 1) (to - (q + 1) * qpl m k) x hMx (by omega) (by omega) (by omega) (fun k' hk' ho' => by
              rw [has_sub hto hkP hto' hk', if_neg (by intro e; subst e; omega)]
              exact hd k' hk' (by omega))
            rw [hp, if_neg Bool.false_ne_true] at c3
            refine ⟨Z2, CP_tr hx c1, ?_⟩
            rw [k_X11_chosen_97]
            simp (disch := omega) only [k_X11_chosen_0, k_X11_chosen_9, k_X11_chosen_14, k_X11_chosen_22, k_X11_chosen_25, k_X11_chosen_30, k_X11_chosen_31, k_X11_chosen_32, k_X11_chosen_44, k_X11_chosen_59, k_X11_chosen_73, k_X11_chosen_79, k_X11_chosen_86, k_X11_chosen_91, k_X11_chosen_94, k_X11_chosen_104, k_X11_chosen_110, k_X11_chosen_119, k_X11_chosen_122, k_X11_chosen_125, k_X11_chosen_148, k_X11_chosen_153, k_X11_chosen_161, k_X11_chosen_180, k_X11_chosen_186, k_X11_chosen_192, li_0, li_1, li_2, li_3, li_4, li_5, li_6, li_9, li_10, li_40, lm_1, lm_2, lm_3, lm_4, zs_ap, i32_add, i32_sub, i32_mul, i32_neg, i32_lt, i32_le, i32_eq, i32_nat, ckn, pka_r, pka_v, if_pos, if_neg, if_true, if_false, g_mayGive hMx, hb, bBt, Int.toNat_natCast, hr, ec]
            rw [show (i : Int) + 1 = ((i + 1 : Nat) : Int) by omega, show (g : Int) + 1 = ((g + 1 : Nat) : Int) by omega, c3]
            simp (disch := omega) only [k_X11_chosen_0, k_X11_chosen_9, k_X11_chosen_14, k_X11_chosen_22, k_X11_chosen_25, k_X11_chosen_30, k_X11_chosen_31, k_X11_chosen_32, k_X11_chosen_44, k_X11_chosen_59, k_X11_chosen_73, k_X11_chosen_79, k_X11_chosen_86, k_X11_chosen_91, k_X11_chosen_94, k_X11_chosen_104, k_X11_chosen_110, k_X11_chosen_119, k_X11_chosen_122, k_X11_chosen_125, k_X11_chosen_148, k_X11_chosen_153, k_X11_chosen_161, k_X11_chosen_180, k_X11_chosen_186, k_X11_chosen_192, li_0, li_1, li_2, li_3, li_4, li_5, li_6, li_9, li_10, li_40, lm_1, lm_2, lm_3, lm_4, zs_ap, i32_add, i32_sub, i32_mul, i32_neg, i32_lt, i32_le, i32_eq, i32_nat, ckn, pka_r, pka_v, if_pos, if_neg, if_true, if_false]
            rfl
      have key := srchV (fun (k : Nat) (x : (Nat → Nat → Int) × Option Value) => den none (Mean (d + j + 3)) (some .int) tQ_X11_chosen (64, [some (.ref 140), some (.int (i32 (s : Int))), some (.int (i32 (st : Int))), some (.int (i32 (n : Int))), some (.int (i32 (i : Int))), some (.int (i32 (g : Int))), some (.int (i32 (to : Int))), some (.int (i32 (-1))), some (.int (i32 (k : Int))), x.2], [], 176, zs x.1, J, RP p0 p1 p2 p3 p4 p5 p6 p7)) (fun x => CP m st i Z x.1) (tKp m s f j i g to) (qP m) (fun k r => ∃ Z' : Nat → Nat → Int, CP m st i Z Z' ∧ Z' 164 (3 * st + i) = ((10 * k + (fstN (tQp m s f j i g to k) 9 + 1) : Nat) : Int) ∧ (∀ w : Nat, i < w → w < qS m → Z' 164 (3 * st + w) = chG m s f j (i + 1) (g + 1) (to - (fstN (tQp m s f j i g to k) 9 + 1) * qpl m k) w) ∧ r = some (some (.int (i32 ((chN m s f j (i + 1) (g + 1) (to - (fstN (tQp m s f j i g to k) 9 + 1) * qpl m k) : Nat) : Int))), (176, zs Z', J, RP p0 p1 p2 p3 p4 p5 p6 p7))) (fun k x hkP hx hp => ?_) (fun k x hkP hx hp => ?_) (Z1, none) b1
      · cases cK : anyN (tKp m s f j i g to) (qP m)
        · obtain ⟨⟨Z2, o9⟩, c1, c2⟩ := key.2 cK
          refine ⟨Z2, c1, fun q => ?_, ?_⟩
          · rw [tgB_s, ct, cK] at q
            cases q
          · rw [e0, tgB_s, ct, cK, Bool.or_self, if_neg Bool.false_ne_true]
            refine c2.trans ?_
            rw [k_X11_chosen_64]
            have h9 := MI_n (CP_MI h (show CP m st i Z Z2 from c1))
            simp (disch := omega) only [k_X11_chosen_0, k_X11_chosen_9, k_X11_chosen_14, k_X11_chosen_22, k_X11_chosen_25, k_X11_chosen_30, k_X11_chosen_31, k_X11_chosen_32, k_X11_chosen_44, k_X11_chosen_59, k_X11_chosen_73, k_X11_chosen_79, k_X11_chosen_86, k_X11_chosen_91, k_X11_chosen_94, k_X11_chosen_104, k_X11_chosen_110, k_X11_chosen_119, k_X11_chosen_122, k_X11_chosen_125, k_X11_chosen_148, k_X11_chosen_153, k_X11_chosen_161, k_X11_chosen_180, k_X11_chosen_186, k_X11_chosen_192, li_0, li_1, li_2, li_3, li_4, li_5, li_6, li_9, li_10, li_40, lm_1, lm_2, lm_3, lm_4, zs_ap, i32_add, i32_sub, i32_mul, i32_neg, i32_lt, i32_le, i32_eq, i32_nat, ckn, pka_r, pka_v, if_pos, if_neg, if_true, if_false, h9]
        · obtain ⟨Z2, c1, c2, c3, c4⟩ := key.1 cK
          refine ⟨Z2, c1, fun q w hw1 hw2 => ?_, ?_⟩
          · rw [chG_s, ct, if_neg Bool.false_ne_true]
            by_cases cw : w = i
            · rw [if_pos cw, cw]
              exact c2
            · rw [if_neg cw]
              exact c3 w (by omega) hw2
          · rw [e0, tgB_s, ct, cK, Bool.or_true, if_pos rfl]
            rw [chN_s, ct, if_neg Bool.false_ne_true]
            exact c4
      · unfold tKp at hp
        rw [Bool.and_eq_true, decide_eq_true_iff] at hp
        have hMx := CP_MI h hx
        have h9 := MI_n hMx
        have hr := (hMx.2.1.2.1 k hkP).1
        obtain ⟨Z2, c1, c2, c3, c4⟩ := (inn k x.1 hkP hp.1 hx).1 hp.2
        refine ⟨Z2, c1, c2, c3, ?_⟩
        rw [k_X11_chosen_64]
        simp (disch := omega) only [k_X11_chosen_0, k_X11_chosen_9, k_X11_chosen_14, k_X11_chosen_22, k_X11_chosen_25, k_X11_chosen_30, k_X11_chosen_31, k_X11_chosen_32, k_X11_chosen_44, k_X11_chosen_59, k_X11_chosen_73, k_X11_chosen_79, k_X11_chosen_86, k_X11_chosen_91, k_X11_chosen_94, k_X11_chosen_104, k_X11_chosen_110, k_X11_chosen_119, k_X11_chosen_122, k_X11_chosen_125, k_X11_chosen_148, k_X11_chosen_153, k_X11_chosen_161, k_X11_chosen_180, k_X11_chosen_186, k_X11_chosen_192, li_0, li_1, li_2, li_3, li_4, li_5, li_6, li_9, li_10, li_40, lm_1, lm_2, lm_3, lm_4, zs_ap, i32_add, i32_sub, i32_mul, i32_neg, i32_lt, i32_le, i32_eq, i32_nat, ckn, pka_r, pka_v, if_pos, if_neg, if_true, if_false, h9, Int.toNat_natCast, hr]
        exact c4
      · have hMx := CP_MI h hx
        have h9 := MI_n hMx
        have hr := (hMx.2.1.2.1 k hkP).1
        have hw := (h.1.2.2.1 k hkP).1
        unfold tKp at hp
        by_cases co : qown m k = i
        · rw [decide_eq_true co, Bool.true_and] at hp
          obtain ⟨Z2, c1, c2⟩ := (inn k x.1 hkP co hx).2 hp
          refine ⟨(Z2, some (.int (i32 ((9 + 1 : Nat) : Int)))), c1, ?_⟩
          rw [k_X11_chosen_64]
          simp (disch := omega) only [k_X11_chosen_0, k_X11_chosen_9, k_X11_chosen_14, k_X11_chosen_22, k_X11_chosen_25, k_X11_chosen_30, k_X11_chosen_31, k_X11_chosen_32, k_X11_chosen_44, k_X11_chosen_59, k_X11_chosen_73, k_X11_chosen_79, k_X11_chosen_86, k_X11_chosen_91, k_X11_chosen_94, k_X11_chosen_104, k_X11_chosen_110, k_X11_chosen_119, k_X11_chosen_122, k_X11_chosen_125, k_X11_chosen_148, k_X11_chosen_153, k_X11_chosen_161, k_X11_chosen_180, k_X11_chosen_186, k_X11_chosen_192, li_0, li_1, li_2, li_3, li_4, li_5, li_6, li_9, li_10, li_40, lm_1, lm_2, lm_3, lm_4, zs_ap, i32_add, i32_sub, i32_mul, i32_neg, i32_lt, i32_le, i32_eq, i32_nat, ckn, pka_r, pka_v, if_pos, if_neg, if_true, if_false, h9, Int.toNat_natCast, hr]
          refine Eq.trans c2 ?_
          rw [k_X11_chosen_97]
          simp (disch := omega) only [k_X11_chosen_0, k_X11_chosen_9, k_X11_chosen_14, k_X11_chosen_22, k_X11_chosen_25, k_X11_chosen_30, k_X11_chosen_31, k_X11_chosen_32, k_X11_chosen_44, k_X11_chosen_59, k_X11_chosen_73, k_X11_chosen_79, k_X11_chosen_86, k_X11_chosen_91, k_X11_chosen_94, k_X11_chosen_104, k_X11_chosen_110, k_X11_chosen_119, k_X11_chosen_122, k_X11_chosen_125, k_X11_chosen_148, k_X11_chosen_153, k_X11_chosen_161, k_X11_chosen_180, k_X11_chosen_186, k_X11_chosen_192, li_0, li_1, li_2, li_3, li_4, li_5, li_6, li_9, li_10, li_40, lm_1, lm_2, lm_3, lm_4, zs_ap, i32_add, i32_sub, i32_mul, i32_neg, i32_lt, i32_le, i32_eq, i32_nat, ckn, pka_r, pka_v, if_pos, if_neg, if_true, if_false]
          rfl
        · refine ⟨x, hx, ?_⟩
          rw [k_X11_chosen_64]
          simp (disch := omega) only [k_X11_chosen_0, k_X11_chosen_9, k_X11_chosen_14, k_X11_chosen_22, k_X11_chosen_25, k_X11_chosen_30, k_X11_chosen_31, k_X11_chosen_32, k_X11_chosen_44, k_X11_chosen_59, k_X11_chosen_73, k_X11_chosen_79, k_X11_chosen_86, k_X11_chosen_91, k_X11_chosen_94, k_X11_chosen_104, k_X11_chosen_110, k_X11_chosen_119, k_X11_chosen_122, k_X11_chosen_125, k_X11_chosen_148, k_X11_chosen_153, k_X11_chosen_161, k_X11_chosen_180, k_X11_chosen_186, k_X11_chosen_192, li_0, li_1, li_2, li_3, li_4, li_5, li_6, li_9, li_10, li_40, lm_1, lm_2, lm_3, lm_4, zs_ap, i32_add, i32_sub, i32_mul, i32_neg, i32_lt, i32_le, i32_eq, i32_nat, ckn, pka_r, pka_v, if_pos, if_neg, if_true, if_false, h9, Int.toNat_natCast, hr]
          rfl
    · rw [ct, if_pos rfl] at e0
      refine ⟨Z1, b1, fun _ w hw1 hw2 => ?_, ?_⟩
      · rw [chG_s, ct, if_pos rfl]
        by_cases cw : w = i
        · rw [if_pos cw, cw, b2]
        · rw [if_neg cw]
          exact a2 ct w (by omega) hw2
      · rw [e0, tgB_s, ct, Bool.true_or, if_pos rfl]
        rw [chN_s, ct, if_pos rfl]
        have := chN_le m s f j (i + 1) g to
        exact ch_end (by omega) (by omega) (CP_MI h b1)
end
