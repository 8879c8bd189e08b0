/-! THE MODEL'S isNear, last -/
def nst (m : Mat) (s k g : Nat) : Option Nat := if qhas m s k = qkept m k then some g else if (qhas m s k < qkept m k ∨ qmay m s k (qhas m s k - qkept m k) = false) ∨ g.testBit (qown m k) = true then none else some (g ||| 1 <<< qown m k)
def nearG (m : Mat) (s : Nat) : Nat → Nat → Nat → Option Nat
  | 0, _, g => some g
  | j + 1, k, g => match nst m s k g with
    | none => none
    | some g' => nearG m s j (k + 1) g'
def nearE (m : Mat) : Option Nat → Bool
  | none => false
  | some g => !decide (g = 0) && (decide (qmode m = 2) || decide (g &&& (g - 1) = 0))
def qnear (m : Mat) (s : Nat) : Bool := nearE m (nearG m s (qP m) 0 0)
theorem nb1 {g o : Nat} (hg : g < 8) (ho : o < 3) : (i32 (g : Int) >>> (i32 (o : Int) &&& 31)) &&& i32 1 = i32 (bB (g.testBit o)) := by
  have : ∀ g : Nat, g < 8 → ∀ o : Nat, o < 3 → (i32 (g : Int) >>> (i32 (o : Int) &&& 31)) &&& i32 1 = i32 (bB (g.testBit o)) := by decide
  exact this g hg o ho
theorem nb2 {g o : Nat} (hg : g < 8) (ho : o < 3) : i32 (g : Int) ||| (i32 1 <<< (i32 (o : Int) &&& 31)) = i32 ((g ||| 1 <<< o : Nat) : Int) ∧ (g ||| 1 <<< o) < 8 := by
  have : ∀ g : Nat, g < 8 → ∀ o : Nat, o < 3 → i32 (g : Int) ||| (i32 1 <<< (i32 (o : Int) &&& 31)) = i32 ((g ||| 1 <<< o : Nat) : Int) ∧ (g ||| 1 <<< o) < 8 := by decide
  exact this g hg o ho
theorem nb3 {g : Nat} (hg : g < 8) (h0 : g ≠ 0) : (i32 (g : Int) &&& i32 ((g : Int) - 1) = i32 0) = (g &&& (g - 1) = 0) := by
  have : ∀ g : Nat, g < 8 → g ≠ 0 → (i32 (g : Int) &&& i32 ((g : Int) - 1) = i32 0 ↔ g &&& (g - 1) = 0) := by decide
  exact propext (this g hg h0)
section
variable {d : Nat} {J : Nat → Nat → Int64} {Z : Nat → Nat → Int} {p0 p1 p2 p3 p4 p5 p6 p7 : Nat} {m : Mat} {b : Nat → Int}
theorem nr_loop (h : MI m Z) {s : Nat} (hs : s < qN m) : ∀ (j k g : Nat) (o4 o5 : Option Value), k + j = qP m → g < 8 → den none (Mean (d + 2)) (some .boolean) tQ_X11_isNear (4, [some (.ref 140), some (.int (i32 (s : Int))), some (.int (i32 (g : Int))), some (.int (i32 (k : Int))), o4, o5], [], 176, zs Z, J, RP p0 p1 p2 p3 p4 p5 p6 p7) = some (some (.int (i32 (bB (nearE m (nearG m s j k g))))), (176, zs Z, J, RP p0 p1 p2 p3 p4 p5 p6 p7)) := by
  have h0 := MI_n h
  have h1 := h.2.1.1
  have hmd := h.1.2.2.2.2.2.1
  intro j
  induction j with
  | zero =>
    intro k g o4 o5 hk hg
    rw [k_X11_isNear_4]
    unfold nearG nearE
    simp only
    by_cases c0 : g = 0
    · rw [decide_eq_true c0, Bool.not_true, Bool.false_and]
      simp (disch := omega) only [k_X11_isNear_0, k_X11_isNear_12, k_X11_isNear_23, k_X11_isNear_29, k_X11_isNear_37, k_X11_isNear_40, k_X11_isNear_47, k_X11_isNear_54, k_X11_isNear_58, k_X11_isNear_59, k_X11_isNear_66, k_X11_isNear_74, k_X11_isNear_77, k_X11_isNear_82, k_X11_isNear_84, k_X11_isNear_92, k_X11_isNear_95, k_X11_isNear_101, k_X11_isNear_105, k_X11_isNear_113, k_X11_isNear_121, k_X11_isNear_125, k_X11_isNear_126, li_0, li_1, li_2, li_3, li_4, li_5, li_6, li_9, li_10, li_40, lm_1, lm_2, lm_3, lm_4, zs_ap, i32_add, i32_sub, i32_mul, i32_neg, i32_lt, i32_le, i32_eq, i32_nat, ckn, pka_r, pka_v, if_pos, if_neg, if_true, if_false, h0, bBf, true_or]
    · rw [decide_eq_false c0, Bool.not_false, Bool.true_and]
      by_cases c2 : qmode m = 2
      · rw [decide_eq_true c2, Bool.true_or]
        simp (disch := omega) only [k_X11_isNear_0, k_X11_isNear_12, k_X11_isNear_23, k_X11_isNear_29, k_X11_isNear_37, k_X11_isNear_40, k_X11_isNear_47, k_X11_isNear_54, k_X11_isNear_58, k_X11_isNear_59, k_X11_isNear_66, k_X11_isNear_74, k_X11_isNear_77, k_X11_isNear_82, k_X11_isNear_84, k_X11_isNear_92, k_X11_isNear_95, k_X11_isNear_101, k_X11_isNear_105, k_X11_isNear_113, k_X11_isNear_121, k_X11_isNear_125, k_X11_isNear_126, li_0, li_1, li_2, li_3, li_4, li_5, li_6, li_9, li_10, li_40, lm_1, lm_2, lm_3, lm_4, zs_ap, i32_add, i32_sub, i32_mul, i32_neg, i32_lt, i32_le, i32_eq, i32_nat, ckn, pka_r, pka_v, if_pos, if_neg, if_true, if_false, h0, h1, bBt, or_true]
      · rw [decide_eq_false c2, Bool.false_or]
        by_cases c3 : g &&& (g - 1) = 0
        · rw [decide_eq_true c3]
          simp (disch := omega) only [k_X11_isNear_0, k_X11_isNear_12, k_X11_isNear_23, k_X11_isNear_29, k_X11_isNear_37, k_X11_isNear_40, k_X11_isNear_47, k_X11_isNear_54, k_X11_isNear_58, k_X11_isNear_59, k_X11_isNear_66, k_X11_isNear_74, k_X11_isNear_77, k_X11_isNear_82, k_X11_isNear_84, k_X11_isNear_92, k_X11_isNear_95, k_X11_isNear_101, k_X11_isNear_105, k_X11_isNear_113, k_X11_isNear_121, k_X11_isNear_125, k_X11_isNear_126, li_0, li_1, li_2, li_3, li_4, li_5, li_6, li_9, li_10, li_40, lm_1, lm_2, lm_3, lm_4, zs_ap, i32_add, i32_sub, i32_mul, i32_neg, i32_lt, i32_le, i32_eq, i32_nat, ckn, pka_r, pka_v, if_pos, if_neg, if_true, if_false, h0, h1, nb3 hg c0, c3, bBt, or_true]
        · rw [decide_eq_false c3]
          simp (disch := omega) only [k_X11_isNear_0, k_X11_isNear_12, k_X11_isNear_23, k_X11_isNear_29, k_X11_isNear_37, k_X11_isNear_40, k_X11_isNear_47, k_X11_isNear_54, k_X11_isNear_58, k_X11_isNear_59, k_X11_isNear_66, k_X11_isNear_74, k_X11_isNear_77, k_X11_isNear_82, k_X11_isNear_84, k_X11_isNear_92, k_X11_isNear_95, k_X11_isNear_101, k_X11_isNear_105, k_X11_isNear_113, k_X11_isNear_121, k_X11_isNear_125, k_X11_isNear_126, li_0, li_1, li_2, li_3, li_4, li_5, li_6, li_9, li_10, li_40, lm_1, lm_2, lm_3, lm_4, zs_ap, i32_add, i32_sub, i32_mul, i32_neg, i32_lt, i32_le, i32_eq, i32_nat, ckn, pka_r, pka_v, if_pos, if_neg, if_true, if_false, h0, h1, nb3 hg c0, c3, bBf, true_or]
  | succ j ih =>
    intro k g o4 o5 hk hg
    have hkP : k < qP m := by omega
    have hr := h.2.1.2.1 k hkP
    have hwk := h.1.2.2.1 k hkP
    have hh := h.2.2.2.2.2.1 s hs k hkP
    have hhl := qhas_le m s k
    have hx : (6 * (s : Int) + (k : Int)).toNat = 6 * s + k := by omega
    rw [k_X11_isNear_4]
    unfold nearG nst
    by_cases c0 : qhas m s k = qkept m k
    · rw [if_pos c0]
      simp only
      simp (disch := omega) only [k_X11_isNear_0, k_X11_isNear_12, k_X11_isNear_23, k_X11_isNear_29, k_X11_isNear_37, k_X11_isNear_40, k_X11_isNear_47, k_X11_isNear_54, k_X11_isNear_58, k_X11_isNear_59, k_X11_isNear_66, k_X11_isNear_74, k_X11_isNear_77, k_X11_isNear_82, k_X11_isNear_84, k_X11_isNear_92, k_X11_isNear_95, k_X11_isNear_101, k_X11_isNear_105, k_X11_isNear_113, k_X11_isNear_121, k_X11_isNear_125, k_X11_isNear_126, li_0, li_1, li_2, li_3, li_4, li_5, li_6, li_9, li_10, li_40, lm_1, lm_2, lm_3, lm_4, zs_ap, i32_add, i32_sub, i32_mul, i32_neg, i32_lt, i32_le, i32_eq, i32_nat, ckn, pka_r, pka_v, if_pos, if_neg, if_true, if_false, h0, hx, hh, hr, Int.toNat_natCast]
      exact ih (k + 1) g _ _ (by omega) hg
    · rw [if_neg c0]
      have n1 := nb1 (o := qown m k) hg (by omega)
      have n2 := nb2 (o := qown m k) hg (by omega)
      cases ct : g.testBit (qown m k)
      · rw [ct, bBf] at n1
        by_cases c1 : qhas m s k < qkept m k
        · rw [if_pos (Or.inl (Or.inl c1))]
          simp only [nearE]
          simp (disch := omega) only [k_X11_isNear_0, k_X11_isNear_12, k_X11_isNear_23, k_X11_isNear_29, k_X11_isNear_37, k_X11_isNear_40, k_X11_isNear_47, k_X11_isNear_54, k_X11_isNear_58, k_X11_isNear_59, k_X11_isNear_66, k_X11_isNear_74, k_X11_isNear_77, k_X11_isNear_82, k_X11_isNear_84, k_X11_isNear_92, k_X11_isNear_95, k_X11_isNear_101, k_X11_isNear_105, k_X11_isNear_113, k_X11_isNear_121, k_X11_isNear_125, k_X11_isNear_126, li_0, li_1, li_2, li_3, li_4, li_5, li_6, li_9, li_10, li_40, lm_1, lm_2, lm_3, lm_4, zs_ap, i32_add, i32_sub, i32_mul, i32_neg, i32_lt, i32_le, i32_eq, i32_nat, ckn, pka_r, pka_v, if_pos, if_neg, if_true, if_false, h0, hx, hh, hr, Int.toNat_natCast, n1, bBf, true_or]
        · have ea : (qhas m s k : Int) - (qkept m k : Int) = ((qhas m s k - qkept m k : Nat) : Int) := by omega
          cases cm : qmay m s k (qhas m s k - qkept m k)
          · rw [if_pos (Or.inl (Or.inr rfl))]
            simp only [nearE]
            simp (disch := omega) only [k_X11_isNear_0, k_X11_isNear_12, k_X11_isNear_23, k_X11_isNear_29, k_X11_isNear_37, k_X11_isNear_40, k_X11_isNear_47, k_X11_isNear_54, k_X11_isNear_58, k_X11_isNear_59, k_X11_isNear_66, k_X11_isNear_74, k_X11_isNear_77, k_X11_isNear_82, k_X11_isNear_84, k_X11_isNear_92, k_X11_isNear_95, k_X11_isNear_101, k_X11_isNear_105, k_X11_isNear_113, k_X11_isNear_121, k_X11_isNear_125, k_X11_isNear_126, li_0, li_1, li_2, li_3, li_4, li_5, li_6, li_9, li_10, li_40, lm_1, lm_2, lm_3, lm_4, zs_ap, i32_add, i32_sub, i32_mul, i32_neg, i32_lt, i32_le, i32_eq, i32_nat, ckn, pka_r, pka_v, if_pos, if_neg, if_true, if_false, h0, hx, hh, hr, Int.toNat_natCast, n1, ea, g_mayGive h, cm, bBf, true_or]
          · rw [if_neg (show ¬ ((qhas m s k < qkept m k ∨ true = false) ∨ false = true) by simp [c1])]
            simp only
            simp (disch := omega) only [k_X11_isNear_0, k_X11_isNear_12, k_X11_isNear_23, k_X11_isNear_29, k_X11_isNear_37, k_X11_isNear_40, k_X11_isNear_47, k_X11_isNear_54, k_X11_isNear_58, k_X11_isNear_59, k_X11_isNear_66, k_X11_isNear_74, k_X11_isNear_77, k_X11_isNear_82, k_X11_isNear_84, k_X11_isNear_92, k_X11_isNear_95, k_X11_isNear_101, k_X11_isNear_105, k_X11_isNear_113, k_X11_isNear_121, k_X11_isNear_125, k_X11_isNear_126, li_0, li_1, li_2, li_3, li_4, li_5, li_6, li_9, li_10, li_40, lm_1, lm_2, lm_3, lm_4, zs_ap, i32_add, i32_sub, i32_mul, i32_neg, i32_lt, i32_le, i32_eq, i32_nat, ckn, pka_r, pka_v, if_pos, if_neg, if_true, if_false, h0, hx, hh, hr, Int.toNat_natCast, n1, ea, g_mayGive h, cm, bBt, n2.1]
            exact ih (k + 1) _ _ _ (by omega) n2.2
      · rw [ct, bBt] at n1
        rw [if_pos (Or.inr rfl)]
        simp only [nearE]
        by_cases c1 : qhas m s k < qkept m k
        · simp (disch := omega) only [k_X11_isNear_0, k_X11_isNear_12, k_X11_isNear_23, k_X11_isNear_29, k_X11_isNear_37, k_X11_isNear_40, k_X11_isNear_47, k_X11_isNear_54, k_X11_isNear_58, k_X11_isNear_59, k_X11_isNear_66, k_X11_isNear_74, k_X11_isNear_77, k_X11_isNear_82, k_X11_isNear_84, k_X11_isNear_92, k_X11_isNear_95, k_X11_isNear_101, k_X11_isNear_105, k_X11_isNear_113, k_X11_isNear_121, k_X11_isNear_125, k_X11_isNear_126, li_0, li_1, li_2, li_3, li_4, li_5, li_6, li_9, li_10, li_40, lm_1, lm_2, lm_3, lm_4, zs_ap, i32_add, i32_sub, i32_mul, i32_neg, i32_lt, i32_le, i32_eq, i32_nat, ckn, pka_r, pka_v, if_pos, if_neg, if_true, if_false, h0, hx, hh, hr, Int.toNat_natCast, n1, bBf, true_or]
        · have ea : (qhas m s k : Int) - (qkept m k : Int) = ((qhas m s k - qkept m k : Nat) : Int) := by omega
          cases cm : qmay m s k (qhas m s k - qkept m k)
          · simp (disch := omega) only [k_X11_isNear_0, k_X11_isNear_12, k_X11_isNear_23, k_X11_isNear_29, k_X11_isNear_37, k_X11_isNear_40, k_X11_isNear_47, k_X11_isNear_54, k_X11_isNear_58, k_X11_isNear_59, k_X11_isNear_66, k_X11_isNear_74, k_X11_isNear_77, k_X11_isNear_82, k_X11_isNear_84, k_X11_isNear_92, k_X11_isNear_95, k_X11_isNear_101, k_X11_isNear_105, k_X11_isNear_113, k_X11_isNear_121, k_X11_isNear_125, k_X11_isNear_126, li_0, li_1, li_2, li_3, li_4, li_5, li_6, li_9, li_10, li_40, lm_1, lm_2, lm_3, lm_4, zs_ap, i32_add, i32_sub, i32_mul, i32_neg, i32_lt, i32_le, i32_eq, i32_nat, ckn, pka_r, pka_v, if_pos, if_neg, if_true, if_false, h0, hx, hh, hr, Int.toNat_natCast, n1, ea, g_mayGive h, cm, bBf, true_or]
          · simp (disch := omega) only [k_X11_isNear_0, k_X11_isNear_12, k_X11_isNear_23, k_X11_isNear_29, k_X11_isNear_37, k_X11_isNear_40, k_X11_isNear_47, k_X11_isNear_54, k_X11_isNear_58, k_X11_isNear_59, k_X11_isNear_66, k_X11_isNear_74, k_X11_isNear_77, k_X11_isNear_82, k_X11_isNear_84, k_X11_isNear_92, k_X11_isNear_95, k_X11_isNear_101, k_X11_isNear_105, k_X11_isNear_113, k_X11_isNear_121, k_X11_isNear_125, k_X11_isNear_126, li_0, li_1, li_2, li_3, li_4, li_5, li_6, li_9, li_10, li_40, lm_1, lm_2, lm_3, lm_4, zs_ap, i32_add, i32_sub, i32_mul, i32_neg, i32_lt, i32_le, i32_eq, i32_nat, ckn, pka_r, pka_v, if_pos, if_neg, if_true, if_false, h0, hx, hh, hr, Int.toNat_natCast, n1, ea, g_mayGive h, cm, bBt, bBf, true_or]
theorem g_isNear (h : MI m Z) {s : Nat} (hs : s < qN m) : Mean (d + 3) 212 [.ref 140, .int (i32 (s : Int))] (176, zs Z, J, RP p0 p1 p2 p3 p4 p5 p6 p7) = some (some (.int (i32 (bB (qnear m s)))), (176, zs Z, J, RP p0 p1 p2 p3 p4 p5 p6 p7)) := by
  rw [e_X11_isNear, k_X11_isNear_0]
  exact nr_loop h hs (qP m) 0 0 none none (by omega) (by omega)
def ndV (m : Mat) (s w : Nat) : Int := if w < 3 then qmore m (qbre m) s w + qday m else (qmore m (qbre m) s w + 2 * qday m + 1).tdiv 2
def ndF (m : Mat) (s : Nat) : Nat → Int
  | 0 => 0
  | w + 1 => if qcnt m w then (if ndF m s w < ndV m s w then ndV m s w else ndF m s w) else ndF m s w
theorem ndF_t {m : Mat} {s w : Nat} (h : qcnt m w = true) : ndF m s (w + 1) = if ndF m s w < ndV m s w then ndV m s w else ndF m s w := by
  show (if qcnt m w = true then _ else _) = _
  rw [if_pos h]
def lastF (m : Mat) : Nat → Int
  | 0 => -1
  | s + 1 => if qnear m s = true ∧ ndF m s 6 ≤ 2000 ∧ (lastF m s = -1 ∨ ndF m s 6 < lastF m s) then ndF m s 6 else lastF m s
def aLast (m : Mat) : Int := lastF m (qN m)
theorem qmore_b (hw : wf m) {s w : Nat} (hw6 : w < 6) (hc : qcnt m w = true) : -500000 ≤ qmore m (qbre m) s w ∧ qmore m (qbre m) s w ≤ 500000 := by
  obtain ⟨h1, h2⟩ := qcnt_lt hw6 hw.1.1 hc
  have hS := hw.1
  have a1 := qstop_b hw s h1
  have a2 := qstop_b hw s h2
  have a3 := qgoal_b hw h1
  have a4 := qgoal_b hw h2
  have a5 := (hw.2.2.2.2.1 (qone w) (by omega)).2
  have a6 := (hw.2.2.2.2.1 (qtwo w) (by omega)).2
  unfold qmore qsh
  split
  · omega
  · omega
theorem ndF_b (hw : wf m) (s : Nat) : ∀ w : Nat, w ≤ 6 → 0 ≤ ndF m s w ∧ ndF m s w ≤ 600000
  | 0, _ => by unfold ndF; omega
  | w + 1, h => by
    have h1 := ndF_b hw s w (by omega)
    have h2 := hw.2.2.2.2.2.1
    unfold ndF
    split
    · rename_i hc
      have h3 := qmore_b hw (s := s) (w := w) (by omega) hc
      have h4 := tdiv_b (a := qmore m (qbre m) s w + 2 * qday m + 1) (b := 2) (c := 600000) (by omega) (by omega) (by omega)
      have h5 : -600000 ≤ ndV m s w ∧ ndV m s w ≤ 600000 := by
        unfold ndV
        split
        · omega
        · omega
      split
      · omega
      · exact h1
    · exact h1
theorem lastF_b (hw : wf m) : ∀ s : Nat, -1 ≤ lastF m s ∧ lastF m s ≤ 2000
  | 0 => by unfold lastF; omega
  | s + 1 => by
    have h1 := lastF_b hw s
    have h2 := ndF_b hw s 6 (by omega)
    unfold lastF
    split
    · omega
    · exact h1
theorem g_more (h : MB m Z) {s w : Nat} (hs : s < qN m) (hw : w < 6) (hc : qcnt m w = true) : Mean (d + 3) 186 [.ref 140, .int (i32 (s : Int)), .int (i32 (w : Int))] (176, zs Z, J, RP p0 p1 p2 p3 p4 p5 p6 p7) = some (some (.int (i32 (qmore m (qbre m) s w))), (176, zs Z, J, RP p0 p1 p2 p3 p4 p5 p6 p7)) := by
  have h0 := MI_n h.1
  rw [s_more d J Z p0 p1 p2 p3 p4 p5 p6 p7 (MI_sm h.1 (MB_MX h)) (by omega) (by omega), more_q h.1 (MB_MX h) hs hw hc]
theorem g_last (h : MB m Z) : Mean (d + 4) 213 [.ref 140] (176, zs Z, J, RP p0 p1 p2 p3 p4 p5 p6 p7) = some (some (.int (i32 (aLast m))), (176, zs Z, J, RP p0 p1 p2 p3 p4 p5 p6 p7)) := by
  have h0 := MI_n h.1
  have h1 := h.1.2.1.1
  have hmd := h.1.1.2.2.2.2.2.1
  have inn : ∀ (s : Nat) (x1 : Int32) (o5 : Option Value), s < qN m → ∃ o5' : Option Value, den none (Mean (d + 3)) (some .int) tQ_X11_last (28, [some (.ref 140), some (.int x1), some (.int (i32 (s : Int))), some (.int (i32 (ndF m s 0))), some (.int (i32 ((0 : Nat) : Int))), o5], [], 176, zs Z, J, RP p0 p1 p2 p3 p4 p5 p6 p7) = den none (Mean (d + 3)) (some .int) tQ_X11_last (104, [some (.ref 140), some (.int x1), some (.int (i32 (s : Int))), some (.int (i32 (ndF m s 6))), some (.int (i32 ((6 : Nat) : Int))), o5'], [], 176, zs Z, J, RP p0 p1 p2 p3 p4 p5 p6 p7) := fun s x1 o5 hs => by
    obtain ⟨o5', _, e⟩ := up_inv (fun (w : Nat) (o : Option Value) => den none (Mean (d + 3)) (some .int) tQ_X11_last (28, [some (.ref 140), some (.int x1), some (.int (i32 (s : Int))), some (.int (i32 (ndF m s w))), some (.int (i32 (w : Int))), o], [], 176, zs Z, J, RP p0 p1 p2 p3 p4 p5 p6 p7)) 6 (fun _ _ => True) (fun w o hw _ => by
      have hb := ndF_b h.1.1 s w (by omega)
      cases cc : qcnt m w
      · refine ⟨o, trivial, ?_⟩
        have e : ndF m s (w + 1) = ndF m s w := if_neg (by rw [cc]; exact Bool.false_ne_true)
        rw [e, k_X11_last_28]
        simp (disch := omega) only [k_X11_last_0, k_X11_last_12, k_X11_last_17, k_X11_last_20, k_X11_last_23, k_X11_last_35, k_X11_last_41, k_X11_last_44, k_X11_last_47, k_X11_last_54, k_X11_last_60, k_X11_last_67, k_X11_last_73, k_X11_last_83, k_X11_last_88, k_X11_last_94, k_X11_last_98, k_X11_last_104, k_X11_last_111, k_X11_last_116, k_X11_last_121, k_X11_last_123, k_X11_last_129, li_0, li_1, li_2, li_3, li_4, li_5, li_6, li_9, li_10, li_40, lm_1, lm_2, lm_3, lm_4, zs_ap, i32_add, i32_sub, i32_mul, i32_neg, i32_lt, i32_le, i32_eq, i32_nat, ckn, pka_r, pka_v, if_pos, if_neg, if_true, if_false, g_counts h.1 (MB_MX h), cc, bBf]
        rfl
      · have hq := qmore_b h.1.1 (s := s) (w := w) hw cc
        by_cases c3 : w < 3
        · refine ⟨some (.int (i32 (qmore m (qbre m) s w + qday m))), trivial, ?_⟩
          have e := ndF_t (s := s) cc
          rw [show ndV m s w = qmore m (qbre m) s w + qday m from if_pos c3] at e
          rw [e, k_X11_last_28]
          by_cases c4 : ndF m s w < qmore m (qbre m) s w + qday m
          · rw [if_pos c4]
            simp (disch := omega) only [k_X11_last_0, k_X11_last_12, k_X11_last_17, k_X11_last_20, k_X11_last_23, k_X11_last_35, k_X11_last_41, k_X11_last_44, k_X11_last_47, k_X11_last_54, k_X11_last_60, k_X11_last_67, k_X11_last_73, k_X11_last_83, k_X11_last_88, k_X11_last_94, k_X11_last_98, k_X11_last_104, k_X11_last_111, k_X11_last_116, k_X11_last_121, k_X11_last_123, k_X11_last_129, li_0, li_1, li_2, li_3, li_4, li_5, li_6, li_9, li_10, li_40, lm_1, lm_2, lm_3, lm_4, zs_ap, i32_add, i32_sub, i32_mul, i32_neg, i32_lt, i32_le, i32_eq, i32_nat, ckn, pka_r, pka_v, if_pos, if_neg, if_true, if_false, g_counts h.1 (MB_MX h), cc, bBt, g_more h, h1]
            rfl
          · rw [if_neg c4]
            simp (disch := omega) only [k_X11_last_0, k_X11_last_12, k_X11_last_17, k_X11_last_20, k_X11_last_23, k_X11_last_35, k_X11_last_41, k_X11_last_44, k_X11_last_47, k_X11_last_54, k_X11_last_60, k_X11_last_67, k_X11_last_73, k_X11_last_83, k_X11_last_88, k_X11_last_94, k_X11_last_98, k_X11_last_104, k_X11_last_111, k_X11_last_116, k_X11_last_121, k_X11_last_123, k_X11_last_129, li_0, li_1, li_2, li_3, li_4, li_5, li_6, li_9, li_10, li_40, lm_1, lm_2, lm_3, lm_4, zs_ap, i32_add, i32_sub, i32_mul, i32_neg, i32_lt, i32_le, i32_eq, i32_nat, ckn, pka_r, pka_v, if_pos, if_neg, if_true, if_false, g_counts h.1 (MB_MX h), cc, bBt, g_more h, h1]
            rfl
        · refine ⟨some (.int (i32 (qmore m (qbre m) s w + 2 * qday m))), trivial, ?_⟩
          have h4 := tdiv_b (a := qmore m (qbre m) s w + 2 * qday m + 1) (b := 2) (c := 600000) (by omega) (by omega) (by omega)
          have e := ndF_t (s := s) cc
          rw [show ndV m s w = (qmore m (qbre m) s w + 2 * qday m + 1).tdiv 2 from if_neg c3] at e
          rw [e, k_X11_last_28]
          by_cases c4 : ndF m s w < (qmore m (qbre m) s w + 2 * qday m + 1).tdiv 2
          · rw [if_pos c4]
            simp (disch := omega) only [k_X11_last_0, k_X11_last_12, k_X11_last_17, k_X11_last_20, k_X11_last_23, k_X11_last_35, k_X11_last_41, k_X11_last_44, k_X11_last_47, k_X11_last_54, k_X11_last_60, k_X11_last_67, k_X11_last_73, k_X11_last_83, k_X11_last_88, k_X11_last_94, k_X11_last_98, k_X11_last_104, k_X11_last_111, k_X11_last_116, k_X11_last_121, k_X11_last_123, k_X11_last_129, li_0, li_1, li_2, li_3, li_4, li_5, li_6, li_9, li_10, li_40, lm_1, lm_2, lm_3, lm_4, zs_ap, i32_add, i32_sub, i32_mul, i32_neg, i32_lt, i32_le, i32_eq, i32_nat, ckn, pka_r, pka_v, if_pos, if_neg, if_true, if_false, g_counts h.1 (MB_MX h), cc, bBt, g_more h, h1, i32_div]
            rfl
          · rw [if_neg c4]
            simp (disch := omega) only [k_X11_last_0, k_X11_last_12, k_X11_last_17, k_X11_last_20, k_X11_last_23, k_X11_last_35, k_X11_last_41, k_X11_last_44, k_X11_last_47, k_X11_last_54, k_X11_last_60, k_X11_last_67, k_X11_last_73, k_X11_last_83, k_X11_last_88, k_X11_last_94, k_X11_last_98, k_X11_last_104, k_X11_last_111, k_X11_last_116, k_X11_last_121, k_X11_last_123, k_X11_last_129, li_0, li_1, li_2, li_3, li_4, li_5, li_6, li_9, li_10, li_40, lm_1, lm_2, lm_3, lm_4, zs_ap, i32_add, i32_sub, i32_mul, i32_neg, i32_lt, i32_le, i32_eq, i32_nat, ckn, pka_r, pka_v, if_pos, if_neg, if_true, if_false, g_counts h.1 (MB_MX h), cc, bBt, g_more h, h1, i32_div]
            rfl) o5 trivial
    refine ⟨o5', e.trans ?_⟩
    rw [k_X11_last_28]
    simp (disch := omega) only [k_X11_last_0, k_X11_last_12, k_X11_last_17, k_X11_last_20, k_X11_last_23, k_X11_last_35, k_X11_last_41, k_X11_last_44, k_X11_last_47, k_X11_last_54, k_X11_last_60, k_X11_last_67, k_X11_last_73, k_X11_last_83, k_X11_last_88, k_X11_last_94, k_X11_last_98, k_X11_last_111, k_X11_last_116, k_X11_last_121, k_X11_last_123, k_X11_last_129, li_0, li_1, li_2, li_3, li_4, li_5, li_6, li_9, li_10, li_40, lm_1, lm_2, lm_3, lm_4, zs_ap, i32_add, i32_sub, i32_mul, i32_neg, i32_lt, i32_le, i32_eq, i32_nat, ckn, pka_r, pka_v, if_pos, if_neg, if_true, if_false]
  obtain ⟨⟨o3, o4, o5⟩, _, e⟩ := up_inv (fun (s : Nat) (y : Option Value × Option Value × Option Value) => den none (Mean (d + 3)) (some .int) tQ_X11_last (4, [some (.ref 140), some (.int (i32 (lastF m s))), some (.int (i32 (s : Int))), y.1, y.2.1, y.2.2], [], 176, zs Z, J, RP p0 p1 p2 p3 p4 p5 p6 p7)) (qN m) (fun _ _ => True) (fun s y hs _ => by
    obtain ⟨o3, o4, o5⟩ := y
    have hb := lastF_b h.1.1 s
    have hb2 := ndF_b h.1.1 s 6 (by omega)
    cases cn : qnear m s
    · refine ⟨(o3, o4, o5), trivial, ?_⟩
      have e : lastF m (s + 1) = lastF m s := if_neg (by rw [cn]; simp)
      simp only [e]
      rw [k_X11_last_4]
      simp (disch := omega) only [k_X11_last_0, k_X11_last_12, k_X11_last_17, k_X11_last_20, k_X11_last_23, k_X11_last_35, k_X11_last_41, k_X11_last_44, k_X11_last_47, k_X11_last_54, k_X11_last_60, k_X11_last_67, k_X11_last_73, k_X11_last_83, k_X11_last_88, k_X11_last_94, k_X11_last_98, k_X11_last_104, k_X11_last_111, k_X11_last_116, k_X11_last_121, k_X11_last_123, k_X11_last_129, li_0, li_1, li_2, li_3, li_4, li_5, li_6, li_9, li_10, li_40, lm_1, lm_2, lm_3, lm_4, zs_ap, i32_add, i32_sub, i32_mul, i32_neg, i32_lt, i32_le, i32_eq, i32_nat, ckn, pka_r, pka_v, if_pos, if_neg, if_true, if_false, h0, g_isNear h.1, cn, bBf]
      rfl
    · obtain ⟨o5', e5⟩ := inn s (i32 (lastF m s)) o5 hs
      refine ⟨(some (.int (i32 (ndF m s 6))), some (.int (i32 ((6 : Nat) : Int))), o5'), trivial, ?_⟩
      simp only
      have e0 : den none (Mean (d + 3)) (some .int) tQ_X11_last (4, [some (.ref 140), some (.int (i32 (lastF m s))), some (.int (i32 (s : Int))), o3, o4, o5], [], 176, zs Z, J, RP p0 p1 p2 p3 p4 p5 p6 p7) = den none (Mean (d + 3)) (some .int) tQ_X11_last (104, [some (.ref 140), some (.int (i32 (lastF m s))), some (.int (i32 (s : Int))), some (.int (i32 (ndF m s 6))), some (.int (i32 ((6 : Nat) : Int))), o5'], [], 176, zs Z, J, RP p0 p1 p2 p3 p4 p5 p6 p7) := by
        rw [k_X11_last_4]
        simp (disch := omega) only [k_X11_last_0, k_X11_last_12, k_X11_last_17, k_X11_last_20, k_X11_last_23, k_X11_last_35, k_X11_last_41, k_X11_last_44, k_X11_last_47, k_X11_last_54, k_X11_last_60, k_X11_last_67, k_X11_last_73, k_X11_last_83, k_X11_last_88, k_X11_last_94, k_X11_last_98, k_X11_last_111, k_X11_last_116, k_X11_last_121, k_X11_last_123, k_X11_last_129, li_0, li_1, li_2, li_3, li_4, li_5, li_6, li_9, li_10, li_40, lm_1, lm_2, lm_3, lm_4, zs_ap, i32_add, i32_sub, i32_mul, i32_neg, i32_lt, i32_le, i32_eq, i32_nat, ckn, pka_r, pka_v, if_pos, if_neg, if_true, if_false, h0, g_isNear h.1, cn, bBt]
        exact e5
      rw [e0]
      by_cases c1 : ndF m s 6 ≤ 2000 ∧ (lastF m s = -1 ∨ ndF m s 6 < lastF m s)
      · have e : lastF m (s + 1) = ndF m s 6 := if_pos ⟨cn, c1⟩
        rw [e]
        by_cases c2 : lastF m s = -1
        · simp (disch := omega) only [k_X11_last_0, k_X11_last_12, k_X11_last_17, k_X11_last_20, k_X11_last_23, k_X11_last_35, k_X11_last_41, k_X11_last_44, k_X11_last_47, k_X11_last_54, k_X11_last_60, k_X11_last_67, k_X11_last_73, k_X11_last_83, k_X11_last_88, k_X11_last_94, k_X11_last_98, k_X11_last_104, k_X11_last_111, k_X11_last_116, k_X11_last_121, k_X11_last_123, k_X11_last_129, li_0, li_1, li_2, li_3, li_4, li_5, li_6, li_9, li_10, li_40, lm_1, lm_2, lm_3, lm_4, zs_ap, i32_add, i32_sub, i32_mul, i32_neg, i32_lt, i32_le, i32_eq, i32_nat, ckn, pka_r, pka_v, if_pos, if_neg, if_true, if_false, li_2000]
          rfl
        · have c3 : ndF m s 6 < lastF m s := by omega
          simp (disch := omega) only [k_X11_last_0, k_X11_last_12, k_X11_last_17, k_X11_last_20, k_X11_last_23, k_X11_last_35, k_X11_last_41, k_X11_last_44, k_X11_last_47, k_X11_last_54, k_X11_last_60, k_X11_last_67, k_X11_last_73, k_X11_last_83, k_X11_last_88, k_X11_last_94, k_X11_last_98, k_X11_last_104, k_X11_last_111, k_X11_last_116, k_X11_last_121, k_X11_last_123, k_X11_last_129, li_0, li_1, li_2, li_3, li_4, li_5, li_6, li_9, li_10, li_40, lm_1, lm_2, lm_3, lm_4, zs_ap, i32_add, i32_sub, i32_mul, i32_neg, i32_lt, i32_le, i32_eq, i32_nat, ckn, pka_r, pka_v, if_pos, if_neg, if_true, if_false, li_2000]
          rfl
      · have e : lastF m (s + 1) = lastF m s := if_neg (fun q => c1 q.2)
        rw [e]
        by_cases c2 : ndF m s 6 ≤ 2000
        · simp (disch := omega) only [k_X11_last_0, k_X11_last_12, k_X11_last_17, k_X11_last_20, k_X11_last_23, k_X11_last_35, k_X11_last_41, k_X11_last_44, k_X11_last_47, k_X11_last_54, k_X11_last_60, k_X11_last_67, k_X11_last_73, k_X11_last_83, k_X11_last_88, k_X11_last_94, k_X11_last_98, k_X11_last_104, k_X11_last_111, k_X11_last_116, k_X11_last_121, k_X11_last_123, k_X11_last_129, li_0, li_1, li_2, li_3, li_4, li_5, li_6, li_9, li_10, li_40, lm_1, lm_2, lm_3, lm_4, zs_ap, i32_add, i32_sub, i32_mul, i32_neg, i32_lt, i32_le, i32_eq, i32_nat, ckn, pka_r, pka_v, if_pos, if_neg, if_true, if_false, li_2000]
          rfl
        · simp (disch := omega) only [k_X11_last_0, k_X11_last_12, k_X11_last_17, k_X11_last_20, k_X11_last_23, k_X11_last_35, k_X11_last_41, k_X11_last_44, k_X11_last_47, k_X11_last_54, k_X11_last_60, k_X11_last_67, k_X11_last_73, k_X11_last_83, k_X11_last_88, k_X11_last_94, k_X11_last_98, k_X11_last_104, k_X11_last_111, k_X11_last_116, k_X11_last_121, k_X11_last_123, k_X11_last_129, li_0, li_1, li_2, li_3, li_4, li_5, li_6, li_9, li_10, li_40, lm_1, lm_2, lm_3, lm_4, zs_ap, i32_add, i32_sub, i32_mul, i32_neg, i32_lt, i32_le, i32_eq, i32_nat, ckn, pka_r, pka_v, if_pos, if_neg, if_true, if_false, li_2000]
          rfl) (none, none, none) trivial
  rw [e_X11_last, k_X11_last_0]
  refine Eq.trans e ?_
  rw [k_X11_last_4]
  simp (disch := omega) only [k_X11_last_0, k_X11_last_12, k_X11_last_17, k_X11_last_20, k_X11_last_23, k_X11_last_35, k_X11_last_41, k_X11_last_44, k_X11_last_47, k_X11_last_54, k_X11_last_60, k_X11_last_67, k_X11_last_73, k_X11_last_83, k_X11_last_88, k_X11_last_94, k_X11_last_98, k_X11_last_104, k_X11_last_111, k_X11_last_116, k_X11_last_121, k_X11_last_123, k_X11_last_129, li_0, li_1, li_2, li_3, li_4, li_5, li_6, li_9, li_10, li_40, lm_1, lm_2, lm_3, lm_4, zs_ap, i32_add, i32_sub, i32_mul, i32_neg, i32_lt, i32_le, i32_eq, i32_nat, ckn, pka_r, pka_v, if_pos, if_neg, if_true, if_false, h0]
  rfl
end
