/-! THE MODEL'S judgedStep -/
theorem i64_mul (a b : Int) : i64 a * i64 b = i64 (a * b) := (Int64.ofInt_mul a b).symm
def jwd (m : Mat) : Nat := if qmode m = 2 then qS m else 1
def jp (c : Nat) : Nat := (c - 49) / 9
def jq (c : Nat) : Nat := (c - 49) % 9 + 1
def jok (m : Mat) (s t i c : Nat) : Bool := decide (48 < c ∧ c ≤ 48 + 9 * qP m) && (decide (qown m (jp c) = if qmode m = 2 then i else if qmode m = 0 then t else qown m (jp c)) && qmay m s (jp c) (jq c))
def jgo (m : Mat) (tp : Nat → Nat) (s k t : Nat) : Nat → Nat → Nat → Nat → Option (Nat × Nat)
  | 0, _, to, g => some (to, g)
  | j + 1, i, to, g => if tp (jwd m * k + i) = 48 then jgo m tp s k t j (i + 1) to g else if jok m s t i (tp (jwd m * k + i)) then jgo m tp s k t j (i + 1) (to - jq (tp (jwd m * k + i)) * qpl m (jp (tp (jwd m * k + i)))) (g + 1) else none
def jres (m : Mat) : Option (Nat × Nat) → Int
  | none => -1
  | some y => if 0 < y.2 ∨ qmode m = 0 then (y.1 : Int) else -1
def jstep (m : Mat) (tp : Nat → Nat) (s k t : Nat) : Int := if s = qfin m then -1 else jres m (jgo m tp s k t (jwd m) 0 s 0)
/-- the bytes that lie on the model's tape -/
def TB (tp : Nat → Nat) (Z : Nat → Nat → Int) : Prop := ∀ x : Nat, x < 700 → i32 (Z 141 x) &&& 255 = i32 (tp x : Int) ∧ tp x < 256
section
variable {d : Nat} {J : Nat → Nat → Int64} {Z : Nat → Nat → Int} {p0 p1 p2 p3 p4 p5 p6 p7 : Nat} {m : Mat} {b : Nat → Int} {tp : Nat → Nat}
theorem js_loop (h : MI m Z) (ht : TB tp Z) {s k t : Nat} (hs : s < qN m) (hk : k < 40) (htS : t < 100) : ∀ (j i g to : Nat) (o8 o9 o10 : Option Value), i + j = jwd m → g ≤ i → to < qN m → (∀ p : Nat, p < qP m → (qmode m = 2 → i ≤ qown m p) → (qmode m ≠ 2 → i = 0) → qhas m to p = qhas m s p) → den none (Mean (d + 2)) (some .int) tQ_X11_judgedStep (37, [some (.ref 140), some (.int (i32 (s : Int))), some (.int (i32 (k : Int))), some (.int (i32 (t : Int))), some (.int (i32 (to : Int))), some (.int (i32 ((jwd m : Nat) : Int))), some (.int (i32 (g : Int))), some (.int (i32 (i : Int))), o8, o9, o10], [], 176, zs Z, J, RP p0 p1 p2 p3 p4 p5 p6 p7) = some (some (.int (i32 (jres m (jgo m tp s k t j i to g)))), (176, zs Z, J, RP p0 p1 p2 p3 p4 p5 p6 p7)) := by
  have h0 := MI_n h
  have h1 := h.2.1.1
  have hmd := h.1.2.2.2.2.2.1
  have hwd : 1 ≤ jwd m ∧ jwd m ≤ 3 := by
    unfold jwd
    split <;> omega
  intro j
  induction j with
  | zero =>
    intro i g to o8 o9 o10 hi hg hto hd
    rw [k_X11_judgedStep_37]
    unfold jgo jres
    simp only
    by_cases c : 0 < g
    · rw [if_pos (Or.inl c)]
      simp (disch := omega) only [k_X11_judgedStep_0, k_X11_judgedStep_8, k_X11_judgedStep_10, k_X11_judgedStep_21, k_X11_judgedStep_28, k_X11_judgedStep_29, k_X11_judgedStep_44, k_X11_judgedStep_56, k_X11_judgedStep_70, k_X11_judgedStep_73, k_X11_judgedStep_89, k_X11_judgedStep_92, k_X11_judgedStep_94, k_X11_judgedStep_111, k_X11_judgedStep_116, k_X11_judgedStep_123, k_X11_judgedStep_127, k_X11_judgedStep_134, k_X11_judgedStep_143, k_X11_judgedStep_148, k_X11_judgedStep_164, k_X11_judgedStep_167, k_X11_judgedStep_169, k_X11_judgedStep_187, k_X11_judgedStep_194, k_X11_judgedStep_200, k_X11_judgedStep_205, k_X11_judgedStep_212, k_X11_judgedStep_217, k_X11_judgedStep_218, li_0, li_1, li_2, li_3, li_4, li_5, li_6, li_9, li_10, li_40, lm_1, lm_2, lm_3, lm_4, zs_ap, i32_add, i32_sub, i32_mul, i32_neg, i32_lt, i32_le, i32_eq, i32_nat, ckn, pka_r, pka_v, if_pos, if_neg, if_true, if_false]
    · by_cases c2 : qmode m = 0
      · rw [if_pos (Or.inr c2)]
        simp (disch := omega) only [k_X11_judgedStep_0, k_X11_judgedStep_8, k_X11_judgedStep_10, k_X11_judgedStep_21, k_X11_judgedStep_28, k_X11_judgedStep_29, k_X11_judgedStep_44, k_X11_judgedStep_56, k_X11_judgedStep_70, k_X11_judgedStep_73, k_X11_judgedStep_89, k_X11_judgedStep_92, k_X11_judgedStep_94, k_X11_judgedStep_111, k_X11_judgedStep_116, k_X11_judgedStep_123, k_X11_judgedStep_127, k_X11_judgedStep_134, k_X11_judgedStep_143, k_X11_judgedStep_148, k_X11_judgedStep_164, k_X11_judgedStep_167, k_X11_judgedStep_169, k_X11_judgedStep_187, k_X11_judgedStep_194, k_X11_judgedStep_200, k_X11_judgedStep_205, k_X11_judgedStep_212, k_X11_judgedStep_217, k_X11_judgedStep_218, li_0, li_1, li_2, li_3, li_4, li_5, li_6, li_9, li_10, li_40, lm_1, lm_2, lm_3, lm_4, zs_ap, i32_add, i32_sub, i32_mul, i32_neg, i32_lt, i32_le, i32_eq, i32_nat, ckn, pka_r, pka_v, if_pos, if_neg, if_true, if_false, h1]
      · rw [if_neg (show ¬ (0 < g ∨ qmode m = 0) by omega)]
        simp (disch := omega) only [k_X11_judgedStep_0, k_X11_judgedStep_8, k_X11_judgedStep_10, k_X11_judgedStep_21, k_X11_judgedStep_28, k_X11_judgedStep_29, k_X11_judgedStep_44, k_X11_judgedStep_56, k_X11_judgedStep_70, k_X11_judgedStep_73, k_X11_judgedStep_89, k_X11_judgedStep_92, k_X11_judgedStep_94, k_X11_judgedStep_111, k_X11_judgedStep_116, k_X11_judgedStep_123, k_X11_judgedStep_127, k_X11_judgedStep_134, k_X11_judgedStep_143, k_X11_judgedStep_148, k_X11_judgedStep_164, k_X11_judgedStep_167, k_X11_judgedStep_169, k_X11_judgedStep_187, k_X11_judgedStep_194, k_X11_judgedStep_200, k_X11_judgedStep_205, k_X11_judgedStep_212, k_X11_judgedStep_217, k_X11_judgedStep_218, li_0, li_1, li_2, li_3, li_4, li_5, li_6, li_9, li_10, li_40, lm_1, lm_2, lm_3, lm_4, zs_ap, i32_add, i32_sub, i32_mul, i32_neg, i32_lt, i32_le, i32_eq, i32_nat, ckn, pka_r, pka_v, if_pos, if_neg, if_true, if_false, h1]
  | succ j ih =>
    intro i g to o8 o9 o10 hi hg hto hd
    have hx : jwd m * k + i < 700 := by
      have : jwd m * k ≤ 3 * 40 := Nat.mul_le_mul hwd.2 (by omega)
      omega
    have hx2 : (jwd m : Int) * (k : Int) + (i : Int) = ((jwd m * k + i : Nat) : Int) := by push_cast; rfl
    obtain ⟨hb1, hb2⟩ := ht _ hx
    generalize hc : tp (jwd m * k + i) = c at hb1 hb2
    have hgo : jgo m tp s k t (j + 1) i to g = if c = 48 then jgo m tp s k t j (i + 1) to g else if jok m s t i c then jgo m tp s k t j (i + 1) (to - jq c * qpl m (jp c)) (g + 1) else none := by
      rw [← hc]
      rfl
    rw [hgo, k_X11_judgedStep_37]
    have hd' : ∀ p : Nat, p < qP m → (qmode m = 2 → i + 1 ≤ qown m p) → (qmode m ≠ 2 → i + 1 = 0) → qhas m to p = qhas m s p := fun p hp q1 q2 => hd p hp (fun q => by have := q1 q; omega) (fun q => absurd (q2 q) (by omega))
    by_cases c48 : c = 48
    · rw [if_pos c48]
      simp (disch := omega) only [k_X11_judgedStep_0, k_X11_judgedStep_8, k_X11_judgedStep_10, k_X11_judgedStep_21, k_X11_judgedStep_28, k_X11_judgedStep_29, k_X11_judgedStep_44, k_X11_judgedStep_56, k_X11_judgedStep_70, k_X11_judgedStep_73, k_X11_judgedStep_89, k_X11_judgedStep_92, k_X11_judgedStep_94, k_X11_judgedStep_111, k_X11_judgedStep_116, k_X11_judgedStep_123, k_X11_judgedStep_127, k_X11_judgedStep_134, k_X11_judgedStep_143, k_X11_judgedStep_148, k_X11_judgedStep_164, k_X11_judgedStep_167, k_X11_judgedStep_169, k_X11_judgedStep_187, k_X11_judgedStep_194, k_X11_judgedStep_200, k_X11_judgedStep_205, k_X11_judgedStep_212, k_X11_judgedStep_217, k_X11_judgedStep_218, li_0, li_1, li_2, li_3, li_4, li_5, li_6, li_9, li_10, li_40, lm_1, lm_2, lm_3, lm_4, zs_ap, i32_add, i32_sub, i32_mul, i32_neg, i32_lt, i32_le, i32_eq, i32_nat, ckn, pka_r, pka_v, if_pos, if_neg, if_true, if_false, hx2, Int.toNat_natCast, hb1, li_48]
      exact ih (i + 1) g to _ o9 o10 (by omega) (by omega) hto hd'
    · rw [if_neg c48]
      by_cases cr : 48 < c ∧ c ≤ 48 + 9 * qP m
      · have hpP : jp c < qP m := by unfold jp; omega
        have hpq : 1 ≤ jq c ∧ jq c ≤ 9 := by unfold jq; omega
        have ed : ((c : Int) - 48 - 1).tdiv 9 = ((jp c : Nat) : Int) := by
          rw [show (c : Int) - 48 - 1 = ((c - 49 : Nat) : Int) by omega]
          rfl
        have em : (c : Int) - 48 - 1 - (jp c : Int) * 9 + 1 = ((jq c : Nat) : Int) := by
          unfold jp jq
          omega
        have hr := (h.2.1.2.1 (jp c) hpP).1
        have hwk := (h.1.2.2.1 (jp c) hpP).1
        have hpl := h.2.2.2.2.1 (jp c) (by omega)
        have hplb := qpl_b h.1 (k := jp c) (by omega)
        by_cases co : qown m (jp c) = if qmode m = 2 then i else if qmode m = 0 then t else qown m (jp c)
        · cases cm : qmay m s (jp c) (jq c)
          · have hjo : jok m s t i c = false := by unfold jok; rw [cm, Bool.and_false, Bool.and_false]
            rw [hjo, if_neg Bool.false_ne_true]
            by_cases c2 : qmode m = 2
            · rw [if_pos c2] at co
              simp (disch := omega) only [k_X11_judgedStep_0, k_X11_judgedStep_8, k_X11_judgedStep_10, k_X11_judgedStep_21, k_X11_judgedStep_28, k_X11_judgedStep_29, k_X11_judgedStep_44, k_X11_judgedStep_56, k_X11_judgedStep_70, k_X11_judgedStep_73, k_X11_judgedStep_89, k_X11_judgedStep_92, k_X11_judgedStep_94, k_X11_judgedStep_111, k_X11_judgedStep_116, k_X11_judgedStep_123, k_X11_judgedStep_127, k_X11_judgedStep_134, k_X11_judgedStep_143, k_X11_judgedStep_148, k_X11_judgedStep_164, k_X11_judgedStep_167, k_X11_judgedStep_169, k_X11_judgedStep_187, k_X11_judgedStep_194, k_X11_judgedStep_200, k_X11_judgedStep_205, k_X11_judgedStep_212, k_X11_judgedStep_217, k_X11_judgedStep_218, li_0, li_1, li_2, li_3, li_4, li_5, li_6, li_9, li_10, li_40, lm_1, lm_2, lm_3, lm_4, zs_ap, i32_add, i32_sub, i32_mul, i32_neg, i32_lt, i32_le, i32_eq, i32_nat, ckn, pka_r, pka_v, if_pos, if_neg, if_true, if_false, hx2, Int.toNat_natCast, hb1, li_48, h1, i32_to64, i64_mul, lj_1, lj_9, s_inZ, bI_t, bI_f, i32_div, ed, em, hr, g_mayGive h, cm, bBf, jres]
            · rw [if_neg c2] at co
              by_cases c0 : qmode m = 0
              · rw [if_pos c0] at co
                simp (disch := omega) only [k_X11_judgedStep_0, k_X11_judgedStep_8, k_X11_judgedStep_10, k_X11_judgedStep_21, k_X11_judgedStep_28, k_X11_judgedStep_29, k_X11_judgedStep_44, k_X11_judgedStep_56, k_X11_judgedStep_70, k_X11_judgedStep_73, k_X11_judgedStep_89, k_X11_judgedStep_92, k_X11_judgedStep_94, k_X11_judgedStep_111, k_X11_judgedStep_116, k_X11_judgedStep_123, k_X11_judgedStep_127, k_X11_judgedStep_134, k_X11_judgedStep_143, k_X11_judgedStep_148, k_X11_judgedStep_164, k_X11_judgedStep_167, k_X11_judgedStep_169, k_X11_judgedStep_187, k_X11_judgedStep_194, k_X11_judgedStep_200, k_X11_judgedStep_205, k_X11_judgedStep_212, k_X11_judgedStep_217, k_X11_judgedStep_218, li_0, li_1, li_2, li_3, li_4, li_5, li_6, li_9, li_10, li_40, lm_1, lm_2, lm_3, lm_4, zs_ap, i32_add, i32_sub, i32_mul, i32_neg, i32_lt, i32_le, i32_eq, i32_nat, ckn, pka_r, pka_v, if_pos, if_neg, if_true, if_false, hx2, Int.toNat_natCast, hb1, li_48, h1, i32_to64, i64_mul, lj_1, lj_9, s_inZ, bI_t, bI_f, i32_div, ed, em, hr, g_mayGive h, cm, bBf, jres]
              · simp (disch := omega) only [k_X11_judgedStep_0, k_X11_judgedStep_8, k_X11_judgedStep_10, k_X11_judgedStep_21, k_X11_judgedStep_28, k_X11_judgedStep_29, k_X11_judgedStep_44, k_X11_judgedStep_56, k_X11_judgedStep_70, k_X11_judgedStep_73, k_X11_judgedStep_89, k_X11_judgedStep_92, k_X11_judgedStep_94, k_X11_judgedStep_111, k_X11_judgedStep_116, k_X11_judgedStep_123, k_X11_judgedStep_127, k_X11_judgedStep_134, k_X11_judgedStep_143, k_X11_judgedStep_148, k_X11_judgedStep_164, k_X11_judgedStep_167, k_X11_judgedStep_169, k_X11_judgedStep_187, k_X11_judgedStep_194, k_X11_judgedStep_200, k_X11_judgedStep_205, k_X11_judgedStep_212, k_X11_judgedStep_217, k_X11_judgedStep_218, li_0, li_1, li_2, li_3, li_4, li_5, li_6, li_9, li_10, li_40, lm_1, lm_2, lm_3, lm_4, zs_ap, i32_add, i32_sub, i32_mul, i32_neg, i32_lt, i32_le, i32_eq, i32_nat, ckn, pka_r, pka_v, if_pos, if_neg, if_true, if_false, hx2, Int.toNat_natCast, hb1, li_48, h1, i32_to64, i64_mul, lj_1, lj_9, s_inZ, bI_t, bI_f, i32_div, ed, em, hr, g_mayGive h, cm, bBf, jres]
          · have hjo : jok m s t i c = true := by unfold jok; rw [cm, decide_eq_true cr, decide_eq_true co]; rfl
            have hle := may_le cm
            have hto' : jq c ≤ qhas m to (jp c) := by
              rw [hd (jp c) hpP (fun q => by rw [if_pos q] at co; omega) (fun q => by unfold jwd at hi; rw [if_neg q] at hi; omega)]
              omega
            have hsub := sub_le hto'
            have ec := sub_c hsub
            rw [hjo, if_pos rfl]
            have fin := fun (o8 o9 o10 : Option Value) => ih (i + 1) (g + 1) (to - jq c * qpl m (jp c)) o8 o9 o10 (by omega) (by omega) (by omega) (fun p hp q1 q2 => by
              have q3 : qmode m = 2 := by
                by_cases q : qmode m = 2
                · exact q
                · exact absurd (q2 q) (by omega)
              rw [if_pos q3] at co
              have q4 := q1 q3
              rw [has_sub hto hpP hto' hp, if_neg (by intro e; subst e; omega)]
              exact hd p hp (fun _ => by omega) (fun q => absurd q3 q))
            by_cases c2 : qmode m = 2
            · rw [if_pos c2] at co
              simp (disch := omega) only [k_X11_judgedStep_0, k_X11_judgedStep_8, k_X11_judgedStep_10, k_X11_judgedStep_21, k_X11_judgedStep_28, k_X11_judgedStep_29, k_X11_judgedStep_44, k_X11_judgedStep_56, k_X11_judgedStep_70, k_X11_judgedStep_73, k_X11_judgedStep_89, k_X11_judgedStep_92, k_X11_judgedStep_94, k_X11_judgedStep_111, k_X11_judgedStep_116, k_X11_judgedStep_123, k_X11_judgedStep_127, k_X11_judgedStep_134, k_X11_judgedStep_143, k_X11_judgedStep_148, k_X11_judgedStep_164, k_X11_judgedStep_167, k_X11_judgedStep_169, k_X11_judgedStep_187, k_X11_judgedStep_194, k_X11_judgedStep_200, k_X11_judgedStep_205, k_X11_judgedStep_212, k_X11_judgedStep_217, k_X11_judgedStep_218, li_0, li_1, li_2, li_3, li_4, li_5, li_6, li_9, li_10, li_40, lm_1, lm_2, lm_3, lm_4, zs_ap, i32_add, i32_sub, i32_mul, i32_neg, i32_lt, i32_le, i32_eq, i32_nat, ckn, pka_r, pka_v, if_pos, if_neg, if_true, if_false, hx2, Int.toNat_natCast, hb1, li_48, h1, i32_to64, i64_mul, lj_1, lj_9, s_inZ, bI_t, bI_f, i32_div, ed, em, hr, g_mayGive h, cm, bBt, hpl, ec]
              exact fin _ _ _
            · rw [if_neg c2] at co
              by_cases c0 : qmode m = 0
              · rw [if_pos c0] at co
                simp (disch := omega) only [k_X11_judgedStep_0, k_X11_judgedStep_8, k_X11_judgedStep_10, k_X11_judgedStep_21, k_X11_judgedStep_28, k_X11_judgedStep_29, k_X11_judgedStep_44, k_X11_judgedStep_56, k_X11_judgedStep_70, k_X11_judgedStep_73, k_X11_judgedStep_89, k_X11_judgedStep_92, k_X11_judgedStep_94, k_X11_judgedStep_111, k_X11_judgedStep_116, k_X11_judgedStep_123, k_X11_judgedStep_127, k_X11_judgedStep_134, k_X11_judgedStep_143, k_X11_judgedStep_148, k_X11_judgedStep_164, k_X11_judgedStep_167, k_X11_judgedStep_169, k_X11_judgedStep_187, k_X11_judgedStep_194, k_X11_judgedStep_200, k_X11_judgedStep_205, k_X11_judgedStep_212, k_X11_judgedStep_217, k_X11_judgedStep_218, li_0, li_1, li_2, li_3, li_4, li_5, li_6, li_9, li_10, li_40, lm_1, lm_2, lm_3, lm_4, zs_ap, i32_add, i32_sub, i32_mul, i32_neg, i32_lt, i32_le, i32_eq, i32_nat, ckn, pka_r, pka_v, if_pos, if_neg, if_true, if_false, hx2, Int.toNat_natCast, hb1, li_48, h1, i32_to64, i64_mul, lj_1, lj_9, s_inZ, bI_t, bI_f, i32_div, ed, em, hr, g_mayGive h, cm, bBt, hpl, ec]
                exact fin _ _ _
              · simp (disch := omega) only [k_X11_judgedStep_0, k_X11_judgedStep_8, k_X11_judgedStep_10, k_X11_judgedStep_21, k_X11_judgedStep_28, k_X11_judgedStep_29, k_X11_judgedStep_44, k_X11_judgedStep_56, k_X11_judgedStep_70, k_X11_judgedStep_73, k_X11_judgedStep_89, k_X11_judgedStep_92, k_X11_judgedStep_94, k_X11_judgedStep_111, k_X11_judgedStep_116, k_X11_judgedStep_123, k_X11_judgedStep_127, k_X11_judgedStep_134, k_X11_judgedStep_143, k_X11_judgedStep_148, k_X11_judgedStep_164, k_X11_judgedStep_167, k_X11_judgedStep_169, k_X11_judgedStep_187, k_X11_judgedStep_194, k_X11_judgedStep_200, k_X11_judgedStep_205, k_X11_judgedStep_212, k_X11_judgedStep_217, k_X11_judgedStep_218, li_0, li_1, li_2, li_3, li_4, li_5, li_6, li_9, li_10, li_40, lm_1, lm_2, lm_3, lm_4, zs_ap, i32_add, i32_sub, i32_mul, i32_neg, i32_lt, i32_le, i32_eq, i32_nat, ckn, pka_r, pka_v, if_pos, if_neg, if_true, if_false, hx2, Int.toNat_natCast, hb1, li_48, h1, i32_to64, i64_mul, lj_1, lj_9, s_inZ, bI_t, bI_f, i32_div, ed, em, hr, g_mayGive h, cm, bBt, hpl, ec]
                exact fin _ _ _
        · have hjo : jok m s t i c = false := by unfold jok; rw [decide_eq_false co, Bool.false_and, Bool.and_false]
          rw [hjo, if_neg Bool.false_ne_true]
          by_cases c2 : qmode m = 2
          · rw [if_pos c2] at co
            simp (disch := omega) only [k_X11_judgedStep_0, k_X11_judgedStep_8, k_X11_judgedStep_10, k_X11_judgedStep_21, k_X11_judgedStep_28, k_X11_judgedStep_29, k_X11_judgedStep_44, k_X11_judgedStep_56, k_X11_judgedStep_70, k_X11_judgedStep_73, k_X11_judgedStep_89, k_X11_judgedStep_92, k_X11_judgedStep_94, k_X11_judgedStep_111, k_X11_judgedStep_116, k_X11_judgedStep_123, k_X11_judgedStep_127, k_X11_judgedStep_134, k_X11_judgedStep_143, k_X11_judgedStep_148, k_X11_judgedStep_164, k_X11_judgedStep_167, k_X11_judgedStep_169, k_X11_judgedStep_187, k_X11_judgedStep_194, k_X11_judgedStep_200, k_X11_judgedStep_205, k_X11_judgedStep_212, k_X11_judgedStep_217, k_X11_judgedStep_218, li_0, li_1, li_2, li_3, li_4, li_5, li_6, li_9, li_10, li_40, lm_1, lm_2, lm_3, lm_4, zs_ap, i32_add, i32_sub, i32_mul, i32_neg, i32_lt, i32_le, i32_eq, i32_nat, ckn, pka_r, pka_v, if_pos, if_neg, if_true, if_false, hx2, Int.toNat_natCast, hb1, li_48, h1, i32_to64, i64_mul, lj_1, lj_9, s_inZ, bI_t, bI_f, i32_div, ed, em, hr, jres]
          · rw [if_neg c2] at co
            by_cases c0 : qmode m = 0
            · rw [if_pos c0] at co
              simp (disch := omega) only [k_X11_judgedStep_0, k_X11_judgedStep_8, k_X11_judgedStep_10, k_X11_judgedStep_21, k_X11_judgedStep_28, k_X11_judgedStep_29, k_X11_judgedStep_44, k_X11_judgedStep_56, k_X11_judgedStep_70, k_X11_judgedStep_73, k_X11_judgedStep_89, k_X11_judgedStep_92, k_X11_judgedStep_94, k_X11_judgedStep_111, k_X11_judgedStep_116, k_X11_judgedStep_123, k_X11_judgedStep_127, k_X11_judgedStep_134, k_X11_judgedStep_143, k_X11_judgedStep_148, k_X11_judgedStep_164, k_X11_judgedStep_167, k_X11_judgedStep_169, k_X11_judgedStep_187, k_X11_judgedStep_194, k_X11_judgedStep_200, k_X11_judgedStep_205, k_X11_judgedStep_212, k_X11_judgedStep_217, k_X11_judgedStep_218, li_0, li_1, li_2, li_3, li_4, li_5, li_6, li_9, li_10, li_40, lm_1, lm_2, lm_3, lm_4, zs_ap, i32_add, i32_sub, i32_mul, i32_neg, i32_lt, i32_le, i32_eq, i32_nat, ckn, pka_r, pka_v, if_pos, if_neg, if_true, if_false, hx2, Int.toNat_natCast, hb1, li_48, h1, i32_to64, i64_mul, lj_1, lj_9, s_inZ, bI_t, bI_f, i32_div, ed, em, hr, jres]
            · rw [if_neg c0] at co
              exact absurd rfl co
      · have hjo : jok m s t i c = false := by unfold jok; rw [decide_eq_false cr, Bool.false_and]
        rw [hjo, if_neg Bool.false_ne_true]
        simp (disch := omega) only [k_X11_judgedStep_0, k_X11_judgedStep_8, k_X11_judgedStep_10, k_X11_judgedStep_21, k_X11_judgedStep_28, k_X11_judgedStep_29, k_X11_judgedStep_44, k_X11_judgedStep_56, k_X11_judgedStep_70, k_X11_judgedStep_73, k_X11_judgedStep_89, k_X11_judgedStep_92, k_X11_judgedStep_94, k_X11_judgedStep_111, k_X11_judgedStep_116, k_X11_judgedStep_123, k_X11_judgedStep_127, k_X11_judgedStep_134, k_X11_judgedStep_143, k_X11_judgedStep_148, k_X11_judgedStep_164, k_X11_judgedStep_167, k_X11_judgedStep_169, k_X11_judgedStep_187, k_X11_judgedStep_194, k_X11_judgedStep_200, k_X11_judgedStep_205, k_X11_judgedStep_212, k_X11_judgedStep_217, k_X11_judgedStep_218, li_0, li_1, li_2, li_3, li_4, li_5, li_6, li_9, li_10, li_40, lm_1, lm_2, lm_3, lm_4, zs_ap, i32_add, i32_sub, i32_mul, i32_neg, i32_lt, i32_le, i32_eq, i32_nat, ckn, pka_r, pka_v, if_pos, if_neg, if_true, if_false, hx2, Int.toNat_natCast, hb1, li_48, h1, i32_to64, i64_mul, lj_1, lj_9, s_inZ, bI_t, bI_f, jres]
theorem g_judgedStep (h : MI m Z) (ht : TB tp Z) {s k t : Nat} (hs : s < qN m) (hk : k < 40) (htS : t < 100) : Mean (d + 3) 221 [.ref 140, .int (i32 (s : Int)), .int (i32 (k : Int)), .int (i32 (t : Int))] (176, zs Z, J, RP p0 p1 p2 p3 p4 p5 p6 p7) = some (some (.int (i32 (jstep m tp s k t))), (176, zs Z, J, RP p0 p1 p2 p3 p4 p5 p6 p7)) := by
  have h0 := MI_n h
  have h1 := h.2.1.1
  have hmd := h.1.2.2.2.2.2.1
  unfold jstep
  rw [e_X11_judgedStep]
  by_cases c : s = qfin m
  · rw [if_pos c]
    simp (disch := omega) only [k_X11_judgedStep_0, k_X11_judgedStep_8, k_X11_judgedStep_10, k_X11_judgedStep_21, k_X11_judgedStep_28, k_X11_judgedStep_29, k_X11_judgedStep_44, k_X11_judgedStep_56, k_X11_judgedStep_70, k_X11_judgedStep_73, k_X11_judgedStep_89, k_X11_judgedStep_92, k_X11_judgedStep_94, k_X11_judgedStep_111, k_X11_judgedStep_116, k_X11_judgedStep_123, k_X11_judgedStep_127, k_X11_judgedStep_134, k_X11_judgedStep_143, k_X11_judgedStep_148, k_X11_judgedStep_164, k_X11_judgedStep_167, k_X11_judgedStep_169, k_X11_judgedStep_187, k_X11_judgedStep_194, k_X11_judgedStep_200, k_X11_judgedStep_205, k_X11_judgedStep_212, k_X11_judgedStep_217, k_X11_judgedStep_218, li_0, li_1, li_2, li_3, li_4, li_5, li_6, li_9, li_10, li_40, lm_1, lm_2, lm_3, lm_4, zs_ap, i32_add, i32_sub, i32_mul, i32_neg, i32_lt, i32_le, i32_eq, i32_nat, ckn, pka_r, pka_v, if_pos, if_neg, if_true, if_false, h0]
  · rw [if_neg c]
    have key := fun (o8 o9 o10 : Option Value) => js_loop (d := d) (J := J) (p0 := p0) (p1 := p1) (p2 := p2) (p3 := p3) (p4 := p4) (p5 := p5) (p6 := p6) (p7 := p7) h ht hs hk htS (jwd m) 0 0 s o8 o9 o10 (by omega) (by omega) hs (fun _ _ _ _ => rfl)
    unfold jwd at key ⊢
    by_cases c2 : qmode m = 2
    · rw [if_pos c2] at key ⊢
      simp (disch := omega) only [k_X11_judgedStep_0, k_X11_judgedStep_8, k_X11_judgedStep_10, k_X11_judgedStep_21, k_X11_judgedStep_28, k_X11_judgedStep_29, k_X11_judgedStep_44, k_X11_judgedStep_56, k_X11_judgedStep_70, k_X11_judgedStep_73, k_X11_judgedStep_89, k_X11_judgedStep_92, k_X11_judgedStep_94, k_X11_judgedStep_111, k_X11_judgedStep_116, k_X11_judgedStep_123, k_X11_judgedStep_127, k_X11_judgedStep_134, k_X11_judgedStep_143, k_X11_judgedStep_148, k_X11_judgedStep_164, k_X11_judgedStep_167, k_X11_judgedStep_169, k_X11_judgedStep_187, k_X11_judgedStep_194, k_X11_judgedStep_200, k_X11_judgedStep_205, k_X11_judgedStep_212, k_X11_judgedStep_217, k_X11_judgedStep_218, li_0, li_1, li_2, li_3, li_4, li_5, li_6, li_9, li_10, li_40, lm_1, lm_2, lm_3, lm_4, zs_ap, i32_add, i32_sub, i32_mul, i32_neg, i32_lt, i32_le, i32_eq, i32_nat, ckn, pka_r, pka_v, if_pos, if_neg, if_true, if_false, h0, h1]
      exact key _ _ _
    · rw [if_neg c2] at key ⊢
      simp (disch := omega) only [k_X11_judgedStep_0, k_X11_judgedStep_8, k_X11_judgedStep_10, k_X11_judgedStep_21, k_X11_judgedStep_28, k_X11_judgedStep_29, k_X11_judgedStep_44, k_X11_judgedStep_56, k_X11_judgedStep_70, k_X11_judgedStep_73, k_X11_judgedStep_89, k_X11_judgedStep_92, k_X11_judgedStep_94, k_X11_judgedStep_111, k_X11_judgedStep_116, k_X11_judgedStep_123, k_X11_judgedStep_127, k_X11_judgedStep_134, k_X11_judgedStep_143, k_X11_judgedStep_148, k_X11_judgedStep_164, k_X11_judgedStep_167, k_X11_judgedStep_169, k_X11_judgedStep_187, k_X11_judgedStep_194, k_X11_judgedStep_200, k_X11_judgedStep_205, k_X11_judgedStep_212, k_X11_judgedStep_217, k_X11_judgedStep_218, li_0, li_1, li_2, li_3, li_4, li_5, li_6, li_9, li_10, li_40, lm_1, lm_2, lm_3, lm_4, zs_ap, i32_add, i32_sub, i32_mul, i32_neg, i32_lt, i32_le, i32_eq, i32_nat, ckn, pka_r, pka_v, if_pos, if_neg, if_true, if_false, h0, h1]
      exact key _ _ _
end
