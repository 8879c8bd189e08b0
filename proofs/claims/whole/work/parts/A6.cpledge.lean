/-! THE CLASS'S Trials: pledge -/
section
variable {d : Nat} {J : Nat → Nat → Int64} {Z : Nat → Nat → Int} {p0 p1 p5 p6 : Nat} {m : Mat}
/-- the best pledges so far -/
def PBe (m : Mat) (most : Nat) (x0 x1 : Int) : Prop := (x0 = -1 ∧ x1 = -1) ∨ ∃ a c : Nat, x0 = a ∧ x1 = c ∧ a ≤ most ∧ c ≤ most ∧ pPl m a c = true
def PLe (x0 x1 : Int) (a c : Nat) : Prop := x0 ≠ -1 ∧ (x0 + x1 < (a : Int) + (c : Int) ∨ (x0 + x1 = (a : Int) + (c : Int) ∧ x0 ≤ (a : Int)))
/-- all with less for SIDE 0 are looked at; more for SIDE 1 is no better -/
def PIv (m : Mat) (most a : Nat) (x0 x1 p1 : Int) : Prop := PBe m most x0 x1 ∧ (x0 = -1 ∨ x0 < (a : Int)) ∧ p1 ≤ (most : Int) ∧ (∀ a' c' : Nat, a' < a → a' ≤ most → c' ≤ most → pPl m a' c' = true → PLe x0 x1 a' c') ∧ ∀ a' c' : Nat, a ≤ a' → a' ≤ most → c' ≤ most → p1 < (c' : Int) → pPl m a' c' = true → PLe x0 x1 a' c'
theorem PIv_end {most a : Nat} {x0 x1 p1 : Int} (h : PIv m most a x0 x1 p1) (he : most < a ∨ p1 < 0) : PLs m most x0 x1 := by
  obtain ⟨h1, h2, h3, h4, h5⟩ := h
  have hall : ∀ a' c' : Nat, a' ≤ most → c' ≤ most → pPl m a' c' = true → PLe x0 x1 a' c' := fun a' c' ha hc hp => by
    by_cases c : a' < a
    · exact h4 a' c' c ha hc hp
    · exact h5 a' c' (by omega) ha hc (by omega) hp
  rcases h1 with ⟨e0, e1⟩ | ⟨u, v, e0, e1, hu, hv, hp⟩
  · refine Or.inl ⟨e0, e1, fun a' c' ha hc => ?_⟩
    cases cc : pPl m a' c'
    · rfl
    · exact absurd e0 (hall a' c' ha hc cc).1
  · refine Or.inr ⟨u, v, e0, e1, hu, hv, hp, fun a' c' ha hc hp' => ?_⟩
    have := (hall a' c' ha hc hp').2
    omega
theorem pg_in (hw : wf m) {most a : Nat} (hm : most ≤ 60) (ha : a ≤ most) (x2 : Int32) : ∀ (n : Nat) (x0 x1 : Int) (Z : Nat → Nat → Int) (J : Nat → Nat → Int64) (q5 q6 : Nat), KI m p0 Z → ((n : Int) - 1 ≤ (most : Int)) → PBe m most x0 x1 → (x0 = -1 ∨ x0 ≤ (a : Int)) → (x0 ≠ -1 → (n : Int) - 1 ≤ x0 + x1 - 1 - (a : Int)) → (∀ a' c' : Nat, a' < a → a' ≤ most → c' ≤ most → pPl m a' c' = true → PLe x0 x1 a' c') → (∀ a' c' : Nat, a ≤ a' → a' ≤ most → c' ≤ most → (n : Int) - 1 < (c' : Int) → pPl m a' c' = true → PLe x0 x1 a' c') →
    ∃ (x0' x1' p1' : Int) (Z' : Nat → Nat → Int) (J' : Nat → Nat → Int64) (q5' q6' : Nat), TF Z Z' ∧ TJf J J' ∧ PIv m most (a + 1) x0' x1' p1' ∧ (-1 ≤ p1' ∧ -1 ≤ x0' ∧ x0' ≤ 60 ∧ -1 ≤ x1' ∧ x1' ≤ 60) ∧ den none (Mean (d + 5)) (some .int) tQ_X9_leastPledge (43, [some (.ref 95), some (.int (i32 (most : Int))), some (.int x2), some (.int (i32 x0)), some (.int (i32 x1)), some (.int (i32 ((n : Int) - 1))), some (.int (i32 (a : Int)))], [], 176, zs Z, J, RP p0 p1 p0 35 p0 q5 q6 97) = den none (Mean (d + 5)) (some .int) tQ_X9_leastPledge (77, [some (.ref 95), some (.int (i32 (most : Int))), some (.int x2), some (.int (i32 x0')), some (.int (i32 x1')), some (.int (i32 p1')), some (.int (i32 (a : Int)))], [], 176, zs Z', J', RP p0 p1 p0 35 p0 q5' q6' 97) := by
  intro n
  induction n with
  | zero =>
    intro x0 x1 Z J q5 q6 h hn hb h0 hs hl hg
    refine ⟨x0, x1, -1, Z, J, q5, q6, fun _ _ => rfl, fun _ _ => rfl, ⟨hb, by omega, by omega, fun a' c' h1 h2 h3 h4 => ?_, fun a' c' h1 h2 h3 h4 h5 => hg a' c' (by omega) h2 h3 (by omega) h5⟩, ?_, ?_⟩
    · by_cases c : a' < a
      · exact hl a' c' c h2 h3 h4
      · exact hg a' c' (by omega) h2 h3 (by omega) h4
    · rcases hb with ⟨e0, e1⟩ | ⟨u, v, e0, e1, hu, hv, hp⟩ <;> omega
    · rw [k_X9_leastPledge_43]
      simp (disch := omega) only [k_X9_leastPledge_0, k_X9_leastPledge_17, k_X9_leastPledge_22, k_X9_leastPledge_27, k_X9_leastPledge_48, k_X9_leastPledge_61, k_X9_leastPledge_64, k_X9_leastPledge_83, k_X9_leastPledge_87, k_X9_leastPledge_91, k_X9_leastPledge_93, li_0, li_1, li_2, li_3, li_4, li_5, li_6, li_9, li_10, li_40, lm_1, lm_2, lm_3, lm_4, zs_ap, i32_add, i32_sub, i32_mul, i32_neg, i32_lt, i32_le, i32_eq, i32_nat, ckn, pka_r, pka_v, if_pos, if_neg, if_true, if_false]
      rfl
  | succ n ih =>
    intro x0 x1 Z J q5 q6 h hn hb h0 hs hl hg
    rw [show ((n + 1 : Nat) : Int) - 1 = (n : Int) by omega] at *
    obtain ⟨Z1, J1, a1, a2, a3⟩ := h_holds_a (d := d) (J := J) (p1 := p1) (p5 := q5) (p6 := q6) h (x := (a : Int)) (y := (n : Int)) (z := 0) (by omega) (by omega) (by omega)
    rw [pPl_b hw] at a3
    cases cp : pPl m a n
    · rw [cp, bBf] at a3
      refine ⟨x0, x1, (n : Int), Z1, J1, 35, p0, a1, a2, ⟨hb, by omega, by omega, fun a' c' h1 h2 h3 h4 => ?_, fun a' c' h1 h2 h3 h4 h5 => hg a' c' (by omega) h2 h3 (by omega) h5⟩, ?_, ?_⟩
      · by_cases c : a' < a
        · exact hl a' c' c h2 h3 h4
        · by_cases c2 : n < c'
          · exact hg a' c' (by omega) h2 h3 (by omega) h4
          · have : pPl m a n = true := by
              have e : a' = a := by omega
              rw [e] at h4
              exact pPl_mono hw (Nat.le_refl _) (by omega) h4
            rw [cp] at this
            cases this
      · rcases hb with ⟨e0, e1⟩ | ⟨u, v, e0, e1, hu, hv, hp⟩ <;> omega
      · rw [k_X9_leastPledge_43]
        simp (disch := omega) only [k_X9_leastPledge_0, k_X9_leastPledge_17, k_X9_leastPledge_22, k_X9_leastPledge_27, k_X9_leastPledge_48, k_X9_leastPledge_61, k_X9_leastPledge_64, k_X9_leastPledge_83, k_X9_leastPledge_87, k_X9_leastPledge_91, k_X9_leastPledge_93, li_0, li_1, li_2, li_3, li_4, li_5, li_6, li_9, li_10, li_40, lm_1, lm_2, lm_3, lm_4, zs_ap, i32_add, i32_sub, i32_mul, i32_neg, i32_lt, i32_le, i32_eq, i32_nat, ckn, pka_r, pka_v, if_pos, if_neg, if_true, if_false, a3]
    · rw [cp, bBt] at a3
      obtain ⟨x0', x1', p1', Z', J', q5', q6', b1, b2, b3, b4, b5⟩ := ih (a : Int) (n : Int) Z1 J1 35 p0 (TF_KI h a1) (by omega) (Or.inr ⟨a, n, rfl, rfl, ha, by omega, cp⟩) (Or.inr (Int.le_refl _)) (fun _ => by omega) (fun a' c' h1 h2 h3 h4 => by
        have := hl a' c' h1 h2 h3 h4
        unfold PLe at this ⊢
        have := hs this.1
        omega) (fun a' c' h1 h2 h3 h4 h5 => by
        unfold PLe
        omega)
      refine ⟨x0', x1', p1', Z', J', q5', q6', TF_tr a1 b1, TJ_tr a2 b2, b3, b4, ?_⟩
      rw [← b5, k_X9_leastPledge_43]
      simp (disch := omega) only [k_X9_leastPledge_0, k_X9_leastPledge_17, k_X9_leastPledge_22, k_X9_leastPledge_27, k_X9_leastPledge_48, k_X9_leastPledge_61, k_X9_leastPledge_64, k_X9_leastPledge_83, k_X9_leastPledge_87, k_X9_leastPledge_91, k_X9_leastPledge_93, li_0, li_1, li_2, li_3, li_4, li_5, li_6, li_9, li_10, li_40, lm_1, lm_2, lm_3, lm_4, zs_ap, i32_add, i32_sub, i32_mul, i32_neg, i32_lt, i32_le, i32_eq, i32_nat, ckn, pka_r, pka_v, if_pos, if_neg, if_true, if_false, a3]
      rfl
theorem pg_out (hw : wf m) {most : Nat} (hm : most ≤ 60) {w : Int} (hw' : w = 0 ∨ w = 1) : ∀ (n a : Nat) (x0 x1 p1' : Int) (Z : Nat → Nat → Int) (J : Nat → Nat → Int64) (q5 q6 : Nat), KI m p0 Z → most + 1 - a ≤ n → a ≤ most + 1 → PIv m most a x0 x1 p1' → (-1 ≤ p1' ∧ -1 ≤ x0 ∧ x0 ≤ 60 ∧ -1 ≤ x1 ∧ x1 ≤ 60) →
    ∃ (y0 y1 : Int) (Z' : Nat → Nat → Int) (J' : Nat → Nat → Int64) (q5' q6' : Nat), TF Z Z' ∧ TJf J J' ∧ PLs m most y0 y1 ∧ den none (Mean (d + 5)) (some .int) tQ_X9_leastPledge (11, [some (.ref 95), some (.int (i32 (most : Int))), some (.int (i32 w)), some (.int (i32 x0)), some (.int (i32 x1)), some (.int (i32 p1')), some (.int (i32 (a : Int)))], [], 176, zs Z, J, RP p0 p1 p0 35 p0 q5 q6 97) = some (some (.int (i32 (if w = 0 then y0 else y1))), (176, zs Z', J', RP p0 p1 p0 35 p0 q5' q6' 97)) := by
  intro n
  induction n with
  | zero =>
    intro a x0 x1 p1' Z J q5 q6 h h1 h2 hi hb
    refine ⟨x0, x1, Z, J, q5, q6, fun _ _ => rfl, fun _ _ => rfl, PIv_end hi (Or.inl (by omega)), ?_⟩
    rw [k_X9_leastPledge_11]
    rcases hw' with rfl | rfl
    · simp (disch := omega) only [k_X9_leastPledge_0, k_X9_leastPledge_17, k_X9_leastPledge_22, k_X9_leastPledge_27, k_X9_leastPledge_48, k_X9_leastPledge_61, k_X9_leastPledge_64, k_X9_leastPledge_77, k_X9_leastPledge_83, k_X9_leastPledge_87, k_X9_leastPledge_91, k_X9_leastPledge_93, li_0, li_1, li_2, li_3, li_4, li_5, li_6, li_9, li_10, li_40, lm_1, lm_2, lm_3, lm_4, zs_ap, i32_add, i32_sub, i32_mul, i32_neg, i32_lt, i32_le, i32_eq, i32_nat, ckn, pka_r, pka_v, if_pos, if_neg, if_true, if_false]
    · simp (disch := omega) only [k_X9_leastPledge_0, k_X9_leastPledge_17, k_X9_leastPledge_22, k_X9_leastPledge_27, k_X9_leastPledge_48, k_X9_leastPledge_61, k_X9_leastPledge_64, k_X9_leastPledge_77, k_X9_leastPledge_83, k_X9_leastPledge_87, k_X9_leastPledge_91, k_X9_leastPledge_93, li_0, li_1, li_2, li_3, li_4, li_5, li_6, li_9, li_10, li_40, lm_1, lm_2, lm_3, lm_4, zs_ap, i32_add, i32_sub, i32_mul, i32_neg, i32_lt, i32_le, i32_eq, i32_nat, ckn, pka_r, pka_v, if_pos, if_neg, if_true, if_false]
      all_goals rfl
  | succ n ih =>
    intro a x0 x1 p1' Z J q5 q6 h h1 h2 hi hb
    by_cases ce : most < a ∨ p1' < 0
    · refine ⟨x0, x1, Z, J, q5, q6, fun _ _ => rfl, fun _ _ => rfl, PIv_end hi ce, ?_⟩
      rw [k_X9_leastPledge_11]
      by_cases c1 : most < a
      · rcases hw' with rfl | rfl
        · simp (disch := omega) only [k_X9_leastPledge_0, k_X9_leastPledge_17, k_X9_leastPledge_22, k_X9_leastPledge_27, k_X9_leastPledge_48, k_X9_leastPledge_61, k_X9_leastPledge_64, k_X9_leastPledge_77, k_X9_leastPledge_83, k_X9_leastPledge_87, k_X9_leastPledge_91, k_X9_leastPledge_93, li_0, li_1, li_2, li_3, li_4, li_5, li_6, li_9, li_10, li_40, lm_1, lm_2, lm_3, lm_4, zs_ap, i32_add, i32_sub, i32_mul, i32_neg, i32_lt, i32_le, i32_eq, i32_nat, ckn, pka_r, pka_v, if_pos, if_neg, if_true, if_false]
        · simp (disch := omega) only [k_X9_leastPledge_0, k_X9_leastPledge_17, k_X9_leastPledge_22, k_X9_leastPledge_27, k_X9_leastPledge_48, k_X9_leastPledge_61, k_X9_leastPledge_64, k_X9_leastPledge_77, k_X9_leastPledge_83, k_X9_leastPledge_87, k_X9_leastPledge_91, k_X9_leastPledge_93, li_0, li_1, li_2, li_3, li_4, li_5, li_6, li_9, li_10, li_40, lm_1, lm_2, lm_3, lm_4, zs_ap, i32_add, i32_sub, i32_mul, i32_neg, i32_lt, i32_le, i32_eq, i32_nat, ckn, pka_r, pka_v, if_pos, if_neg, if_true, if_false]
          all_goals rfl
      · rcases hw' with rfl | rfl
        · simp (disch := omega) only [k_X9_leastPledge_0, k_X9_leastPledge_17, k_X9_leastPledge_22, k_X9_leastPledge_27, k_X9_leastPledge_48, k_X9_leastPledge_61, k_X9_leastPledge_64, k_X9_leastPledge_77, k_X9_leastPledge_83, k_X9_leastPledge_87, k_X9_leastPledge_91, k_X9_leastPledge_93, li_0, li_1, li_2, li_3, li_4, li_5, li_6, li_9, li_10, li_40, lm_1, lm_2, lm_3, lm_4, zs_ap, i32_add, i32_sub, i32_mul, i32_neg, i32_lt, i32_le, i32_eq, i32_nat, ckn, pka_r, pka_v, if_pos, if_neg, if_true, if_false]
        · simp (disch := omega) only [k_X9_leastPledge_0, k_X9_leastPledge_17, k_X9_leastPledge_22, k_X9_leastPledge_27, k_X9_leastPledge_48, k_X9_leastPledge_61, k_X9_leastPledge_64, k_X9_leastPledge_77, k_X9_leastPledge_83, k_X9_leastPledge_87, k_X9_leastPledge_91, k_X9_leastPledge_93, li_0, li_1, li_2, li_3, li_4, li_5, li_6, li_9, li_10, li_40, lm_1, lm_2, lm_3, lm_4, zs_ap, i32_add, i32_sub, i32_mul, i32_neg, i32_lt, i32_le, i32_eq, i32_nat, ckn, pka_r, pka_v, if_pos, if_neg, if_true, if_false]
          all_goals rfl
    · obtain ⟨i1, i2, i3, i4, i5⟩ := hi
      -- how much of SIDE 1 is tried first
      have key : ∃ N : Nat, ((N : Int) - 1 ≤ (most : Int)) ∧ (x0 ≠ -1 → (N : Int) - 1 ≤ x0 + x1 - 1 - (a : Int)) ∧ (∀ a' c' : Nat, a ≤ a' → a' ≤ most → c' ≤ most → (N : Int) - 1 < (c' : Int) → pPl m a' c' = true → PLe x0 x1 a' c') ∧ den none (Mean (d + 5)) (some .int) tQ_X9_leastPledge (11, [some (.ref 95), some (.int (i32 (most : Int))), some (.int (i32 w)), some (.int (i32 x0)), some (.int (i32 x1)), some (.int (i32 p1')), some (.int (i32 (a : Int)))], [], 176, zs Z, J, RP p0 p1 p0 35 p0 q5 q6 97) = den none (Mean (d + 5)) (some .int) tQ_X9_leastPledge (43, [some (.ref 95), some (.int (i32 (most : Int))), some (.int (i32 w)), some (.int (i32 x0)), some (.int (i32 x1)), some (.int (i32 ((N : Int) - 1))), some (.int (i32 (a : Int)))], [], 176, zs Z, J, RP p0 p1 p0 35 p0 q5 q6 97) ∨ (x0 + x1 - 1 - (a : Int) < -1 ∧ x0 ≠ -1) := by
        by_cases cx : x0 = -1
        · refine ⟨(p1' + 1).toNat, Or.inl ⟨by omega, fun q => absurd cx q, fun a' c' h1 h2 h3 h4 h5 => i5 a' c' h1 h2 h3 (by omega) h5, ?_⟩⟩
          rw [k_X9_leastPledge_11, show (((p1' + 1).toNat : Nat) : Int) - 1 = p1' by omega]
          simp (disch := omega) only [k_X9_leastPledge_0, k_X9_leastPledge_17, k_X9_leastPledge_22, k_X9_leastPledge_27, k_X9_leastPledge_48, k_X9_leastPledge_61, k_X9_leastPledge_64, k_X9_leastPledge_77, k_X9_leastPledge_83, k_X9_leastPledge_87, k_X9_leastPledge_91, k_X9_leastPledge_93, li_0, li_1, li_2, li_3, li_4, li_5, li_6, li_9, li_10, li_40, lm_1, lm_2, lm_3, lm_4, zs_ap, i32_add, i32_sub, i32_mul, i32_neg, i32_lt, i32_le, i32_eq, i32_nat, ckn, pka_r, pka_v, if_pos, if_neg, if_true, if_false]
        · by_cases cy : x0 + x1 - 1 - (a : Int) < -1
          · exact ⟨0, Or.inr ⟨cy, cx⟩⟩
          · by_cases cz : x0 + x1 - 1 - (a : Int) < p1'
            · refine ⟨(x0 + x1 - (a : Int)).toNat, Or.inl ⟨by omega, fun _ => by omega, fun a' c' h1 h2 h3 h4 h5 => ?_, ?_⟩⟩
              · unfold PLe
                omega
              · rw [k_X9_leastPledge_11, show (((x0 + x1 - (a : Int)).toNat : Nat) : Int) - 1 = x0 + x1 - 1 - (a : Int) by omega]
                simp (disch := omega) only [k_X9_leastPledge_0, k_X9_leastPledge_17, k_X9_leastPledge_22, k_X9_leastPledge_27, k_X9_leastPledge_48, k_X9_leastPledge_61, k_X9_leastPledge_64, k_X9_leastPledge_77, k_X9_leastPledge_83, k_X9_leastPledge_87, k_X9_leastPledge_91, k_X9_leastPledge_93, li_0, li_1, li_2, li_3, li_4, li_5, li_6, li_9, li_10, li_40, lm_1, lm_2, lm_3, lm_4, zs_ap, i32_add, i32_sub, i32_mul, i32_neg, i32_lt, i32_le, i32_eq, i32_nat, ckn, pka_r, pka_v, if_pos, if_neg, if_true, if_false]
            · refine ⟨(p1' + 1).toNat, Or.inl ⟨by omega, fun _ => by omega, fun a' c' h1 h2 h3 h4 h5 => i5 a' c' h1 h2 h3 (by omega) h5, ?_⟩⟩
              rw [k_X9_leastPledge_11, show (((p1' + 1).toNat : Nat) : Int) - 1 = p1' by omega]
              simp (disch := omega) only [k_X9_leastPledge_0, k_X9_leastPledge_17, k_X9_leastPledge_22, k_X9_leastPledge_27, k_X9_leastPledge_48, k_X9_leastPledge_61, k_X9_leastPledge_64, k_X9_leastPledge_77, k_X9_leastPledge_83, k_X9_leastPledge_87, k_X9_leastPledge_91, k_X9_leastPledge_93, li_0, li_1, li_2, li_3, li_4, li_5, li_6, li_9, li_10, li_40, lm_1, lm_2, lm_3, lm_4, zs_ap, i32_add, i32_sub, i32_mul, i32_neg, i32_lt, i32_le, i32_eq, i32_nat, ckn, pka_r, pka_v, if_pos, if_neg, if_true, if_false]
      obtain ⟨N, hN⟩ := key
      rcases hN with ⟨n1, n2, n3, n4⟩ | ⟨n1, n2⟩
      · obtain ⟨y0, y1, q1', Z1, J1, r5, r6, b1, b2, b3, b4, b5⟩ := pg_in (d := d) (p1 := p1) hw hm (show a ≤ most by omega) (i32 w) N x0 x1 Z J q5 q6 h n1 i1 (by omega) n2 i4 n3
        obtain ⟨y0', y1', Z2, J2, s5, s6, c1, c2, c3, c4⟩ := ih (a + 1) y0 y1 q1' Z1 J1 r5 r6 (TF_KI h b1) (by omega) (by omega) b3 b4
        refine ⟨y0', y1', Z2, J2, s5, s6, TF_tr b1 c1, TJ_tr b2 c2, c3, ?_⟩
        rw [n4, b5, ← c4, k_X9_leastPledge_77, li_1, i32_add]
        rfl
      · -- no sum below the least one is left: the loop runs out
        have hneg : x0 + x1 - 1 - (a : Int) < 0 := by omega
        have hI : PIv m most (a + 1) x0 x1 (x0 + x1 - 1 - (a : Int)) := by
          refine ⟨i1, by omega, by omega, fun a' c' h1 h2 h3 h4 => ?_, fun a' c' h1 h2 h3 h4 h5 => ?_⟩
          · by_cases c : a' < a
            · exact i4 a' c' c h2 h3 h4
            · unfold PLe
              omega
          · unfold PLe
            omega
        refine ⟨x0, x1, Z, J, q5, q6, fun _ _ => rfl, fun _ _ => rfl, PIv_end hI (Or.inr hneg), ?_⟩
        rw [k_X9_leastPledge_11]
        have e43 : (if i32 (x0 + x1 - 1 - (a : Int)) < i32 p1' then i32 (x0 + x1 - 1 - (a : Int)) else i32 p1') = i32 (x0 + x1 - 1 - (a : Int)) := by
          simp (disch := omega) only [i32_lt, if_pos]
        simp (disch := omega) only [k_X9_leastPledge_17, k_X9_leastPledge_22, k_X9_leastPledge_27, li_0, li_1, lm_1, i32_neg, i32_lt, i32_eq, i32_add, i32_sub, if_neg, if_pos]
        rw [k_X9_leastPledge_43]
        simp (disch := omega) only [li_0, i32_lt, if_pos, k_X9_leastPledge_77]
        rw [k_X9_leastPledge_11]
        by_cases cm : (most : Int) < (a : Int) + 1
        · rcases hw' with rfl | rfl
          · simp (disch := omega) only [k_X9_leastPledge_0, k_X9_leastPledge_17, k_X9_leastPledge_22, k_X9_leastPledge_27, k_X9_leastPledge_48, k_X9_leastPledge_61, k_X9_leastPledge_64, k_X9_leastPledge_77, k_X9_leastPledge_83, k_X9_leastPledge_87, k_X9_leastPledge_91, k_X9_leastPledge_93, li_0, li_1, li_2, li_3, li_4, li_5, li_6, li_9, li_10, li_40, lm_1, lm_2, lm_3, lm_4, zs_ap, i32_add, i32_sub, i32_mul, i32_neg, i32_lt, i32_le, i32_eq, i32_nat, ckn, pka_r, pka_v, if_pos, if_neg, if_true, if_false]
          · simp (disch := omega) only [k_X9_leastPledge_0, k_X9_leastPledge_17, k_X9_leastPledge_22, k_X9_leastPledge_27, k_X9_leastPledge_48, k_X9_leastPledge_61, k_X9_leastPledge_64, k_X9_leastPledge_77, k_X9_leastPledge_83, k_X9_leastPledge_87, k_X9_leastPledge_91, k_X9_leastPledge_93, li_0, li_1, li_2, li_3, li_4, li_5, li_6, li_9, li_10, li_40, lm_1, lm_2, lm_3, lm_4, zs_ap, i32_add, i32_sub, i32_mul, i32_neg, i32_lt, i32_le, i32_eq, i32_nat, ckn, pka_r, pka_v, if_pos, if_neg, if_true, if_false]
            all_goals rfl
        · rcases hw' with rfl | rfl
          · simp (disch := omega) only [k_X9_leastPledge_0, k_X9_leastPledge_17, k_X9_leastPledge_22, k_X9_leastPledge_27, k_X9_leastPledge_48, k_X9_leastPledge_61, k_X9_leastPledge_64, k_X9_leastPledge_77, k_X9_leastPledge_83, k_X9_leastPledge_87, k_X9_leastPledge_91, k_X9_leastPledge_93, li_0, li_1, li_2, li_3, li_4, li_5, li_6, li_9, li_10, li_40, lm_1, lm_2, lm_3, lm_4, zs_ap, i32_add, i32_sub, i32_mul, i32_neg, i32_lt, i32_le, i32_eq, i32_nat, ckn, pka_r, pka_v, if_pos, if_neg, if_true, if_false]
          · simp (disch := omega) only [k_X9_leastPledge_0, k_X9_leastPledge_17, k_X9_leastPledge_22, k_X9_leastPledge_27, k_X9_leastPledge_48, k_X9_leastPledge_61, k_X9_leastPledge_64, k_X9_leastPledge_77, k_X9_leastPledge_83, k_X9_leastPledge_87, k_X9_leastPledge_91, k_X9_leastPledge_93, li_0, li_1, li_2, li_3, li_4, li_5, li_6, li_9, li_10, li_40, lm_1, lm_2, lm_3, lm_4, zs_ap, i32_add, i32_sub, i32_mul, i32_neg, i32_lt, i32_le, i32_eq, i32_nat, ckn, pka_r, pka_v, if_pos, if_neg, if_true, if_false]
            all_goals rfl
theorem h_pledge (h : KI m p0 Z) {most w : Int} (h1 : -2147483648 ≤ most ∧ most < 2147483648) (h2 : -2147483648 ≤ w ∧ w < 2147483648) : ∃ (Z' : Nat → Nat → Int) (J' : Nat → Nat → Int64) (q5 q6 : Nat) (r : Int), TF Z Z' ∧ TJf J J' ∧ aPledge m most w r ∧ Mean (d + 7) 125 [.ref 0, .int (i32 most), .int (i32 w)] (176, zs Z, J, RP p0 p1 p0 35 p0 p5 p6 97) = some (some (.int (i32 r)), (176, zs Z', J', RP p0 p1 p0 35 p0 q5 q6 97)) := by
  have hw := h.1
  have w1 := h_within (d := d + 5) (J := J) (Z := Z) (p0 := p0) (p1 := p1) (p2 := p0) (p3 := 35) (p4 := p0) (p5 := p5) (p6 := p6) (p7 := 97) h1 (lo := 0) (hi := 60) (by omega) (by omega)
  have w2 := h_within (d := d + 5) (J := J) (Z := Z) (p0 := p0) (p1 := p1) (p2 := p0) (p3 := 35) (p4 := p0) (p5 := p5) (p6 := p6) (p7 := 97) h2 (lo := 0) (hi := 1) (by omega) (by omega)
  unfold aPledge
  by_cases c1 : 0 ≤ most ∧ most ≤ 60
  · by_cases c2 : 0 ≤ w ∧ w ≤ 1
    · obtain ⟨M, rfl⟩ : ∃ M : Nat, most = (M : Int) := ⟨most.toNat, by omega⟩
      obtain ⟨y0, y1, Z1, J1, q5, q6, b1, b2, b3, b4⟩ := pg_out (d := d) (p1 := p1) hw (most := M) (by omega) (w := w) (by omega) (M + 1) 0 (-1) (-1) (M : Int) Z J p5 p6 h (by omega) (by omega) ⟨Or.inl ⟨rfl, rfl⟩, Or.inl rfl, Int.le_refl _, fun a' c' q => by omega, fun a' c' _ _ q1 q2 => by omega⟩ (by omega)
      refine ⟨Z1, J1, q5, q6, if w = 0 then y0 else y1, b1, b2, ?_, ?_⟩
      · rw [if_pos ⟨c1, c2⟩]
        exact ⟨y0, y1, by rw [Int.toNat_natCast]; exact b3, rfl⟩
      · rw [e_X10_pledge, k_X10_pledge_0]
        simp (disch := omega) only [k_X10_pledge_7, k_X10_pledge_10, k_X10_pledge_16, k_X10_pledge_19, k_X10_pledge_22, k_X10_pledge_31, li_0, li_1, li_2, li_3, li_4, li_5, li_6, li_9, li_10, li_40, lm_1, lm_2, lm_3, lm_4, zs_ap, i32_add, i32_sub, i32_mul, i32_neg, i32_lt, i32_le, i32_eq, i32_nat, ckn, pka_r, pka_v, if_pos, if_neg, if_true, if_false, li_60, w1, bI_t c1, w2, bI_t c2]
        rw [e_X9_leastPledge, k_X9_leastPledge_0, lm_1, li_0]
        have b4' : den none (Mean (d + 5)) (some .int) tQ_X9_leastPledge (11, [some (.ref 95), some (.int (i32 (M : Int))), some (.int (i32 w)), some (.int (i32 (-1))), some (.int (i32 (-1))), some (.int (i32 (M : Int))), some (.int (i32 0))], [], 176, zs Z, J, RP p0 p1 p0 35 p0 p5 p6 97) = some (some (.int (i32 (if w = 0 then y0 else y1))), (176, zs Z1, J1, RP p0 p1 p0 35 p0 q5 q6 97)) := b4
        rw [b4']
        simp (disch := omega) only [k_X10_pledge_7, k_X10_pledge_10, k_X10_pledge_16, k_X10_pledge_19, k_X10_pledge_22, k_X10_pledge_31, li_0, li_1, li_2, li_3, li_4, li_5, li_6, li_9, li_10, li_40, lm_1, lm_2, lm_3, lm_4, zs_ap, i32_add, i32_sub, i32_mul, i32_neg, i32_lt, i32_le, i32_eq, i32_nat, ckn, pka_r, pka_v, if_pos, if_neg, if_true, if_false]
    · refine ⟨Z, J, p5, p6, -2, fun _ _ => rfl, fun _ _ => rfl, ?_, ?_⟩
      · rw [if_neg (fun q => c2 q.2)]
      · rw [e_X10_pledge, k_X10_pledge_0]
        simp (disch := omega) only [k_X10_pledge_7, k_X10_pledge_10, k_X10_pledge_16, k_X10_pledge_19, k_X10_pledge_22, k_X10_pledge_31, li_0, li_1, li_2, li_3, li_4, li_5, li_6, li_9, li_10, li_40, lm_1, lm_2, lm_3, lm_4, zs_ap, i32_add, i32_sub, i32_mul, i32_neg, i32_lt, i32_le, i32_eq, i32_nat, ckn, pka_r, pka_v, if_pos, if_neg, if_true, if_false, li_60, w1, bI_t c1, w2, bI_f c2]
  · refine ⟨Z, J, p5, p6, -2, fun _ _ => rfl, fun _ _ => rfl, ?_, ?_⟩
    · rw [if_neg (fun q => c1 q.1)]
    · rw [e_X10_pledge, k_X10_pledge_0]
      simp (disch := omega) only [k_X10_pledge_7, k_X10_pledge_10, k_X10_pledge_16, k_X10_pledge_19, k_X10_pledge_22, k_X10_pledge_31, li_0, li_1, li_2, li_3, li_4, li_5, li_6, li_9, li_10, li_40, lm_1, lm_2, lm_3, lm_4, zs_ap, i32_add, i32_sub, i32_mul, i32_neg, i32_lt, i32_le, i32_eq, i32_nat, ckn, pka_r, pka_v, if_pos, if_neg, if_true, if_false, li_60, w1, bI_f c1]
end
