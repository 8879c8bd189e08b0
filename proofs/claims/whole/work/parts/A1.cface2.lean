/-! THE CLASS'S FACE: great, told, piece, fault, judged, count, safe, many -/
section
variable {d : Nat} {J : Nat → Nat → Int64} {Z : Nat → Nat → Int} {p0 p1 p5 p6 : Nat} {m : Mat} {b : Nat → Int}
theorem h_tooGreat (h : KI m p0 Z) : Mean (d + 2) 87 [.ref 35] (176, zs Z, J, RP p0 p1 p0 35 p0 p5 p6 97) = some (some (.int (i32 (ggr m (qP m)).1)), (176, zs Z, J, RP p0 p1 p0 35 p0 p5 p6 97)) := by
  have hw := h.1
  have hp := h.2.1
  have hP := hw.2.1
  have z2 : Z p0 2 = (qP m : Int) := h.2.2.1.1.2.1
  obtain ⟨y, hy, e⟩ := up_inv (fun (k : Nat) (y : Int × Option Value) => den none (Mean (d + 1)) (some .int) tQ_X7_tooGreat (6, [some (.ref 35), some (.int (i32 (ggr m k).1)), some (.int (i32 y.1)), some (.int (i32 (k : Int))), y.2], [], 176, zs Z, J, RP p0 p1 p0 35 p0 p5 p6 97)) (qP m) (fun k y => (ggr m k).1 = -1 ∨ y.1 = (ggr m k).2) (fun k y hk hv => by
    obtain ⟨g, o4⟩ := y
    simp only at hv
    have ls := h_loss (d := d) (J := J) (p1 := p1) (p5 := p5) (p6 := p6) h hk
    have b1 := ggr_b hw k (by omega)
    have b2 := gls_b hw (k := k) (qS m) (Nat.le_refl _)
    by_cases c1 : (ggr m k).1 = -1
    · refine ⟨(gls m k (qS m), some (.int (i32 (gls m k (qS m))))), Or.inr ?_, ?_⟩
      · rw [ggr_s, if_pos (Or.inl c1)]
      · show den none (Mean (d + 1)) (some .int) tQ_X7_tooGreat (6, _, [], 176, zs Z, J, _) = _
        rw [ggr_s, if_pos (Or.inl c1), c1, k_X7_tooGreat_6_a (hv_p2 := by omega)]
        simp (disch := omega) only [k_X7_tooGreat_0_a, k_X7_tooGreat_17_a, k_X7_tooGreat_22_a, k_X7_tooGreat_29_a, k_X7_tooGreat_35_a, k_X7_tooGreat_40_a, k_X7_tooGreat_46_a, li_0, li_1, li_2, li_3, li_4, li_5, li_6, li_9, li_10, li_40, lm_1, lm_2, lm_3, lm_4, zs_ap, i32_add, i32_sub, i32_mul, i32_neg, i32_lt, i32_le, i32_eq, i32_nat, ckn, pka_r, pka_v, if_pos, if_neg, if_true, if_false, z2, ls]
        rfl
    · have hg : g = (ggr m k).2 := by
        rcases hv with hv | hv
        · exact absurd hv c1
        · exact hv
      subst hg
      by_cases c2 : (ggr m k).2 < gls m k (qS m)
      · refine ⟨(gls m k (qS m), some (.int (i32 (gls m k (qS m))))), Or.inr ?_, ?_⟩
        · rw [ggr_s, if_pos (Or.inr c2)]
        · show den none (Mean (d + 1)) (some .int) tQ_X7_tooGreat (6, _, [], 176, zs Z, J, _) = _
          rw [ggr_s, if_pos (Or.inr c2), k_X7_tooGreat_6_a (hv_p2 := by omega)]
          simp (disch := omega) only [k_X7_tooGreat_0_a, k_X7_tooGreat_17_a, k_X7_tooGreat_22_a, k_X7_tooGreat_29_a, k_X7_tooGreat_35_a, k_X7_tooGreat_40_a, k_X7_tooGreat_46_a, li_0, li_1, li_2, li_3, li_4, li_5, li_6, li_9, li_10, li_40, lm_1, lm_2, lm_3, lm_4, zs_ap, i32_add, i32_sub, i32_mul, i32_neg, i32_lt, i32_le, i32_eq, i32_nat, ckn, pka_r, pka_v, if_pos, if_neg, if_true, if_false, z2, ls]
          rfl
      · have cn : ¬ ((ggr m k).1 = -1 ∨ (ggr m k).2 < gls m k (qS m)) := fun q => q.elim c1 c2
        refine ⟨((ggr m k).2, some (.int (i32 (gls m k (qS m))))), Or.inr ?_, ?_⟩
        · rw [ggr_s, if_neg cn]
        · show den none (Mean (d + 1)) (some .int) tQ_X7_tooGreat (6, _, [], 176, zs Z, J, _) = _
          rw [ggr_s, if_neg cn, k_X7_tooGreat_6_a (hv_p2 := by omega)]
          simp (disch := omega) only [k_X7_tooGreat_0_a, k_X7_tooGreat_17_a, k_X7_tooGreat_22_a, k_X7_tooGreat_29_a, k_X7_tooGreat_35_a, k_X7_tooGreat_40_a, k_X7_tooGreat_46_a, li_0, li_1, li_2, li_3, li_4, li_5, li_6, li_9, li_10, li_40, lm_1, lm_2, lm_3, lm_4, zs_ap, i32_add, i32_sub, i32_mul, i32_neg, i32_lt, i32_le, i32_eq, i32_nat, ckn, pka_r, pka_v, if_pos, if_neg, if_true, if_false, z2, ls]
          rfl) (0, none) (Or.inl rfl)
  obtain ⟨g, o4⟩ := y
  rw [e_X7_tooGreat, k_X7_tooGreat_0_a]
  refine Eq.trans e ?_
  show den none (Mean (d + 1)) (some .int) tQ_X7_tooGreat (6, _, [], 176, zs Z, J, _) = _
  rw [k_X7_tooGreat_6_a (hv_p2 := by omega)]
  simp (disch := omega) only [k_X7_tooGreat_0_a, k_X7_tooGreat_17_a, k_X7_tooGreat_22_a, k_X7_tooGreat_29_a, k_X7_tooGreat_35_a, k_X7_tooGreat_40_a, k_X7_tooGreat_46_a, li_0, li_1, li_2, li_3, li_4, li_5, li_6, li_9, li_10, li_40, lm_1, lm_2, lm_3, lm_4, zs_ap, i32_add, i32_sub, i32_mul, i32_neg, i32_lt, i32_le, i32_eq, i32_nat, ckn, pka_r, pka_v, if_pos, if_neg, if_true, if_false, z2]
theorem h_great (h : KI m p0 Z) {a : Int} (ha : -2147483648 ≤ a ∧ a < 2147483648) : Mean (d + 3) 128 [.ref 0, .int (i32 a)] (176, zs Z, J, RP p0 p1 p0 35 p0 p5 p6 97) = some (some (.int (i32 (aGreat m a))), (176, zs Z, J, RP p0 p1 p0 35 p0 p5 p6 97)) := by
  have hw := h.1
  have hP := hw.2.1
  have a1 := h_within (d := d + 1) (J := J) (Z := Z) (p0 := p0) (p1 := p1) (p2 := p0) (p3 := 35) (p4 := p0) (p5 := p5) (p6 := p6) (p7 := 97) ha (lo := 0) (hi := 1) (by omega) (by omega)
  have tg := h_tooGreat (d := d) (J := J) (p1 := p1) (p5 := p5) (p6 := p6) h
  have b1 := ggr_b hw (qP m) (Nat.le_refl _)
  rw [e_X10_great, k_X10_great_0]
  unfold aGreat
  by_cases c : 0 ≤ a ∧ a ≤ 1
  · rw [if_pos c]
    by_cases c0 : a = 0
    · rw [if_pos c0]
      simp (disch := omega) only [k_X10_great_6, k_X10_great_9, k_X10_great_12, k_X10_great_19, k_X10_great_24, k_X10_great_26, k_X10_great_31, k_X10_great_36, k_X10_great_44, li_0, li_1, li_2, li_3, li_4, li_5, li_6, li_9, li_10, li_40, lm_1, lm_2, lm_3, lm_4, zs_ap, i32_add, i32_sub, i32_mul, i32_neg, i32_lt, i32_le, i32_eq, i32_nat, ckn, pka_r, pka_v, if_pos, if_neg, if_true, if_false, a1, bI_t c, tg]
    · rw [if_neg c0]
      rcases ggr_2 m (qP m) with ⟨q1, q2⟩ | ⟨j, q1, q2, q3⟩
      · rw [q2]
        rw [q1] at tg
        simp (disch := omega) only [k_X10_great_6, k_X10_great_9, k_X10_great_12, k_X10_great_19, k_X10_great_24, k_X10_great_26, k_X10_great_31, k_X10_great_36, k_X10_great_44, li_0, li_1, li_2, li_3, li_4, li_5, li_6, li_9, li_10, li_40, lm_1, lm_2, lm_3, lm_4, zs_ap, i32_add, i32_sub, i32_mul, i32_neg, i32_lt, i32_le, i32_eq, i32_nat, ckn, pka_r, pka_v, if_pos, if_neg, if_true, if_false, a1, bI_t c, tg, lm_100000]
      · have ls := h_loss (d := d + 1) (J := J) (p1 := p1) (p5 := p5) (p6 := p6) h q1
        rw [q3]
        rw [q2] at tg
        simp (disch := omega) only [k_X10_great_6, k_X10_great_9, k_X10_great_12, k_X10_great_19, k_X10_great_24, k_X10_great_26, k_X10_great_31, k_X10_great_36, k_X10_great_44, li_0, li_1, li_2, li_3, li_4, li_5, li_6, li_9, li_10, li_40, lm_1, lm_2, lm_3, lm_4, zs_ap, i32_add, i32_sub, i32_mul, i32_neg, i32_lt, i32_le, i32_eq, i32_nat, ckn, pka_r, pka_v, if_pos, if_neg, if_true, if_false, a1, bI_t c, tg, ls]
  · rw [if_neg c]
    simp (disch := omega) only [k_X10_great_6, k_X10_great_9, k_X10_great_12, k_X10_great_19, k_X10_great_24, k_X10_great_26, k_X10_great_31, k_X10_great_36, k_X10_great_44, li_0, li_1, li_2, li_3, li_4, li_5, li_6, li_9, li_10, li_40, lm_1, lm_2, lm_3, lm_4, zs_ap, i32_add, i32_sub, i32_mul, i32_neg, i32_lt, i32_le, i32_eq, i32_nat, ckn, pka_r, pka_v, if_pos, if_neg, if_true, if_false, a1, bI_f c]
theorem h_told (h : KI m p0 Z) {a : Int} (ha : -2147483648 ≤ a ∧ a < 2147483648) : Mean (d + 1) 110 [.ref 0, .int (i32 a)] (176, zs Z, J, RP p0 p1 p0 35 p0 p5 p6 97) = some (some (.int (i32 (aTold m a))), (176, zs Z, J, RP p0 p1 p0 35 p0 p5 p6 97)) := by
  obtain ⟨hw, hp, hm, hk⟩ := h
  have hS := hw.1
  have hr := hm.1
  have hpr := hw.2.2.2.2.2.1
  have zN := hk.1.1.1
  rw [e_X10_told, k_X10_told_0]
  unfold aTold
  by_cases d1 : 10 ≤ a ∧ a < 10 + qS m
  · have e := (hm.2.2.2 (a - 10).toNat (by omega)).1
    simp (disch := omega) only [k_X10_told_6, k_X10_told_20, k_X10_told_32, k_X10_told_33, k_X10_told_39, k_X10_told_53, k_X10_told_65, k_X10_told_112, k_X10_told_120, k_X10_told_128, k_X10_told_136, k_X10_told_144, k_X10_told_152, k_X10_told_160, k_X10_told_170, k_X10_told_174, k_X10_told_175, k_X10_told_176, k_X10_told_184, li_0, li_1, li_2, li_3, li_4, li_5, li_6, li_9, li_10, li_40, lm_1, lm_2, lm_3, lm_4, zs_ap, i32_add, i32_sub, i32_mul, i32_neg, i32_lt, i32_le, i32_eq, i32_nat, ckn, pka_r, pka_v, if_pos, if_neg, if_true, if_false, hr, e]
  · by_cases d2 : 20 ≤ a ∧ a < 20 + qS m
    · have e := (hm.2.2.2 (a - 20).toNat (by omega)).2
      simp (disch := omega) only [k_X10_told_6, k_X10_told_20, k_X10_told_32, k_X10_told_33, k_X10_told_39, k_X10_told_53, k_X10_told_65, k_X10_told_112, k_X10_told_120, k_X10_told_128, k_X10_told_136, k_X10_told_144, k_X10_told_152, k_X10_told_160, k_X10_told_170, k_X10_told_174, k_X10_told_175, k_X10_told_176, k_X10_told_184, li_0, li_1, li_2, li_3, li_4, li_5, li_6, li_9, li_10, li_40, lm_1, lm_2, lm_3, lm_4, zs_ap, i32_add, i32_sub, i32_mul, i32_neg, i32_lt, i32_le, i32_eq, i32_nat, ckn, pka_r, pka_v, if_pos, if_neg, if_true, if_false, li_20, hr, e]
    · have e66 : den none (Mean d) (some .int) tQ_X10_told (0, [some (.ref 0), some (.int (i32 a))], [], 176, zs Z, J, RP p0 p1 p0 35 p0 p5 p6 97) = den none (Mean d) (some .int) tQ_X10_told (66, [some (.ref 0), some (.int (i32 a))], [], 176, zs Z, J, RP p0 p1 p0 35 p0 p5 p6 97) := by
        rw [k_X10_told_0]
        by_cases e1 : a < 10
        · simp (disch := omega) only [k_X10_told_6, k_X10_told_20, k_X10_told_32, k_X10_told_33, k_X10_told_39, k_X10_told_53, k_X10_told_65, k_X10_told_112, k_X10_told_120, k_X10_told_128, k_X10_told_136, k_X10_told_144, k_X10_told_152, k_X10_told_160, k_X10_told_170, k_X10_told_174, k_X10_told_175, k_X10_told_176, k_X10_told_184, li_0, li_1, li_2, li_3, li_4, li_5, li_6, li_9, li_10, li_40, lm_1, lm_2, lm_3, lm_4, zs_ap, i32_add, i32_sub, i32_mul, i32_neg, i32_lt, i32_le, i32_eq, i32_nat, ckn, pka_r, pka_v, if_pos, if_neg, if_true, if_false, li_20, hr]
        · by_cases e2 : a < 20
          · simp (disch := omega) only [k_X10_told_6, k_X10_told_20, k_X10_told_32, k_X10_told_33, k_X10_told_39, k_X10_told_53, k_X10_told_65, k_X10_told_112, k_X10_told_120, k_X10_told_128, k_X10_told_136, k_X10_told_144, k_X10_told_152, k_X10_told_160, k_X10_told_170, k_X10_told_174, k_X10_told_175, k_X10_told_176, k_X10_told_184, li_0, li_1, li_2, li_3, li_4, li_5, li_6, li_9, li_10, li_40, lm_1, lm_2, lm_3, lm_4, zs_ap, i32_add, i32_sub, i32_mul, i32_neg, i32_lt, i32_le, i32_eq, i32_nat, ckn, pka_r, pka_v, if_pos, if_neg, if_true, if_false, li_20, hr]
          · simp (disch := omega) only [k_X10_told_6, k_X10_told_20, k_X10_told_32, k_X10_told_33, k_X10_told_39, k_X10_told_53, k_X10_told_65, k_X10_told_112, k_X10_told_120, k_X10_told_128, k_X10_told_136, k_X10_told_144, k_X10_told_152, k_X10_told_160, k_X10_told_170, k_X10_told_174, k_X10_told_175, k_X10_told_176, k_X10_told_184, li_0, li_1, li_2, li_3, li_4, li_5, li_6, li_9, li_10, li_40, lm_1, lm_2, lm_3, lm_4, zs_ap, i32_add, i32_sub, i32_mul, i32_neg, i32_lt, i32_le, i32_eq, i32_nat, ckn, pka_r, pka_v, if_pos, if_neg, if_true, if_false, li_20, hr]
      rw [← k_X10_told_0, e66]
      by_cases c0 : a = 0
      · subst c0
        rw [k_X10_told_66_c0 (hx := show i32 0 = 0 from rfl)]
        simp (disch := omega) only [k_X10_told_6, k_X10_told_20, k_X10_told_32, k_X10_told_33, k_X10_told_39, k_X10_told_53, k_X10_told_65, k_X10_told_112, k_X10_told_120, k_X10_told_128, k_X10_told_136, k_X10_told_144, k_X10_told_152, k_X10_told_160, k_X10_told_170, k_X10_told_174, k_X10_told_175, k_X10_told_176, k_X10_told_184, li_0, li_1, li_2, li_3, li_4, li_5, li_6, li_9, li_10, li_40, lm_1, lm_2, lm_3, lm_4, zs_ap, i32_add, i32_sub, i32_mul, i32_neg, i32_lt, i32_le, i32_eq, i32_nat, ckn, pka_r, pka_v, if_pos, if_neg, if_true, if_false, hr]
      · by_cases c1 : a = 1
        · subst c1
          rw [k_X10_told_66_c1 (hx := show i32 1 = 1 from rfl)]
          simp (disch := omega) only [k_X10_told_6, k_X10_told_20, k_X10_told_32, k_X10_told_33, k_X10_told_39, k_X10_told_53, k_X10_told_65, k_X10_told_112, k_X10_told_120, k_X10_told_128, k_X10_told_136, k_X10_told_144, k_X10_told_152, k_X10_told_160, k_X10_told_170, k_X10_told_174, k_X10_told_175, k_X10_told_176, k_X10_told_184, li_0, li_1, li_2, li_3, li_4, li_5, li_6, li_9, li_10, li_40, lm_1, lm_2, lm_3, lm_4, zs_ap, i32_add, i32_sub, i32_mul, i32_neg, i32_lt, i32_le, i32_eq, i32_nat, ckn, pka_r, pka_v, if_pos, if_neg, if_true, if_false, hr]
        · by_cases c2 : a = 2
          · subst c2
            rw [k_X10_told_66_c2 (hx := show i32 2 = 2 from rfl)]
            simp (disch := omega) only [k_X10_told_6, k_X10_told_20, k_X10_told_32, k_X10_told_33, k_X10_told_39, k_X10_told_53, k_X10_told_65, k_X10_told_112, k_X10_told_120, k_X10_told_128, k_X10_told_136, k_X10_told_144, k_X10_told_152, k_X10_told_160, k_X10_told_170, k_X10_told_174, k_X10_told_175, k_X10_told_176, k_X10_told_184, li_0, li_1, li_2, li_3, li_4, li_5, li_6, li_9, li_10, li_40, lm_1, lm_2, lm_3, lm_4, zs_ap, i32_add, i32_sub, i32_mul, i32_neg, i32_lt, i32_le, i32_eq, i32_nat, ckn, pka_r, pka_v, if_pos, if_neg, if_true, if_false, hr]
          · by_cases c3 : a = 3
            · subst c3
              rw [k_X10_told_66_c3 (hx := show i32 3 = 3 from rfl)]
              simp (disch := omega) only [k_X10_told_6, k_X10_told_20, k_X10_told_32, k_X10_told_33, k_X10_told_39, k_X10_told_53, k_X10_told_65, k_X10_told_112, k_X10_told_120, k_X10_told_128, k_X10_told_136, k_X10_told_144, k_X10_told_152, k_X10_told_160, k_X10_told_170, k_X10_told_174, k_X10_told_175, k_X10_told_176, k_X10_told_184, li_0, li_1, li_2, li_3, li_4, li_5, li_6, li_9, li_10, li_40, lm_1, lm_2, lm_3, lm_4, zs_ap, i32_add, i32_sub, i32_mul, i32_neg, i32_lt, i32_le, i32_eq, i32_nat, ckn, pka_r, pka_v, if_pos, if_neg, if_true, if_false, hr]
            · by_cases c4 : a = 4
              · subst c4
                rw [k_X10_told_66_c4 (hx := show i32 4 = 4 from rfl)]
                simp (disch := omega) only [k_X10_told_6, k_X10_told_20, k_X10_told_32, k_X10_told_33, k_X10_told_39, k_X10_told_53, k_X10_told_65, k_X10_told_112, k_X10_told_120, k_X10_told_128, k_X10_told_136, k_X10_told_144, k_X10_told_152, k_X10_told_160, k_X10_told_170, k_X10_told_174, k_X10_told_175, k_X10_told_176, k_X10_told_184, li_0, li_1, li_2, li_3, li_4, li_5, li_6, li_9, li_10, li_40, lm_1, lm_2, lm_3, lm_4, zs_ap, i32_add, i32_sub, i32_mul, i32_neg, i32_lt, i32_le, i32_eq, i32_nat, ckn, pka_r, pka_v, if_pos, if_neg, if_true, if_false, hr]
              · by_cases c5 : a = 5
                · subst c5
                  rw [k_X10_told_66_c5 (hx := show i32 5 = 5 from rfl)]
                  simp (disch := omega) only [k_X10_told_6, k_X10_told_20, k_X10_told_32, k_X10_told_33, k_X10_told_39, k_X10_told_53, k_X10_told_65, k_X10_told_112, k_X10_told_120, k_X10_told_128, k_X10_told_136, k_X10_told_144, k_X10_told_152, k_X10_told_160, k_X10_told_170, k_X10_told_174, k_X10_told_175, k_X10_told_176, k_X10_told_184, li_0, li_1, li_2, li_3, li_4, li_5, li_6, li_9, li_10, li_40, lm_1, lm_2, lm_3, lm_4, zs_ap, i32_add, i32_sub, i32_mul, i32_neg, i32_lt, i32_le, i32_eq, i32_nat, ckn, pka_r, pka_v, if_pos, if_neg, if_true, if_false, hr]
                · by_cases c6 : a = 6
                  · subst c6
                    by_cases c9 : qprs m = 0
                    · rw [k_X10_told_66_c6 (hx := show i32 6 = 6 from rfl)]
                      simp (disch := omega) only [k_X10_told_6, k_X10_told_20, k_X10_told_32, k_X10_told_33, k_X10_told_39, k_X10_told_53, k_X10_told_65, k_X10_told_112, k_X10_told_120, k_X10_told_128, k_X10_told_136, k_X10_told_144, k_X10_told_152, k_X10_told_160, k_X10_told_170, k_X10_told_174, k_X10_told_175, k_X10_told_176, k_X10_told_184, li_0, li_1, li_2, li_3, li_4, li_5, li_6, li_9, li_10, li_40, lm_1, lm_2, lm_3, lm_4, zs_ap, i32_add, i32_sub, i32_mul, i32_neg, i32_lt, i32_le, i32_eq, i32_nat, ckn, pka_r, pka_v, if_pos, if_neg, if_true, if_false, hr, c9]
                      rfl
                    · rw [k_X10_told_66_c6 (hx := show i32 6 = 6 from rfl)]
                      simp (disch := omega) only [k_X10_told_6, k_X10_told_20, k_X10_told_32, k_X10_told_33, k_X10_told_39, k_X10_told_53, k_X10_told_65, k_X10_told_112, k_X10_told_120, k_X10_told_128, k_X10_told_136, k_X10_told_144, k_X10_told_152, k_X10_told_160, k_X10_told_170, k_X10_told_174, k_X10_told_175, k_X10_told_176, k_X10_told_184, li_0, li_1, li_2, li_3, li_4, li_5, li_6, li_9, li_10, li_40, lm_1, lm_2, lm_3, lm_4, zs_ap, i32_add, i32_sub, i32_mul, i32_neg, i32_lt, i32_le, i32_eq, i32_nat, ckn, pka_r, pka_v, if_pos, if_neg, if_true, if_false, hr, show qprs m = 1 by omega]
                      rfl
                  · by_cases c7 : a = 7
                    · subst c7
                      rw [k_X10_told_66_c7 (hx := show i32 7 = 7 from rfl)]
                      simp (disch := omega) only [k_X10_told_6, k_X10_told_20, k_X10_told_32, k_X10_told_33, k_X10_told_39, k_X10_told_53, k_X10_told_65, k_X10_told_112, k_X10_told_120, k_X10_told_128, k_X10_told_136, k_X10_told_144, k_X10_told_152, k_X10_told_160, k_X10_told_170, k_X10_told_174, k_X10_told_175, k_X10_told_176, k_X10_told_184, li_0, li_1, li_2, li_3, li_4, li_5, li_6, li_9, li_10, li_40, lm_1, lm_2, lm_3, lm_4, zs_ap, i32_add, i32_sub, i32_mul, i32_neg, i32_lt, i32_le, i32_eq, i32_nat, ckn, pka_r, pka_v, if_pos, if_neg, if_true, if_false, zN]
                    · rw [k_X10_told_66_d (hx := by rw [i32_toInt (by omega) (by omega)]; omega)]
                      simp (disch := omega) only [k_X10_told_6, k_X10_told_20, k_X10_told_32, k_X10_told_33, k_X10_told_39, k_X10_told_53, k_X10_told_65, k_X10_told_112, k_X10_told_120, k_X10_told_128, k_X10_told_136, k_X10_told_144, k_X10_told_152, k_X10_told_160, k_X10_told_170, k_X10_told_174, k_X10_told_175, k_X10_told_176, k_X10_told_184, li_0, li_1, li_2, li_3, li_4, li_5, li_6, li_9, li_10, li_40, lm_1, lm_2, lm_3, lm_4, zs_ap, i32_add, i32_sub, i32_mul, i32_neg, i32_lt, i32_le, i32_eq, i32_nat, ckn, pka_r, pka_v, if_pos, if_neg, if_true, if_false]
theorem h_piece (h : KI m p0 Z) {k a : Int} (hk' : -2147483648 ≤ k ∧ k < 2147483648) (ha : -2147483648 ≤ a ∧ a < 2147483648) : Mean (d + 2) 111 [.ref 0, .int (i32 k), .int (i32 a)] (176, zs Z, J, RP p0 p1 p0 35 p0 p5 p6 97) = some (some (.int (i32 (aPiece m k a))), (176, zs Z, J, RP p0 p1 p0 35 p0 p5 p6 97)) := by
  obtain ⟨hw, hp, hm, hk⟩ := h
  have hS := hw.1
  have hP := hw.2.1
  have a1 := h_hasPiece (d := d) (J := J) (Z := Z) (p0 := p0) (p1 := p1) (p2 := p0) (p3 := 35) (p4 := p0) (p5 := p5) (p6 := p6) (p7 := 97) (h := p0) (by omega) hP hm.1.2.1 hk'
  have a2 := h_within (d := d) (J := J) (Z := Z) (p0 := p0) (p1 := p1) (p2 := p0) (p3 := 35) (p4 := p0) (p5 := p5) (p6 := p6) (p7 := 97) ha (lo := 10) (hi := 12) (by omega) (by omega)
  rw [e_X10_piece, k_X10_piece_0 (hv_p0 := by omega)]
  unfold aPiece
  by_cases c1 : 10 ≤ a ∧ a ≤ 12
  · rw [if_pos c1]
    have a3 := h_hasSide (d := d) (J := J) (Z := Z) (p0 := p0) (p1 := p1) (p2 := p0) (p3 := 35) (p4 := p0) (p5 := p5) (p6 := p6) (p7 := 97) (h := p0) (by omega) hS.2 hm.1.1 (a := a - 10) (by omega)
    by_cases c2 : 0 ≤ k ∧ k < qP m
    · by_cases c3 : a < 10 + qS m
      · rw [if_pos ⟨c2, c3⟩]
        have c3' : 0 ≤ a - 10 ∧ a - 10 < qS m := by omega
        obtain ⟨r1, r2⟩ := RPm (p0 := p0) (p1 := p1) (p2 := p0) (p3 := 35) (p4 := p0) (p5 := p5) (p6 := p6) (p7 := 97) (h := p0) (by omega) (show k.toNat < 6 by omega)
        have e := hm.2.2.1 k.toNat (by omega) (a - 10).toNat (by omega)
        simp (disch := first | omega | assumption) only [k_X10_piece_8, k_X10_piece_17, k_X10_piece_20, k_X10_piece_24, k_X10_piece_35, k_X10_piece_38, k_X10_piece_47, k_X10_piece_52, k_X10_piece_55, k_X10_piece_58, k_X10_piece_59, k_X10_piece_63, k_X10_piece_96, k_X10_piece_105, k_X10_piece_106, k_X10_piece_115, k_X10_piece_116, k_X10_piece_125, k_X10_piece_126, k_X10_piece_135, k_X10_piece_138, k_X10_piece_142, k_X10_piece_143, k_X10_piece_144, li_0, li_1, li_2, li_3, li_4, li_5, li_6, li_9, li_10, li_40, lm_1, lm_2, lm_3, lm_4, zs_ap, i32_add, i32_sub, i32_mul, i32_neg, i32_lt, i32_le, i32_eq, i32_nat, ckn, pka_r, pka_v, if_pos, if_neg, if_true, if_false, li_12, a1, bI_t c2, a2, bI_t c1, a3, bI_t c3', r1, va_rf, e]
      · rw [if_neg (fun q => c3 q.2)]
        have c3' : ¬ (0 ≤ a - 10 ∧ a - 10 < qS m) := by omega
        simp (disch := omega) only [k_X10_piece_8, k_X10_piece_17, k_X10_piece_20, k_X10_piece_24, k_X10_piece_35, k_X10_piece_38, k_X10_piece_47, k_X10_piece_52, k_X10_piece_55, k_X10_piece_58, k_X10_piece_59, k_X10_piece_63, k_X10_piece_96, k_X10_piece_105, k_X10_piece_106, k_X10_piece_115, k_X10_piece_116, k_X10_piece_125, k_X10_piece_126, k_X10_piece_135, k_X10_piece_138, k_X10_piece_142, k_X10_piece_143, k_X10_piece_144, li_0, li_1, li_2, li_3, li_4, li_5, li_6, li_9, li_10, li_40, lm_1, lm_2, lm_3, lm_4, zs_ap, i32_add, i32_sub, i32_mul, i32_neg, i32_lt, i32_le, i32_eq, i32_nat, ckn, pka_r, pka_v, if_pos, if_neg, if_true, if_false, li_12, a1, bI_t c2, a2, bI_t c1, a3, bI_f c3', lm_2000]
    · rw [if_neg (fun q => c2 q.1)]
      simp (disch := omega) only [k_X10_piece_8, k_X10_piece_17, k_X10_piece_20, k_X10_piece_24, k_X10_piece_35, k_X10_piece_38, k_X10_piece_47, k_X10_piece_52, k_X10_piece_55, k_X10_piece_58, k_X10_piece_59, k_X10_piece_63, k_X10_piece_96, k_X10_piece_105, k_X10_piece_106, k_X10_piece_115, k_X10_piece_116, k_X10_piece_125, k_X10_piece_126, k_X10_piece_135, k_X10_piece_138, k_X10_piece_142, k_X10_piece_143, k_X10_piece_144, li_0, li_1, li_2, li_3, li_4, li_5, li_6, li_9, li_10, li_40, lm_1, lm_2, lm_3, lm_4, zs_ap, i32_add, i32_sub, i32_mul, i32_neg, i32_lt, i32_le, i32_eq, i32_nat, ckn, pka_r, pka_v, if_pos, if_neg, if_true, if_false, li_12, a1, bI_f c2, a2, bI_t c1, lm_2000]
  · rw [if_neg c1]
    by_cases c2 : 0 ≤ k ∧ k < qP m
    · rw [if_pos c2]
      have e := hm.2.1 k.toNat (by omega)
      have hu := (hw.2.2.1 k.toNat (by omega)).2.2.2
      simp (disch := omega) only [k_X10_piece_8, k_X10_piece_17, k_X10_piece_20, k_X10_piece_24, k_X10_piece_35, k_X10_piece_38, k_X10_piece_47, k_X10_piece_52, k_X10_piece_55, k_X10_piece_58, k_X10_piece_59, k_X10_piece_63, k_X10_piece_96, k_X10_piece_105, k_X10_piece_106, k_X10_piece_115, k_X10_piece_116, k_X10_piece_125, k_X10_piece_126, k_X10_piece_135, k_X10_piece_138, k_X10_piece_142, k_X10_piece_143, k_X10_piece_144, li_0, li_1, li_2, li_3, li_4, li_5, li_6, li_9, li_10, li_40, lm_1, lm_2, lm_3, lm_4, zs_ap, i32_add, i32_sub, i32_mul, i32_neg, i32_lt, i32_le, i32_eq, i32_nat, ckn, pka_r, pka_v, if_pos, if_neg, if_true, if_false, li_12, a1, bI_t c2, a2, bI_f c1]
      by_cases c0 : a = 0
      · subst c0
        rw [k_X10_piece_65_c0 (hx := show i32 0 = 0 from rfl)]
        simp (disch := omega) only [k_X10_piece_8, k_X10_piece_17, k_X10_piece_20, k_X10_piece_24, k_X10_piece_35, k_X10_piece_38, k_X10_piece_47, k_X10_piece_52, k_X10_piece_55, k_X10_piece_58, k_X10_piece_59, k_X10_piece_63, k_X10_piece_96, k_X10_piece_105, k_X10_piece_106, k_X10_piece_115, k_X10_piece_116, k_X10_piece_125, k_X10_piece_126, k_X10_piece_135, k_X10_piece_138, k_X10_piece_142, k_X10_piece_143, k_X10_piece_144, li_0, li_1, li_2, li_3, li_4, li_5, li_6, li_9, li_10, li_40, lm_1, lm_2, lm_3, lm_4, zs_ap, i32_add, i32_sub, i32_mul, i32_neg, i32_lt, i32_le, i32_eq, i32_nat, ckn, pka_r, pka_v, if_pos, if_neg, if_true, if_false, e]
      · by_cases c3 : a = 1
        · subst c3
          rw [k_X10_piece_65_c1 (hx := show i32 1 = 1 from rfl)]
          simp (disch := omega) only [k_X10_piece_8, k_X10_piece_17, k_X10_piece_20, k_X10_piece_24, k_X10_piece_35, k_X10_piece_38, k_X10_piece_47, k_X10_piece_52, k_X10_piece_55, k_X10_piece_58, k_X10_piece_59, k_X10_piece_63, k_X10_piece_96, k_X10_piece_105, k_X10_piece_106, k_X10_piece_115, k_X10_piece_116, k_X10_piece_125, k_X10_piece_126, k_X10_piece_135, k_X10_piece_138, k_X10_piece_142, k_X10_piece_143, k_X10_piece_144, li_0, li_1, li_2, li_3, li_4, li_5, li_6, li_9, li_10, li_40, lm_1, lm_2, lm_3, lm_4, zs_ap, i32_add, i32_sub, i32_mul, i32_neg, i32_lt, i32_le, i32_eq, i32_nat, ckn, pka_r, pka_v, if_pos, if_neg, if_true, if_false, e]
        · by_cases c4 : a = 2
          · subst c4
            rw [k_X10_piece_65_c2 (hx := show i32 2 = 2 from rfl)]
            simp (disch := omega) only [k_X10_piece_8, k_X10_piece_17, k_X10_piece_20, k_X10_piece_24, k_X10_piece_35, k_X10_piece_38, k_X10_piece_47, k_X10_piece_52, k_X10_piece_55, k_X10_piece_58, k_X10_piece_59, k_X10_piece_63, k_X10_piece_96, k_X10_piece_105, k_X10_piece_106, k_X10_piece_115, k_X10_piece_116, k_X10_piece_125, k_X10_piece_126, k_X10_piece_135, k_X10_piece_138, k_X10_piece_142, k_X10_piece_143, k_X10_piece_144, li_0, li_1, li_2, li_3, li_4, li_5, li_6, li_9, li_10, li_40, lm_1, lm_2, lm_3, lm_4, zs_ap, i32_add, i32_sub, i32_mul, i32_neg, i32_lt, i32_le, i32_eq, i32_nat, ckn, pka_r, pka_v, if_pos, if_neg, if_true, if_false, e]
          · by_cases c5 : a = 3
            · subst c5
              rw [k_X10_piece_65_c3 (hx := show i32 3 = 3 from rfl)]
              by_cases c9 : qund m k.toNat = 0
              · simp (disch := omega) only [k_X10_piece_8, k_X10_piece_17, k_X10_piece_20, k_X10_piece_24, k_X10_piece_35, k_X10_piece_38, k_X10_piece_47, k_X10_piece_52, k_X10_piece_55, k_X10_piece_58, k_X10_piece_59, k_X10_piece_63, k_X10_piece_96, k_X10_piece_105, k_X10_piece_106, k_X10_piece_115, k_X10_piece_116, k_X10_piece_125, k_X10_piece_126, k_X10_piece_135, k_X10_piece_138, k_X10_piece_142, k_X10_piece_143, k_X10_piece_144, li_0, li_1, li_2, li_3, li_4, li_5, li_6, li_9, li_10, li_40, lm_1, lm_2, lm_3, lm_4, zs_ap, i32_add, i32_sub, i32_mul, i32_neg, i32_lt, i32_le, i32_eq, i32_nat, ckn, pka_r, pka_v, if_pos, if_neg, if_true, if_false, e, c9]
                rfl
              · simp (disch := omega) only [k_X10_piece_8, k_X10_piece_17, k_X10_piece_20, k_X10_piece_24, k_X10_piece_35, k_X10_piece_38, k_X10_piece_47, k_X10_piece_52, k_X10_piece_55, k_X10_piece_58, k_X10_piece_59, k_X10_piece_63, k_X10_piece_96, k_X10_piece_105, k_X10_piece_106, k_X10_piece_115, k_X10_piece_116, k_X10_piece_125, k_X10_piece_126, k_X10_piece_135, k_X10_piece_138, k_X10_piece_142, k_X10_piece_143, k_X10_piece_144, li_0, li_1, li_2, li_3, li_4, li_5, li_6, li_9, li_10, li_40, lm_1, lm_2, lm_3, lm_4, zs_ap, i32_add, i32_sub, i32_mul, i32_neg, i32_lt, i32_le, i32_eq, i32_nat, ckn, pka_r, pka_v, if_pos, if_neg, if_true, if_false, e, show qund m k.toNat = 1 by omega]
                rfl
            · rw [k_X10_piece_65_d (hx := by rw [i32_toInt (by omega) (by omega)]; omega)]
              simp (disch := omega) only [k_X10_piece_8, k_X10_piece_17, k_X10_piece_20, k_X10_piece_24, k_X10_piece_35, k_X10_piece_38, k_X10_piece_47, k_X10_piece_52, k_X10_piece_55, k_X10_piece_58, k_X10_piece_59, k_X10_piece_63, k_X10_piece_96, k_X10_piece_105, k_X10_piece_106, k_X10_piece_115, k_X10_piece_116, k_X10_piece_125, k_X10_piece_126, k_X10_piece_135, k_X10_piece_138, k_X10_piece_142, k_X10_piece_143, k_X10_piece_144, li_0, li_1, li_2, li_3, li_4, li_5, li_6, li_9, li_10, li_40, lm_1, lm_2, lm_3, lm_4, zs_ap, i32_add, i32_sub, i32_mul, i32_neg, i32_lt, i32_le, i32_eq, i32_nat, ckn, pka_r, pka_v, if_pos, if_neg, if_true, if_false]
    · rw [if_neg c2]
      simp (disch := omega) only [k_X10_piece_8, k_X10_piece_17, k_X10_piece_20, k_X10_piece_24, k_X10_piece_35, k_X10_piece_38, k_X10_piece_47, k_X10_piece_52, k_X10_piece_55, k_X10_piece_58, k_X10_piece_59, k_X10_piece_63, k_X10_piece_96, k_X10_piece_105, k_X10_piece_106, k_X10_piece_115, k_X10_piece_116, k_X10_piece_125, k_X10_piece_126, k_X10_piece_135, k_X10_piece_138, k_X10_piece_142, k_X10_piece_143, k_X10_piece_144, li_0, li_1, li_2, li_3, li_4, li_5, li_6, li_9, li_10, li_40, lm_1, lm_2, lm_3, lm_4, zs_ap, i32_add, i32_sub, i32_mul, i32_neg, i32_lt, i32_le, i32_eq, i32_nat, ckn, pka_r, pka_v, if_pos, if_neg, if_true, if_false, li_12, a1, bI_f c2, a2, bI_f c1]
theorem h_fault {a : Int} (ha : -2147483648 ≤ a ∧ a < 2147483648) : Mean (d + 1) 109 [.ref 0, .int (i32 a)] (176, zs Z, J, RP p0 p1 p0 35 p0 p5 p6 97) = some (some (.int (i32 (aFault (Z 3 5) (Z 3 6) a))), (176, zs Z, J, RP p0 p1 p0 35 p0 p5 p6 97)) := by
  rw [e_X10_fault, k_X10_fault_0]
  unfold aFault
  by_cases c0 : a = 0
  · rw [if_pos c0]
    simp (disch := omega) only [k_X10_fault_4, k_X10_fault_12, k_X10_fault_17, k_X10_fault_27, k_X10_fault_28, li_0, li_1, li_2, li_3, li_4, li_5, li_6, li_9, li_10, li_40, lm_1, lm_2, lm_3, lm_4, zs_ap, i32_add, i32_sub, i32_mul, i32_neg, i32_lt, i32_le, i32_eq, i32_nat, ckn, pka_r, pka_v, if_pos, if_neg, if_true, if_false]
  · rw [if_neg c0]
    by_cases c1 : a = 1
    · rw [if_pos c1]
      simp (disch := omega) only [k_X10_fault_4, k_X10_fault_12, k_X10_fault_17, k_X10_fault_27, k_X10_fault_28, li_0, li_1, li_2, li_3, li_4, li_5, li_6, li_9, li_10, li_40, lm_1, lm_2, lm_3, lm_4, zs_ap, i32_add, i32_sub, i32_mul, i32_neg, i32_lt, i32_le, i32_eq, i32_nat, ckn, pka_r, pka_v, if_pos, if_neg, if_true, if_false]
    · rw [if_neg c1]
      simp (disch := omega) only [k_X10_fault_4, k_X10_fault_12, k_X10_fault_17, k_X10_fault_27, k_X10_fault_28, li_0, li_1, li_2, li_3, li_4, li_5, li_6, li_9, li_10, li_40, lm_1, lm_2, lm_3, lm_4, zs_ap, i32_add, i32_sub, i32_mul, i32_neg, i32_lt, i32_le, i32_eq, i32_nat, ckn, pka_r, pka_v, if_pos, if_neg, if_true, if_false]
theorem h_judged {a : Int} (ha : -2147483648 ≤ a ∧ a < 2147483648) (hz : 0 ≤ Z 129 4 ∧ Z 129 4 ≤ 1) : Mean (d + 1) 131 [.ref 0, .int (i32 a)] (176, zs Z, J, RP p0 p1 p0 35 p0 p5 p6 97) = some (some (.int (i32 (aJudged (Z 129 4) (Z 129 5) (Z 129 6) (Z 129 7) (Z 129 8) a))), (176, zs Z, J, RP p0 p1 p0 35 p0 p5 p6 97)) := by
  rw [e_X10_judged, k_X10_judged_0]
  unfold aJudged
  by_cases c : Z 129 4 = 0
  · rw [if_pos c]
    simp (disch := omega) only [k_X10_judged_10, k_X10_judged_44, k_X10_judged_52, k_X10_judged_60, k_X10_judged_68, k_X10_judged_76, li_0, li_1, li_2, li_3, li_4, li_5, li_6, li_9, li_10, li_40, lm_1, lm_2, lm_3, lm_4, zs_ap, i32_add, i32_sub, i32_mul, i32_neg, i32_lt, i32_le, i32_eq, i32_nat, ckn, pka_r, pka_v, if_pos, if_neg, if_true, if_false, c]
  · rw [if_neg c]
    simp (disch := omega) only [k_X10_judged_10, k_X10_judged_44, k_X10_judged_52, k_X10_judged_60, k_X10_judged_68, k_X10_judged_76, li_0, li_1, li_2, li_3, li_4, li_5, li_6, li_9, li_10, li_40, lm_1, lm_2, lm_3, lm_4, zs_ap, i32_add, i32_sub, i32_mul, i32_neg, i32_lt, i32_le, i32_eq, i32_nat, ckn, pka_r, pka_v, if_pos, if_neg, if_true, if_false]
    by_cases c0 : a = 0
    · subst c0
      rw [k_X10_judged_12_c0 (hx := show i32 0 = 0 from rfl)]
      simp (disch := omega) only [k_X10_judged_10, k_X10_judged_44, k_X10_judged_52, k_X10_judged_60, k_X10_judged_68, k_X10_judged_76, li_0, li_1, li_2, li_3, li_4, li_5, li_6, li_9, li_10, li_40, lm_1, lm_2, lm_3, lm_4, zs_ap, i32_add, i32_sub, i32_mul, i32_neg, i32_lt, i32_le, i32_eq, i32_nat, ckn, pka_r, pka_v, if_pos, if_neg, if_true, if_false]
    · by_cases c1 : a = 1
      · subst c1
        rw [k_X10_judged_12_c1 (hx := show i32 1 = 1 from rfl)]
        simp (disch := omega) only [k_X10_judged_10, k_X10_judged_44, k_X10_judged_52, k_X10_judged_60, k_X10_judged_68, k_X10_judged_76, li_0, li_1, li_2, li_3, li_4, li_5, li_6, li_9, li_10, li_40, lm_1, lm_2, lm_3, lm_4, zs_ap, i32_add, i32_sub, i32_mul, i32_neg, i32_lt, i32_le, i32_eq, i32_nat, ckn, pka_r, pka_v, if_pos, if_neg, if_true, if_false]
      · by_cases c2 : a = 2
        · subst c2
          rw [k_X10_judged_12_c2 (hx := show i32 2 = 2 from rfl)]
          simp (disch := omega) only [k_X10_judged_10, k_X10_judged_44, k_X10_judged_52, k_X10_judged_60, k_X10_judged_68, k_X10_judged_76, li_0, li_1, li_2, li_3, li_4, li_5, li_6, li_9, li_10, li_40, lm_1, lm_2, lm_3, lm_4, zs_ap, i32_add, i32_sub, i32_mul, i32_neg, i32_lt, i32_le, i32_eq, i32_nat, ckn, pka_r, pka_v, if_pos, if_neg, if_true, if_false]
        · by_cases c3 : a = 3
          · subst c3
            rw [k_X10_judged_12_c3 (hx := show i32 3 = 3 from rfl)]
            simp (disch := omega) only [k_X10_judged_10, k_X10_judged_44, k_X10_judged_52, k_X10_judged_60, k_X10_judged_68, k_X10_judged_76, li_0, li_1, li_2, li_3, li_4, li_5, li_6, li_9, li_10, li_40, lm_1, lm_2, lm_3, lm_4, zs_ap, i32_add, i32_sub, i32_mul, i32_neg, i32_lt, i32_le, i32_eq, i32_nat, ckn, pka_r, pka_v, if_pos, if_neg, if_true, if_false]
          · rw [k_X10_judged_12_d (hx := by rw [i32_toInt (by omega) (by omega)]; omega)]
            simp (disch := omega) only [k_X10_judged_10, k_X10_judged_44, k_X10_judged_52, k_X10_judged_60, k_X10_judged_68, k_X10_judged_76, li_0, li_1, li_2, li_3, li_4, li_5, li_6, li_9, li_10, li_40, lm_1, lm_2, lm_3, lm_4, zs_ap, i32_add, i32_sub, i32_mul, i32_neg, i32_lt, i32_le, i32_eq, i32_nat, ckn, pka_r, pka_v, if_pos, if_neg, if_true, if_false]
theorem h_count (hp : hv2 p0) {a : Int} (ha : -2147483648 ≤ a ∧ a < 2147483648) : Mean (d + 1) 136 [.ref 0, .int (i32 a)] (176, zs Z, J, RP p0 p1 p0 35 p0 p5 p6 97) = some (some (.int (i32 (aCount (Z p0 0) (Z 132 0) (Z 132 1) (Z 1 1) a))), (176, zs Z, J, RP p0 p1 p0 35 p0 p5 p6 97)) := by
  rw [e_X10_count]
  unfold aCount
  by_cases c0 : a = 0
  · subst c0
    rw [k_X10_count_0_c0 (hx := show i32 0 = 0 from rfl)]
    simp (disch := omega) only [k_X10_count_32, k_X10_count_40, k_X10_count_48, k_X10_count_56, k_X10_count_64, li_0, li_1, li_2, li_3, li_4, li_5, li_6, li_9, li_10, li_40, lm_1, lm_2, lm_3, lm_4, zs_ap, i32_add, i32_sub, i32_mul, i32_neg, i32_lt, i32_le, i32_eq, i32_nat, ckn, pka_r, pka_v, if_pos, if_neg, if_true, if_false]
  · by_cases c1 : a = 1
    · subst c1
      rw [k_X10_count_0_c1 (hx := show i32 1 = 1 from rfl)]
      simp (disch := omega) only [k_X10_count_32, k_X10_count_40, k_X10_count_48, k_X10_count_56, k_X10_count_64, li_0, li_1, li_2, li_3, li_4, li_5, li_6, li_9, li_10, li_40, lm_1, lm_2, lm_3, lm_4, zs_ap, i32_add, i32_sub, i32_mul, i32_neg, i32_lt, i32_le, i32_eq, i32_nat, ckn, pka_r, pka_v, if_pos, if_neg, if_true, if_false]
    · by_cases c2 : a = 2
      · subst c2
        rw [k_X10_count_0_c2 (hx := show i32 2 = 2 from rfl)]
        simp (disch := omega) only [k_X10_count_32, k_X10_count_40, k_X10_count_48, k_X10_count_56, k_X10_count_64, li_0, li_1, li_2, li_3, li_4, li_5, li_6, li_9, li_10, li_40, lm_1, lm_2, lm_3, lm_4, zs_ap, i32_add, i32_sub, i32_mul, i32_neg, i32_lt, i32_le, i32_eq, i32_nat, ckn, pka_r, pka_v, if_pos, if_neg, if_true, if_false]
      · by_cases c3 : a = 3
        · subst c3
          rw [k_X10_count_0_c3 (hx := show i32 3 = 3 from rfl)]
          simp (disch := omega) only [k_X10_count_32, k_X10_count_40, k_X10_count_48, k_X10_count_56, k_X10_count_64, li_0, li_1, li_2, li_3, li_4, li_5, li_6, li_9, li_10, li_40, lm_1, lm_2, lm_3, lm_4, zs_ap, i32_add, i32_sub, i32_mul, i32_neg, i32_lt, i32_le, i32_eq, i32_nat, ckn, pka_r, pka_v, if_pos, if_neg, if_true, if_false]
        · rw [k_X10_count_0_d (hx := by rw [i32_toInt (by omega) (by omega)]; omega)]
          simp (disch := omega) only [k_X10_count_32, k_X10_count_40, k_X10_count_48, k_X10_count_56, k_X10_count_64, li_0, li_1, li_2, li_3, li_4, li_5, li_6, li_9, li_10, li_40, lm_1, lm_2, lm_3, lm_4, zs_ap, i32_add, i32_sub, i32_mul, i32_neg, i32_lt, i32_le, i32_eq, i32_nat, ckn, pka_r, pka_v, if_pos, if_neg, if_true, if_false]
theorem h_isStand (h : KI m p0 Z) {s t : Int} (hs : -2147483648 ≤ s ∧ s < 2147483648) (ht : -2147483648 ≤ t ∧ t < 2147483648) : Mean (d + 2) 137 [.ref 0, .int (i32 s), .int (i32 t)] (176, zs Z, J, RP p0 p1 p0 35 p0 p5 p6 97) = some (some (.int (i32 (bI ((0 ≤ s ∧ s < qN m) ∧ (0 ≤ t ∧ t < qS m))))), (176, zs Z, J, RP p0 p1 p0 35 p0 p5 p6 97)) := by
  obtain ⟨hw, hp, hm, hk⟩ := h
  have hN := qpl_b hw (k := qP m) (Nat.le_refl _)
  have hN' : qN m = qpl m (qP m) := rfl
  have hS := hw.1
  have a1 := h_hasState_a (d := d) (J := J) (p0 := p0) (p1 := p1) (p2 := p0) (p3 := 35) (p4 := p0) (p5 := p5) (p6 := p6) (p7 := 97) (N := qN m) (by omega) hk.1.1.1 hs
  have a2 := h_hasSide (d := d) (J := J) (Z := Z) (p0 := p0) (p1 := p1) (p2 := p0) (p3 := 35) (p4 := p0) (p5 := p5) (p6 := p6) (p7 := 97) (h := p0) (by omega) hS.2 hm.1.1 ht
  rw [e_X10_isStand, k_X10_isStand_0]
  by_cases c1 : 0 ≤ s ∧ s < qN m
  · by_cases c2 : 0 ≤ t ∧ t < qS m
    · rw [bI_t (show (0 ≤ s ∧ s < qN m) ∧ (0 ≤ t ∧ t < qS m) from ⟨c1, c2⟩)]
      simp (disch := omega) only [k_X10_isStand_8, k_X10_isStand_11, k_X10_isStand_19, k_X10_isStand_22, k_X10_isStand_26, k_X10_isStand_27, li_0, li_1, li_2, li_3, li_4, li_5, li_6, li_9, li_10, li_40, lm_1, lm_2, lm_3, lm_4, zs_ap, i32_add, i32_sub, i32_mul, i32_neg, i32_lt, i32_le, i32_eq, i32_nat, ckn, pka_r, pka_v, if_pos, if_neg, if_true, if_false, a1, bI_t c1, a2, bI_t c2, or_true]
    · rw [bI_f (show ¬ ((0 ≤ s ∧ s < qN m) ∧ (0 ≤ t ∧ t < qS m)) from fun q => c2 q.2)]
      simp (disch := omega) only [k_X10_isStand_8, k_X10_isStand_11, k_X10_isStand_19, k_X10_isStand_22, k_X10_isStand_26, k_X10_isStand_27, li_0, li_1, li_2, li_3, li_4, li_5, li_6, li_9, li_10, li_40, lm_1, lm_2, lm_3, lm_4, zs_ap, i32_add, i32_sub, i32_mul, i32_neg, i32_lt, i32_le, i32_eq, i32_nat, ckn, pka_r, pka_v, if_pos, if_neg, if_true, if_false, a1, bI_t c1, a2, bI_f c2, true_or]
  · rw [bI_f (show ¬ ((0 ≤ s ∧ s < qN m) ∧ (0 ≤ t ∧ t < qS m)) from fun q => c1 q.1)]
    simp (disch := omega) only [k_X10_isStand_8, k_X10_isStand_11, k_X10_isStand_19, k_X10_isStand_22, k_X10_isStand_26, k_X10_isStand_27, li_0, li_1, li_2, li_3, li_4, li_5, li_6, li_9, li_10, li_40, lm_1, lm_2, lm_3, lm_4, zs_ap, i32_add, i32_sub, i32_mul, i32_neg, i32_lt, i32_le, i32_eq, i32_nat, ckn, pka_r, pka_v, if_pos, if_neg, if_true, if_false, a1, bI_f c1, true_or]
theorem h_safe (h : KI m p0 Z) (hr : ∀ u : Nat, u < qN m → LR m b 43 J u) {s t : Int} (hs : -2147483648 ≤ s ∧ s < 2147483648) (ht : -2147483648 ≤ t ∧ t < 2147483648) : ∃ x : Int64, ((0 ≤ s ∧ s < qN m) ∧ (0 ≤ t ∧ t < qS m) → ∀ n : Nat, n < 64 → gb x n = sf m b n s.toNat (qtt m t.toNat)) ∧ (¬ ((0 ≤ s ∧ s < qN m) ∧ (0 ≤ t ∧ t < qS m)) → x = -2) ∧ Mean (d + 3) 121 [.ref 0, .int (i32 s), .int (i32 t)] (176, zs Z, J, RP p0 p1 p0 35 p0 p5 p6 97) = some (some (.long x), (176, zs Z, J, RP p0 p1 p0 35 p0 p5 p6 97)) := by
  have st := h_isStand (d := d) (J := J) (p1 := p1) (p5 := p5) (p6 := p6) h hs ht
  obtain ⟨hw, hp, hm, hk⟩ := h
  by_cases c : (0 ≤ s ∧ s < qN m) ∧ (0 ≤ t ∧ t < qS m)
  · refine ⟨J (45 + qtt m t.toNat) s.toNat, fun _ n hn => ?_, fun q => absurd c q, ?_⟩
    · have := hr s.toNat (by omega) (qtt m t.toNat) n (qtt_nlay hw (by omega)) hn
      rw [LB_safe hw] at this
      exact this
    · have sb := h_safeBits_a (d := d + 1) (J := J) (p0 := p0) (p1 := p1) (p2 := p0) (p5 := p5) (p6 := p6) (p7 := 97) hp hw hm (s := s.toNat) (t := t.toNat) (by omega) (by omega)
      rw [show ((s.toNat : Nat) : Int) = s by omega, show ((t.toNat : Nat) : Int) = t by omega] at sb
      rw [e_X10_safe, k_X10_safe_0]
      simp (disch := omega) only [k_X10_safe_6, k_X10_safe_9, k_X10_safe_18, k_X10_safe_21, k_X10_safe_24, li_0, li_1, li_2, li_3, li_4, li_5, li_6, li_9, li_10, li_40, lm_1, lm_2, lm_3, lm_4, zs_ap, i32_add, i32_sub, i32_mul, i32_neg, i32_lt, i32_le, i32_eq, i32_nat, ckn, pka_r, pka_v, if_pos, if_neg, if_true, if_false, st, bI_t c, sb]
  · refine ⟨-2, fun q => absurd q c, fun _ => rfl, ?_⟩
    rw [e_X10_safe, k_X10_safe_0]
    simp (disch := omega) only [k_X10_safe_6, k_X10_safe_9, k_X10_safe_18, k_X10_safe_21, k_X10_safe_24, li_0, li_1, li_2, li_3, li_4, li_5, li_6, li_9, li_10, li_40, lm_1, lm_2, lm_3, lm_4, zs_ap, i32_add, i32_sub, i32_mul, i32_neg, i32_lt, i32_le, i32_eq, i32_nat, ckn, pka_r, pka_v, if_pos, if_neg, if_true, if_false, st, bI_f c]
theorem h_many (h : KI m p0 Z) (hr : ∀ u : Nat, u < qN m → LR m b 43 J u) {t : Int} (ht : -2147483648 ≤ t ∧ t < 2147483648) : Mean (d + 2) 122 [.ref 0, .int (i32 t)] (176, zs Z, J, RP p0 p1 p0 35 p0 p5 p6 97) = some (some (.int (i32 (aMany m b t))), (176, zs Z, J, RP p0 p1 p0 35 p0 p5 p6 97)) := by
  obtain ⟨hw, hp, hm, hk⟩ := h
  have hN := qpl_b hw (k := qP m) (Nat.le_refl _)
  have hN' : qN m = qpl m (qP m) := rfl
  have hS := hw.1
  have a2 := h_hasSide (d := d) (J := J) (Z := Z) (p0 := p0) (p1 := p1) (p2 := p0) (p3 := 35) (p4 := p0) (p5 := p5) (p6 := p6) (p7 := 97) (h := p0) (by omega) hS.2 hm.1.1 ht
  have zN := hk.1.1.1
  unfold aMany
  rw [e_X10_many, k_X10_many_0 (hv_p0 := by omega)]
  by_cases c2 : 0 ≤ t ∧ t < qS m
  · obtain ⟨t', rfl⟩ : ∃ t' : Nat, t = t' := ⟨t.toNat, by omega⟩
    rw [if_pos c2, Int.toNat_natCast]
    simp (disch := omega) only [k_X10_many_8, k_X10_many_11, k_X10_many_14, k_X10_many_29, k_X10_many_38, k_X10_many_43, k_X10_many_46, k_X10_many_52, li_0, li_1, li_2, li_3, li_4, li_5, li_6, li_9, li_10, li_40, lm_1, lm_2, lm_3, lm_4, zs_ap, i32_add, i32_sub, i32_mul, i32_neg, i32_lt, i32_le, i32_eq, i32_nat, ckn, pka_r, pka_v, if_pos, if_neg, if_true, if_false, a2, bI_t c2]
    refine Eq.trans (up_eq (fun (k : Nat) => den none (Mean (d + 1)) (some .int) tQ_X10_many (18, [some (.ref 0), some (.int (i32 (t' : Int))), some (.int (i32 ((cntN (fun s => hld m b s (qtt m t')) k : Nat) : Int))), some (.int (i32 (k : Int)))], [], 176, zs Z, J, RP p0 p1 p0 35 p0 p5 p6 97)) (qN m) (fun k hk' => ?_)) ?_
    · have hc := cntN_le (fun s => hld m b s (qtt m t')) k
      have sb := h_safeBits_a (d := d) (J := J) (p0 := p0) (p1 := p1) (p2 := p0) (p5 := p5) (p6 := p6) (p7 := 97) hp hw hm (s := k) (t := t') hk' (by omega)
      have h4 : (J (45 + qtt m t') k = 0) = (hld m b k (qtt m t') = false) := by
        apply propext
        have hb : ∀ n : Nat, n < 64 → gb (J (45 + qtt m t') k) n = sf m b n k (qtt m t') := fun n hn => by
          have := hr k hk' (qtt m t') n (qtt_nlay hw (by omega)) hn
          rw [LB_safe hw] at this
          exact this
        rw [gb_nz]
        constructor
        · intro hz
          cases cc : hld m b k (qtt m t')
          · rfl
          · obtain ⟨n, n1, n2⟩ := (anyN_iff _).mp cc
            have := hz n (by omega)
            rw [hb n (by omega), n2] at this
            cases this
        · intro hz n hn
          rw [hb n hn]
          cases cc : sf m b n k (qtt m t')
          · rfl
          · have h40 := sf_40 hw cc
            have : hld m b k (qtt m t') = true := (anyN_iff _).mpr ⟨n, by omega, cc⟩
            rw [hz] at this
            cases this
      try dsimp only
      rw [k_X10_many_18]
      simp (disch := omega) only [k_X10_many_8, k_X10_many_11, k_X10_many_14, k_X10_many_29, k_X10_many_38, k_X10_many_43, k_X10_many_46, k_X10_many_52, li_0, li_1, li_2, li_3, li_4, li_5, li_6, li_9, li_10, li_40, lm_1, lm_2, lm_3, lm_4, zs_ap, i32_add, i32_sub, i32_mul, i32_neg, i32_lt, i32_le, i32_eq, i32_nat, ckn, pka_r, pka_v, if_pos, if_neg, if_true, if_false, zN, sb, cmp_z, h4]
      cases c : hld m b k (qtt m t')
      · simp (disch := omega) only [k_X10_many_8, k_X10_many_11, k_X10_many_14, k_X10_many_29, k_X10_many_38, k_X10_many_43, k_X10_many_46, k_X10_many_52, li_0, li_1, li_2, li_3, li_4, li_5, li_6, li_9, li_10, li_40, lm_1, lm_2, lm_3, lm_4, zs_ap, i32_add, i32_sub, i32_mul, i32_neg, i32_lt, i32_le, i32_eq, i32_nat, ckn, pka_r, pka_v, if_pos, if_neg, if_true, if_false, cntN, c, Bool.false_eq_true]
        rfl
      · rw [if_neg (by simp)]
        simp (disch := omega) only [k_X10_many_8, k_X10_many_11, k_X10_many_14, k_X10_many_29, k_X10_many_38, k_X10_many_43, k_X10_many_46, k_X10_many_52, li_0, li_1, li_2, li_3, li_4, li_5, li_6, li_9, li_10, li_40, lm_1, lm_2, lm_3, lm_4, zs_ap, i32_add, i32_sub, i32_mul, i32_neg, i32_lt, i32_le, i32_eq, i32_nat, ckn, pka_r, pka_v, if_pos, if_neg, if_true, if_false, cntN, c]
        rfl
    · rw [k_X10_many_18]
      simp (disch := omega) only [k_X10_many_8, k_X10_many_11, k_X10_many_14, k_X10_many_29, k_X10_many_38, k_X10_many_43, k_X10_many_46, k_X10_many_52, li_0, li_1, li_2, li_3, li_4, li_5, li_6, li_9, li_10, li_40, lm_1, lm_2, lm_3, lm_4, zs_ap, i32_add, i32_sub, i32_mul, i32_neg, i32_lt, i32_le, i32_eq, i32_nat, ckn, pka_r, pka_v, if_pos, if_neg, if_true, if_false, zN]
  · rw [if_neg c2]
    simp (disch := omega) only [k_X10_many_8, k_X10_many_11, k_X10_many_14, k_X10_many_29, k_X10_many_38, k_X10_many_43, k_X10_many_46, k_X10_many_52, li_0, li_1, li_2, li_3, li_4, li_5, li_6, li_9, li_10, li_40, lm_1, lm_2, lm_3, lm_4, zs_ap, i32_add, i32_sub, i32_mul, i32_neg, i32_lt, i32_le, i32_eq, i32_nat, ckn, pka_r, pka_v, if_pos, if_neg, if_true, if_false, a2, bI_f c2]
end
