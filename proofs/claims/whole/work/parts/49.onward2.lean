/-! THE MODEL'S onward -/
section
variable {d : Nat} {J : Nat → Nat → Int64} {Z : Nat → Nat → Int} {p0 p1 p2 p3 p4 p5 p6 p7 : Nat} {m : Mat}
theorem next_lt (h : wf m) (t : Nat) : qnext m t < qS m := by
  have h1 := h.1
  unfold qnext
  split
  · exact Nat.mod_lt _ (by omega)
  · omega
theorem g_onward (h : MI m Z) {s t : Nat} (hs : s < qN m) (ht : t < qS m) : ∃ x : Int64, (∀ n : Nat, n < 64 → gb x n = onw m (fun u v => gb (J 162 (3 * u + v)) n) s t) ∧ Mean (d + 7) 195 [.ref 140, .int (i32 (s : Int)), .int (i32 (t : Int))] (176, zs Z, J, RP p0 p1 p2 p3 p4 p5 p6 p7) = some (some (.long x), (176, zs Z, J, RP p0 p1 p2 p3 p4 p5 p6 p7)) := by
  have h0 := MI_n h
  have h1 := h.2.1.1
  have h2 := h.1.2.2.2.2.2.1
  have hnx := next_lt h.1 t
  by_cases c2 : qmode m = 2
  · obtain ⟨x, hx, hm⟩ := g_tog (d := d + (3 - qS m)) (J := J) (p0 := p0) (p1 := p1) (p2 := p2) (p3 := p3) (p4 := p4) (p5 := p5) (p6 := p6) (p7 := p7) h hs (qS m) 0 0 s (by omega) (by omega) hs (fun _ _ _ => rfl)
    rw [show d + (3 - qS m) + qS m + 3 = d + 6 by omega] at hm
    refine ⟨x, fun n hn => ?_, ?_⟩
    · rw [hx n hn]
      unfold onw
      rw [if_pos c2]
      rfl
    · rw [e_X11_onward]
      simp (disch := omega) only [k_X11_onward_0, k_X11_onward_8, k_X11_onward_16, k_X11_onward_17, k_X11_onward_24, k_X11_onward_36, k_X11_onward_38, k_X11_onward_41, k_X11_onward_42, k_X11_onward_55, k_X11_onward_62, k_X11_onward_69, k_X11_onward_73, k_X11_onward_76, k_X11_onward_86, k_X11_onward_95, k_X11_onward_98, k_X11_onward_114, k_X11_onward_122, k_X11_onward_124, k_X11_onward_126, k_X11_onward_132, k_X11_onward_138, li_0, li_1, li_2, li_3, li_4, li_5, li_6, li_9, li_10, li_40, lm_1, lm_2, lm_3, lm_4, zs_ap, i32_add, i32_sub, i32_mul, i32_neg, i32_lt, i32_le, i32_eq, i32_nat, ckn, pka_r, pka_v, if_pos, if_neg, if_true, if_false, h1]
      refine (congrArg (fun o => pka o _ _) hm).trans ?_
      simp (disch := omega) only [k_X11_onward_0, k_X11_onward_8, k_X11_onward_16, k_X11_onward_17, k_X11_onward_24, k_X11_onward_36, k_X11_onward_38, k_X11_onward_41, k_X11_onward_42, k_X11_onward_55, k_X11_onward_62, k_X11_onward_69, k_X11_onward_73, k_X11_onward_76, k_X11_onward_86, k_X11_onward_95, k_X11_onward_98, k_X11_onward_114, k_X11_onward_122, k_X11_onward_124, k_X11_onward_126, k_X11_onward_132, k_X11_onward_138, li_0, li_1, li_2, li_3, li_4, li_5, li_6, li_9, li_10, li_40, lm_1, lm_2, lm_3, lm_4, zs_ap, i32_add, i32_sub, i32_mul, i32_neg, i32_lt, i32_le, i32_eq, i32_nat, ckn, pka_r, pka_v, if_pos, if_neg, if_true, if_false]
  · have ex : ∃ xb : Int64, (∀ n : Nat, n < 64 → gb xb n = (decide (qmode m = 0) && gb (J 162 (3 * s + qnext m t)) n)) ∧ Mean (d + 7) 195 [.ref 140, .int (i32 (s : Int)), .int (i32 (t : Int))] (176, zs Z, J, RP p0 p1 p2 p3 p4 p5 p6 p7) = den none (Mean (d + 6)) (some .long) tQ_X11_onward (46, [some (.ref 140), some (.int (i32 (s : Int))), some (.int (i32 (t : Int))), some (.long xb), none, some (.int (i32 0)), none], [], 176, zs Z, J, RP p0 p1 p2 p3 p4 p5 p6 p7) := by
      by_cases c0 : qmode m = 0
      · refine ⟨J 162 (3 * s + qnext m t), fun n hn => by rw [decide_eq_true c0, Bool.true_and], ?_⟩
        rw [e_X11_onward]
        simp (disch := omega) only [k_X11_onward_0, k_X11_onward_8, k_X11_onward_16, k_X11_onward_17, k_X11_onward_24, k_X11_onward_36, k_X11_onward_38, k_X11_onward_41, k_X11_onward_42, k_X11_onward_55, k_X11_onward_62, k_X11_onward_69, k_X11_onward_73, k_X11_onward_76, k_X11_onward_86, k_X11_onward_95, k_X11_onward_98, k_X11_onward_114, k_X11_onward_122, k_X11_onward_124, k_X11_onward_126, k_X11_onward_132, k_X11_onward_138, li_0, li_1, li_2, li_3, li_4, li_5, li_6, li_9, li_10, li_40, lm_1, lm_2, lm_3, lm_4, zs_ap, i32_add, i32_sub, i32_mul, i32_neg, i32_lt, i32_le, i32_eq, i32_nat, ckn, pka_r, pka_v, if_pos, if_neg, if_true, if_false, h1, g_next h, show (3 * (s : Int) + (qnext m t : Int)).toNat = 3 * s + qnext m t by omega]
      · refine ⟨0, fun n hn => by rw [decide_eq_false c0, Bool.false_and, gb_0], ?_⟩
        rw [e_X11_onward]
        simp (disch := omega) only [k_X11_onward_0, k_X11_onward_8, k_X11_onward_16, k_X11_onward_17, k_X11_onward_24, k_X11_onward_36, k_X11_onward_38, k_X11_onward_41, k_X11_onward_42, k_X11_onward_55, k_X11_onward_62, k_X11_onward_69, k_X11_onward_73, k_X11_onward_76, k_X11_onward_86, k_X11_onward_95, k_X11_onward_98, k_X11_onward_114, k_X11_onward_122, k_X11_onward_124, k_X11_onward_126, k_X11_onward_132, k_X11_onward_138, li_0, li_1, li_2, li_3, li_4, li_5, li_6, li_9, li_10, li_40, lm_1, lm_2, lm_3, lm_4, zs_ap, i32_add, i32_sub, i32_mul, i32_neg, i32_lt, i32_le, i32_eq, i32_nat, ckn, pka_r, pka_v, if_pos, if_neg, if_true, if_false, h1]
    obtain ⟨xb, hxb, hmb⟩ := ex
    have step : ∀ (k : Nat) (x : Int64), k < qP m → ∃ x' : Int64, (∀ n : Nat, n < 64 → gb x' n = (gb x n || giv m s k (fun u => gb (J 162 (3 * u + qnext m t)) n))) ∧ den none (Mean (d + 6)) (some .long) tQ_X11_onward (79, [some (.ref 140), some (.int (i32 (s : Int))), some (.int (i32 (t : Int))), some (.long x), none, some (.int (i32 (k : Int))), some (.int (i32 1))], [], 176, zs Z, J, RP p0 p1 p2 p3 p4 p5 p6 p7) = den none (Mean (d + 6)) (some .long) tQ_X11_onward (132, [some (.ref 140), some (.int (i32 (s : Int))), some (.int (i32 (t : Int))), some (.long x'), none, some (.int (i32 (k : Int))), some (.int (i32 10))], [], 176, zs Z, J, RP p0 p1 p2 p3 p4 p5 p6 p7) := by
      intro k x hk
      have hpl := h.2.2.2.2.1 k (by omega)
      have hplb := qpl_b h.1 (k := k) (by omega)
      obtain ⟨x', v, e⟩ := up_inv (fun (q : Nat) (x : Int64) => den none (Mean (d + 6)) (some .long) tQ_X11_onward (79, [some (.ref 140), some (.int (i32 (s : Int))), some (.int (i32 (t : Int))), some (.long x), none, some (.int (i32 (k : Int))), some (.int (i32 ((q + 1 : Nat) : Int)))], [], 176, zs Z, J, RP p0 p1 p2 p3 p4 p5 p6 p7)) 9 (fun q x' => ∀ n : Nat, n < 64 → gb x' n = (gb x n || anyN (fun q => qmay m s k (q + 1) && gb (J 162 (3 * (s - (q + 1) * qpl m k) + qnext m t)) n) q)) (fun q x1 hq hv => by
        cases hb : qmay m s k (q + 1)
        · refine ⟨x1, fun n hn => ?_, ?_⟩
          · rw [hv n hn]
            simp only [anyN, hb, Bool.false_and, Bool.or_false]
          · rw [k_X11_onward_79]
            simp (disch := omega) only [k_X11_onward_0, k_X11_onward_8, k_X11_onward_16, k_X11_onward_17, k_X11_onward_24, k_X11_onward_36, k_X11_onward_38, k_X11_onward_41, k_X11_onward_42, k_X11_onward_55, k_X11_onward_62, k_X11_onward_69, k_X11_onward_73, k_X11_onward_76, k_X11_onward_86, k_X11_onward_95, k_X11_onward_98, k_X11_onward_114, k_X11_onward_122, k_X11_onward_124, k_X11_onward_126, k_X11_onward_132, k_X11_onward_138, li_0, li_1, li_2, li_3, li_4, li_5, li_6, li_9, li_10, li_40, lm_1, lm_2, lm_3, lm_4, zs_ap, i32_add, i32_sub, i32_mul, i32_neg, i32_lt, i32_le, i32_eq, i32_nat, ckn, pka_r, pka_v, if_pos, if_neg, if_true, if_false, g_mayGive h, hb, bBf]
            rfl
        · have hle := may_le hb
          have hsub := sub_le (m := m) (s := s) (k := k) (q := q + 1) (by omega)
          have ec := sub_c hsub
          refine ⟨x1 ||| J 162 (3 * (s - (q + 1) * qpl m k) + qnext m t), fun n hn => ?_, ?_⟩
          · rw [gb_or, hv n hn]
            simp only [anyN, hb, Bool.true_and, Bool.or_assoc]
          · rw [k_X11_onward_79]
            simp (disch := omega) only [k_X11_onward_0, k_X11_onward_8, k_X11_onward_16, k_X11_onward_17, k_X11_onward_24, k_X11_onward_36, k_X11_onward_38, k_X11_onward_41, k_X11_onward_42, k_X11_onward_55, k_X11_onward_62, k_X11_onward_69, k_X11_onward_73, k_X11_onward_76, k_X11_onward_86, k_X11_onward_95, k_X11_onward_98, k_X11_onward_114, k_X11_onward_122, k_X11_onward_124, k_X11_onward_126, k_X11_onward_132, k_X11_onward_138, li_0, li_1, li_2, li_3, li_4, li_5, li_6, li_9, li_10, li_40, lm_1, lm_2, lm_3, lm_4, zs_ap, i32_add, i32_sub, i32_mul, i32_neg, i32_lt, i32_le, i32_eq, i32_nat, ckn, pka_r, pka_v, if_pos, if_neg, if_true, if_false, g_mayGive h, hb, bBt, Int.toNat_natCast, hpl, ec, g_next h, show (3 * ((s - (q + 1) * qpl m k : Nat) : Int) + (qnext m t : Int)).toNat = 3 * (s - (q + 1) * qpl m k) + qnext m t by omega]
            rfl) x (fun n hn => by simp [anyN])
      refine ⟨x', v, ?_⟩
      refine Eq.trans e ?_
      rw [k_X11_onward_79]
      simp (disch := omega) only [k_X11_onward_0, k_X11_onward_8, k_X11_onward_16, k_X11_onward_17, k_X11_onward_24, k_X11_onward_36, k_X11_onward_38, k_X11_onward_41, k_X11_onward_42, k_X11_onward_55, k_X11_onward_62, k_X11_onward_69, k_X11_onward_73, k_X11_onward_76, k_X11_onward_86, k_X11_onward_95, k_X11_onward_98, k_X11_onward_114, k_X11_onward_122, k_X11_onward_124, k_X11_onward_126, k_X11_onward_138, li_0, li_1, li_2, li_3, li_4, li_5, li_6, li_9, li_10, li_40, lm_1, lm_2, lm_3, lm_4, zs_ap, i32_add, i32_sub, i32_mul, i32_neg, i32_lt, i32_le, i32_eq, i32_nat, ckn, pka_r, pka_v, if_pos, if_neg, if_true, if_false]
      rfl
    obtain ⟨⟨x', o'⟩, v, e⟩ := up_inv (fun (k : Nat) (y : Int64 × Option Value) => den none (Mean (d + 6)) (some .long) tQ_X11_onward (46, [some (.ref 140), some (.int (i32 (s : Int))), some (.int (i32 (t : Int))), some (.long y.1), none, some (.int (i32 (k : Int))), y.2], [], 176, zs Z, J, RP p0 p1 p2 p3 p4 p5 p6 p7)) (qP m) (fun k y => ∀ n : Nat, n < 64 → gb y.1 n = (gb xb n || anyN (fun k => (decide (qmode m ≠ 0) || decide (qown m k = t)) && giv m s k (fun u => gb (J 162 (3 * u + qnext m t)) n)) k)) (fun k y hk hv => by
      have hr := (h.2.1.2.1 k hk).1
      have hw := (h.1.2.2.1 k hk).1
      obtain ⟨x', g1, g2⟩ := step k y.1 hk
      by_cases c0 : qmode m = 0
      · by_cases c : qown m k = t
        · refine ⟨(x', some (.int (i32 10))), fun n hn => ?_, ?_⟩
          · rw [g1 n hn, hv n hn]
            simp only [anyN, c, decide_true, Bool.or_true, Bool.true_and, Bool.or_assoc]
          · rw [k_X11_onward_46]
            simp (disch := omega) only [k_X11_onward_0, k_X11_onward_8, k_X11_onward_16, k_X11_onward_17, k_X11_onward_24, k_X11_onward_36, k_X11_onward_38, k_X11_onward_41, k_X11_onward_42, k_X11_onward_55, k_X11_onward_62, k_X11_onward_69, k_X11_onward_73, k_X11_onward_76, k_X11_onward_86, k_X11_onward_95, k_X11_onward_98, k_X11_onward_114, k_X11_onward_122, k_X11_onward_124, k_X11_onward_126, k_X11_onward_132, k_X11_onward_138, li_0, li_1, li_2, li_3, li_4, li_5, li_6, li_9, li_10, li_40, lm_1, lm_2, lm_3, lm_4, zs_ap, i32_add, i32_sub, i32_mul, i32_neg, i32_lt, i32_le, i32_eq, i32_nat, ckn, pka_r, pka_v, if_pos, if_neg, if_true, if_false, Int.toNat_natCast, h0, hr, h1]
            rw [g2, k_X11_onward_132]
            simp (disch := omega) only [k_X11_onward_0, k_X11_onward_8, k_X11_onward_16, k_X11_onward_17, k_X11_onward_24, k_X11_onward_36, k_X11_onward_38, k_X11_onward_41, k_X11_onward_42, k_X11_onward_55, k_X11_onward_62, k_X11_onward_69, k_X11_onward_73, k_X11_onward_76, k_X11_onward_86, k_X11_onward_95, k_X11_onward_98, k_X11_onward_114, k_X11_onward_122, k_X11_onward_124, k_X11_onward_126, k_X11_onward_132, k_X11_onward_138, li_0, li_1, li_2, li_3, li_4, li_5, li_6, li_9, li_10, li_40, lm_1, lm_2, lm_3, lm_4, zs_ap, i32_add, i32_sub, i32_mul, i32_neg, i32_lt, i32_le, i32_eq, i32_nat, ckn, pka_r, pka_v, if_pos, if_neg, if_true, if_false]
            rfl
        · refine ⟨y, fun n hn => ?_, ?_⟩
          · rw [hv n hn]
            simp only [anyN, decide_eq_false c, decide_eq_false (show ¬ (qmode m ≠ 0) from fun q => q c0), Bool.or_self, Bool.false_and, Bool.or_false]
          · rw [k_X11_onward_46]
            simp (disch := omega) only [k_X11_onward_0, k_X11_onward_8, k_X11_onward_16, k_X11_onward_17, k_X11_onward_24, k_X11_onward_36, k_X11_onward_38, k_X11_onward_41, k_X11_onward_42, k_X11_onward_55, k_X11_onward_62, k_X11_onward_69, k_X11_onward_73, k_X11_onward_76, k_X11_onward_86, k_X11_onward_95, k_X11_onward_98, k_X11_onward_114, k_X11_onward_122, k_X11_onward_124, k_X11_onward_126, k_X11_onward_132, k_X11_onward_138, li_0, li_1, li_2, li_3, li_4, li_5, li_6, li_9, li_10, li_40, lm_1, lm_2, lm_3, lm_4, zs_ap, i32_add, i32_sub, i32_mul, i32_neg, i32_lt, i32_le, i32_eq, i32_nat, ckn, pka_r, pka_v, if_pos, if_neg, if_true, if_false, Int.toNat_natCast, h0, hr, h1]
            rfl
      · refine ⟨(x', some (.int (i32 10))), fun n hn => ?_, ?_⟩
        · rw [g1 n hn, hv n hn]
          simp only [anyN, decide_eq_true (show qmode m ≠ 0 from c0), Bool.true_or, Bool.true_and, Bool.or_assoc]
        · rw [k_X11_onward_46]
          simp (disch := omega) only [k_X11_onward_0, k_X11_onward_8, k_X11_onward_16, k_X11_onward_17, k_X11_onward_24, k_X11_onward_36, k_X11_onward_38, k_X11_onward_41, k_X11_onward_42, k_X11_onward_55, k_X11_onward_62, k_X11_onward_69, k_X11_onward_73, k_X11_onward_76, k_X11_onward_86, k_X11_onward_95, k_X11_onward_98, k_X11_onward_114, k_X11_onward_122, k_X11_onward_124, k_X11_onward_126, k_X11_onward_132, k_X11_onward_138, li_0, li_1, li_2, li_3, li_4, li_5, li_6, li_9, li_10, li_40, lm_1, lm_2, lm_3, lm_4, zs_ap, i32_add, i32_sub, i32_mul, i32_neg, i32_lt, i32_le, i32_eq, i32_nat, ckn, pka_r, pka_v, if_pos, if_neg, if_true, if_false, Int.toNat_natCast, h0, hr, h1]
          rw [g2, k_X11_onward_132]
          simp (disch := omega) only [k_X11_onward_0, k_X11_onward_8, k_X11_onward_16, k_X11_onward_17, k_X11_onward_24, k_X11_onward_36, k_X11_onward_38, k_X11_onward_41, k_X11_onward_42, k_X11_onward_55, k_X11_onward_62, k_X11_onward_69, k_X11_onward_73, k_X11_onward_76, k_X11_onward_86, k_X11_onward_95, k_X11_onward_98, k_X11_onward_114, k_X11_onward_122, k_X11_onward_124, k_X11_onward_126, k_X11_onward_132, k_X11_onward_138, li_0, li_1, li_2, li_3, li_4, li_5, li_6, li_9, li_10, li_40, lm_1, lm_2, lm_3, lm_4, zs_ap, i32_add, i32_sub, i32_mul, i32_neg, i32_lt, i32_le, i32_eq, i32_nat, ckn, pka_r, pka_v, if_pos, if_neg, if_true, if_false]
          rfl) (xb, none) (fun n hn => by simp [anyN])
    refine ⟨x', fun n hn => ?_, ?_⟩
    · rw [v n hn, hxb n hn]
      unfold onw givs
      rw [if_neg c2]
      by_cases c0 : qmode m = 0
      · rw [if_pos c0, decide_eq_true c0, Bool.true_and]
        congr 1
        apply anyN_congr
        intro k hk
        rw [decide_eq_false (show ¬ (qmode m ≠ 0) from fun q => q c0), Bool.false_or]
      · rw [if_neg c0, decide_eq_false c0, Bool.false_and, Bool.false_or]
        apply anyN_congr
        intro k hk
        rw [decide_eq_true (show qmode m ≠ 0 from c0), Bool.true_or]
        unfold qnext
        rw [if_neg c0]
    · rw [hmb]
      refine Eq.trans e ?_
      rw [k_X11_onward_46]
      simp (disch := omega) only [k_X11_onward_0, k_X11_onward_8, k_X11_onward_16, k_X11_onward_17, k_X11_onward_24, k_X11_onward_36, k_X11_onward_38, k_X11_onward_41, k_X11_onward_42, k_X11_onward_55, k_X11_onward_62, k_X11_onward_69, k_X11_onward_73, k_X11_onward_76, k_X11_onward_86, k_X11_onward_95, k_X11_onward_98, k_X11_onward_114, k_X11_onward_122, k_X11_onward_124, k_X11_onward_126, k_X11_onward_132, k_X11_onward_138, li_0, li_1, li_2, li_3, li_4, li_5, li_6, li_9, li_10, li_40, lm_1, lm_2, lm_3, lm_4, zs_ap, i32_add, i32_sub, i32_mul, i32_neg, i32_lt, i32_le, i32_eq, i32_nat, ckn, pka_r, pka_v, if_pos, if_neg, if_true, if_false, h0]
end
