/-! THE MODEL'S together, onward -/
theorem up_inv' {α σ : Type} (F : Nat → σ → α) (n : Nat) (V : Nat → σ → Prop) (st : ∀ (k : Nat) (s : σ), k < n → V k s → ∃ s' : σ, V (k + 1) s' ∧ F k s = F (k + 1) s') (s0 : σ) (h0 : V 0 s0) {r : α} (h : ∀ s' : σ, V n s' → F n s' = r) : F 0 s0 = r := by
  obtain ⟨s', h1, h2⟩ := up_inv F n V st s0 h0
  exact h2.trans (h s' h1)
section
variable {d : Nat} {J : Nat → Nat → Int64} {Z : Nat → Nat → Int} {p0 p1 p2 p3 p4 p5 p6 p7 : Nat} {m : Mat}
theorem sub_c {a q p : Nat} (h : q * p ≤ a) : (a : Int) - (q : Int) * (p : Int) = ((a - q * p : Nat) : Int) := by
  push_cast [Int.ofNat_sub h]
  omega
theorem g_tog (h : MI m Z) {s : Nat} (hs : s < qN m) : ∀ (j i g to : Nat), i + j = qS m → g ≤ i → to < qN m → (∀ k : Nat, k < qP m → i ≤ qown m k → qhas m to k = qhas m s k) →
    ∃ x : Int64, (∀ n : Nat, n < 64 → gb x n = tgB m s (fun u => gb (J 162 (3 * u)) n) j i g to) ∧ Mean (d + j + 3) 196 [.ref 140, .int (i32 (s : Int)), .int (i32 (i : Int)), .int (i32 (g : Int)), .int (i32 (to : Int))] (176, zs Z, J, RP p0 p1 p2 p3 p4 p5 p6 p7) = some (some (.long x), (176, zs Z, J, RP p0 p1 p2 p3 p4 p5 p6 p7)) := by
  have h0 := MI_n h
  intro j
  induction j with
  | zero =>
    intro i g to hi hg hto hd
    have hi' : i = qS m := by omega
    refine ⟨if 0 < g then J 162 (3 * to) else 0, fun n hn => ?_, ?_⟩
    · unfold tgB
      by_cases c : 0 < g
      · rw [if_pos c, decide_eq_true c, Bool.true_and]
      · rw [if_neg c, decide_eq_false c, Bool.false_and, gb_0]
    · rw [e_X11_together]
      by_cases c : 0 < g
      · simp (disch := omega) only [k_X11_together_0, k_X11_together_8, k_X11_together_12, k_X11_together_21, k_X11_together_24, k_X11_together_25, k_X11_together_26, k_X11_together_37, k_X11_together_51, k_X11_together_58, k_X11_together_62, k_X11_together_65, k_X11_together_75, k_X11_together_84, k_X11_together_87, k_X11_together_108, k_X11_together_113, k_X11_together_116, k_X11_together_122, k_X11_together_128, li_0, li_1, li_2, li_3, li_4, li_5, li_6, li_9, li_10, li_40, lm_1, lm_2, lm_3, lm_4, zs_ap, i32_add, i32_sub, i32_mul, i32_neg, i32_lt, i32_le, i32_eq, i32_nat, ckn, pka_r, pka_v, if_pos, if_neg, if_true, if_false, h0, show (3 * (to : Int)).toNat = 3 * to by omega]
      · simp (disch := omega) only [k_X11_together_0, k_X11_together_8, k_X11_together_12, k_X11_together_21, k_X11_together_24, k_X11_together_25, k_X11_together_26, k_X11_together_37, k_X11_together_51, k_X11_together_58, k_X11_together_62, k_X11_together_65, k_X11_together_75, k_X11_together_84, k_X11_together_87, k_X11_together_108, k_X11_together_113, k_X11_together_116, k_X11_together_122, k_X11_together_128, li_0, li_1, li_2, li_3, li_4, li_5, li_6, li_9, li_10, li_40, lm_1, lm_2, lm_3, lm_4, zs_ap, i32_add, i32_sub, i32_mul, i32_neg, i32_lt, i32_le, i32_eq, i32_nat, ckn, pka_r, pka_v, if_pos, if_neg, if_true, if_false, h0]
  | succ j ih =>
    intro i g to hi hg hto hd
    obtain ⟨x0, hx0, hm0⟩ := ih (i + 1) g to (by omega) (by omega) hto (fun k hk ho => hd k hk (by omega))
    have step : ∀ (k : Nat) (x : Int64), k < qP m → qown m k = i → ∃ x' : Int64, (∀ n : Nat, n < 64 → gb x' n = (gb x n || anyN (fun q => qmay m s k (q + 1) && tgB m s (fun u => gb (J 162 (3 * u)) n) j (i + 1) (g + 1) (to - (q + 1) * qpl m k)) 9)) ∧ den none (Mean (d + j + 3)) (some .long) tQ_X11_together (68, [some (.ref 140), some (.int (i32 (s : Int))), some (.int (i32 (i : Int))), some (.int (i32 (g : Int))), some (.int (i32 (to : Int))), some (.long x), none, some (.int (i32 (k : Int))), some (.int (i32 1))], [], 176, zs Z, J, RP p0 p1 p2 p3 p4 p5 p6 p7) = den none (Mean (d + j + 3)) (some .long) tQ_X11_together (122, [some (.ref 140), some (.int (i32 (s : Int))), some (.int (i32 (i : Int))), some (.int (i32 (g : Int))), some (.int (i32 (to : Int))), some (.long x'), none, some (.int (i32 (k : Int))), some (.int (i32 10))], [], 176, zs Z, J, RP p0 p1 p2 p3 p4 p5 p6 p7) := by
      intro k x hk hok
      have hpl := h.2.2.2.2.1 k (by omega)
      have hplb := qpl_b h.1 (k := k) (by omega)
      obtain ⟨x', v, e⟩ := up_inv (fun (q : Nat) (x : Int64) => den none (Mean (d + j + 3)) (some .long) tQ_X11_together (68, [some (.ref 140), some (.int (i32 (s : Int))), some (.int (i32 (i : Int))), some (.int (i32 (g : Int))), some (.int (i32 (to : Int))), some (.long x), none, some (.int (i32 (k : Int))), some (.int (i32 ((q + 1 : Nat) : Int)))], [], 176, zs Z, J, RP p0 p1 p2 p3 p4 p5 p6 p7)) 9 (fun q x' => ∀ n : Nat, n < 64 → gb x' n = (gb x n || anyN (fun q => qmay m s k (q + 1) && tgB m s (fun u => gb (J 162 (3 * u)) n) j (i + 1) (g + 1) (to - (q + 1) * qpl m k)) q)) (fun q x1 hq hv => by
        cases hb : qmay m s k (q + 1)
        · refine ⟨x1, fun n hn => ?_, ?_⟩
          · rw [hv n hn]
            simp only [anyN, hb, Bool.false_and, Bool.or_false]
          · rw [k_X11_together_68]
            simp (disch := omega) only [k_X11_together_0, k_X11_together_8, k_X11_together_12, k_X11_together_21, k_X11_together_24, k_X11_together_25, k_X11_together_26, k_X11_together_37, k_X11_together_51, k_X11_together_58, k_X11_together_62, k_X11_together_65, k_X11_together_75, k_X11_together_84, k_X11_together_87, k_X11_together_108, k_X11_together_113, k_X11_together_116, k_X11_together_122, k_X11_together_128, li_0, li_1, li_2, li_3, li_4, li_5, li_6, li_9, li_10, li_40, lm_1, lm_2, lm_3, lm_4, zs_ap, i32_add, i32_sub, i32_mul, i32_neg, i32_lt, i32_le, i32_eq, i32_nat, ckn, pka_r, pka_v, if_pos, if_neg, if_true, if_false, g_mayGive h, hb, bBf]
            rfl
        · have hle := may_le hb
          have hto' : (q + 1) ≤ qhas m to k := by rw [hd k hk (by omega)]; omega
          have hsub := sub_le hto'
          obtain ⟨x2, hx2, hm2⟩ := ih (i + 1) (g + 1) (to - (q + 1) * qpl m k) (by omega) (by omega) (by omega) (fun k' hk' ho' => by
            rw [has_sub hto hk hto' hk', if_neg (by intro e; subst e; omega)]
            exact hd k' hk' (by omega))
          refine ⟨x1 ||| x2, fun n hn => ?_, ?_⟩
          · rw [gb_or, hv n hn, hx2 n hn]
            simp only [anyN, hb, Bool.true_and, Bool.or_assoc]
          · have ec := sub_c hsub
            rw [k_X11_together_68]
            simp (disch := omega) only [k_X11_together_0, k_X11_together_8, k_X11_together_12, k_X11_together_21, k_X11_together_24, k_X11_together_25, k_X11_together_26, k_X11_together_37, k_X11_together_51, k_X11_together_58, k_X11_together_62, k_X11_together_65, k_X11_together_75, k_X11_together_84, k_X11_together_87, k_X11_together_108, k_X11_together_113, k_X11_together_116, k_X11_together_122, k_X11_together_128, li_0, li_1, li_2, li_3, li_4, li_5, li_6, li_9, li_10, li_40, lm_1, lm_2, lm_3, lm_4, zs_ap, i32_add, i32_sub, i32_mul, i32_neg, i32_lt, i32_le, i32_eq, i32_nat, ckn, pka_r, pka_v, if_pos, if_neg, if_true, if_false, g_mayGive h, hb, bBt, Int.toNat_natCast, hpl, ec]
            rw [show (i : Int) + 1 = ((i + 1 : Nat) : Int) by omega, show (g : Int) + 1 = ((g + 1 : Nat) : Int) by omega, hm2]
            simp (disch := omega) only [k_X11_together_0, k_X11_together_8, k_X11_together_12, k_X11_together_21, k_X11_together_24, k_X11_together_25, k_X11_together_26, k_X11_together_37, k_X11_together_51, k_X11_together_58, k_X11_together_62, k_X11_together_65, k_X11_together_75, k_X11_together_84, k_X11_together_87, k_X11_together_108, k_X11_together_113, k_X11_together_116, k_X11_together_122, k_X11_together_128, li_0, li_1, li_2, li_3, li_4, li_5, li_6, li_9, li_10, li_40, lm_1, lm_2, lm_3, lm_4, zs_ap, i32_add, i32_sub, i32_mul, i32_neg, i32_lt, i32_le, i32_eq, i32_nat, ckn, pka_r, pka_v, if_pos, if_neg, if_true, if_false]
            rfl) x (fun n hn => by simp [anyN])
      refine ⟨x', v, ?_⟩
      refine Eq.trans e ?_
      rw [k_X11_together_68]
      simp (disch := omega) only [k_X11_together_0, k_X11_together_8, k_X11_together_12, k_X11_together_21, k_X11_together_24, k_X11_together_25, k_X11_together_26, k_X11_together_37, k_X11_together_51, k_X11_together_58, k_X11_together_62, k_X11_together_65, k_X11_together_75, k_X11_together_84, k_X11_together_87, k_X11_together_108, k_X11_together_113, k_X11_together_116, k_X11_together_128, li_0, li_1, li_2, li_3, li_4, li_5, li_6, li_9, li_10, li_40, lm_1, lm_2, lm_3, lm_4, zs_ap, i32_add, i32_sub, i32_mul, i32_neg, i32_lt, i32_le, i32_eq, i32_nat, ckn, pka_r, pka_v, if_pos, if_neg, if_true, if_false]
      rfl
    obtain ⟨⟨x', o'⟩, v, e⟩ := up_inv (fun (k : Nat) (y : Int64 × Option Value) => den none (Mean (d + j + 3)) (some .long) tQ_X11_together (42, [some (.ref 140), some (.int (i32 (s : Int))), some (.int (i32 (i : Int))), some (.int (i32 (g : Int))), some (.int (i32 (to : Int))), some (.long y.1), none, some (.int (i32 (k : Int))), y.2], [], 176, zs Z, J, RP p0 p1 p2 p3 p4 p5 p6 p7)) (qP m) (fun k y => ∀ n : Nat, n < 64 → gb y.1 n = (gb x0 n || anyN (fun k => decide (qown m k = i) && anyN (fun q => qmay m s k (q + 1) && tgB m s (fun u => gb (J 162 (3 * u)) n) j (i + 1) (g + 1) (to - (q + 1) * qpl m k)) 9) k)) (fun k y hk hv => by
      have hr := (h.2.1.2.1 k hk).1
      have hw := (h.1.2.2.1 k hk).1
      by_cases c : qown m k = i
      · obtain ⟨x', h1, h2⟩ := step k y.1 hk c
        refine ⟨(x', some (.int (i32 10))), fun n hn => ?_, ?_⟩
        · rw [h1 n hn, hv n hn]
          simp only [anyN, c, decide_true, Bool.true_and, Bool.or_assoc]
        · rw [k_X11_together_42]
          simp (disch := omega) only [k_X11_together_0, k_X11_together_8, k_X11_together_12, k_X11_together_21, k_X11_together_24, k_X11_together_25, k_X11_together_26, k_X11_together_37, k_X11_together_51, k_X11_together_58, k_X11_together_62, k_X11_together_65, k_X11_together_75, k_X11_together_84, k_X11_together_87, k_X11_together_108, k_X11_together_113, k_X11_together_116, k_X11_together_122, k_X11_together_128, li_0, li_1, li_2, li_3, li_4, li_5, li_6, li_9, li_10, li_40, lm_1, lm_2, lm_3, lm_4, zs_ap, i32_add, i32_sub, i32_mul, i32_neg, i32_lt, i32_le, i32_eq, i32_nat, ckn, pka_r, pka_v, if_pos, if_neg, if_true, if_false, Int.toNat_natCast, h0, hr]
          rw [h2, k_X11_together_122]
          simp (disch := omega) only [k_X11_together_0, k_X11_together_8, k_X11_together_12, k_X11_together_21, k_X11_together_24, k_X11_together_25, k_X11_together_26, k_X11_together_37, k_X11_together_51, k_X11_together_58, k_X11_together_62, k_X11_together_65, k_X11_together_75, k_X11_together_84, k_X11_together_87, k_X11_together_108, k_X11_together_113, k_X11_together_116, k_X11_together_122, k_X11_together_128, li_0, li_1, li_2, li_3, li_4, li_5, li_6, li_9, li_10, li_40, lm_1, lm_2, lm_3, lm_4, zs_ap, i32_add, i32_sub, i32_mul, i32_neg, i32_lt, i32_le, i32_eq, i32_nat, ckn, pka_r, pka_v, if_pos, if_neg, if_true, if_false]
          rfl
      · refine ⟨y, fun n hn => ?_, ?_⟩
        · rw [hv n hn]
          simp only [anyN, decide_eq_false c, Bool.false_and, Bool.or_false]
        · rw [k_X11_together_42]
          simp (disch := omega) only [k_X11_together_0, k_X11_together_8, k_X11_together_12, k_X11_together_21, k_X11_together_24, k_X11_together_25, k_X11_together_26, k_X11_together_37, k_X11_together_51, k_X11_together_58, k_X11_together_62, k_X11_together_65, k_X11_together_75, k_X11_together_84, k_X11_together_87, k_X11_together_108, k_X11_together_113, k_X11_together_116, k_X11_together_122, k_X11_together_128, li_0, li_1, li_2, li_3, li_4, li_5, li_6, li_9, li_10, li_40, lm_1, lm_2, lm_3, lm_4, zs_ap, i32_add, i32_sub, i32_mul, i32_neg, i32_lt, i32_le, i32_eq, i32_nat, ckn, pka_r, pka_v, if_pos, if_neg, if_true, if_false, Int.toNat_natCast, h0, hr]
          rfl) (x0, none) (fun n hn => by simp [anyN])
    refine ⟨x', fun n hn => ?_, ?_⟩
    · rw [v n hn, hx0 n hn]
      rfl
    · rw [show d + (j + 1) + 3 = (d + j + 3) + 1 by omega, e_X11_together, k_X11_together_0]
      simp (disch := omega) only [k_X11_together_8, k_X11_together_12, k_X11_together_21, k_X11_together_24, k_X11_together_25, k_X11_together_26, k_X11_together_37, k_X11_together_51, k_X11_together_58, k_X11_together_62, k_X11_together_65, k_X11_together_75, k_X11_together_84, k_X11_together_87, k_X11_together_108, k_X11_together_113, k_X11_together_116, k_X11_together_122, k_X11_together_128, li_0, li_1, li_2, li_3, li_4, li_5, li_6, li_9, li_10, li_40, lm_1, lm_2, lm_3, lm_4, zs_ap, i32_add, i32_sub, i32_mul, i32_neg, i32_lt, i32_le, i32_eq, i32_nat, ckn, pka_r, pka_v, if_pos, if_neg, if_true, if_false, h0]
      rw [show (i : Int) + 1 = ((i + 1 : Nat) : Int) by omega, hm0]
      simp (disch := omega) only [k_X11_together_8, k_X11_together_12, k_X11_together_21, k_X11_together_24, k_X11_together_25, k_X11_together_26, k_X11_together_37, k_X11_together_51, k_X11_together_58, k_X11_together_62, k_X11_together_65, k_X11_together_75, k_X11_together_84, k_X11_together_87, k_X11_together_108, k_X11_together_113, k_X11_together_116, k_X11_together_122, k_X11_together_128, li_0, li_1, li_2, li_3, li_4, li_5, li_6, li_9, li_10, li_40, lm_1, lm_2, lm_3, lm_4, zs_ap, i32_add, i32_sub, i32_mul, i32_neg, i32_lt, i32_le, i32_eq, i32_nat, ckn, pka_r, pka_v, if_pos, if_neg, if_true, if_false]
      refine Eq.trans e ?_
      rw [k_X11_together_42]
      simp (disch := omega) only [k_X11_together_8, k_X11_together_12, k_X11_together_21, k_X11_together_24, k_X11_together_25, k_X11_together_26, k_X11_together_37, k_X11_together_51, k_X11_together_58, k_X11_together_62, k_X11_together_65, k_X11_together_75, k_X11_together_84, k_X11_together_87, k_X11_together_108, k_X11_together_113, k_X11_together_116, k_X11_together_122, k_X11_together_128, li_0, li_1, li_2, li_3, li_4, li_5, li_6, li_9, li_10, li_40, lm_1, lm_2, lm_3, lm_4, zs_ap, i32_add, i32_sub, i32_mul, i32_neg, i32_lt, i32_le, i32_eq, i32_nat, ckn, pka_r, pka_v, if_pos, if_neg, if_true, if_false, h0]
end
