/-! THE CLASS'S Rows: layTurns -/
theorem gb_shlw {c n : Nat} (x : Int64) (hc : c < 64) (hn : n < 64) : gb (x <<< ((i32 (c : Int)).toInt64 &&& 63)) n = (decide (c ≤ n) && gb x (n - c)) := gb_shl x hc hn
theorem pow2_le : ∀ r : Nat, r < 6 → 2 ^ r ≤ 32 ∧ 2 ^ (r + 1) = 2 * 2 ^ r ∧ 1 ≤ 2 ^ r := by decide
section
variable {d : Nat} {J : Nat → Nat → Int64} {Z : Nat → Nat → Int} {p0 p1 p2 p5 p6 p7 : Nat} {m : Mat} {b : Nat → Int}
theorem lt_1_a (hw : wf m) (h0 : qmode m = 0) {s : Nat} (hf : s ≠ qfin m) (hg : GT m b s (J 50)) {st : Int64} (hst : ∀ n : Nat, n < 64 → gb st n = sty m b s n) (o6 o7 o8 : Option Value) : ∃ J' : Nat → Nat → Int64, (∀ a : Nat, a ≠ 50 → J' a = J a) ∧ (∀ t n : Nat, t < qS m → n < 64 → (gb (J' 50 t) n = true ↔ Ut m b s 1 t n)) ∧ den none (Mean d) none tQ_X6_layTurns (12, [some (.ref 43), some (.int (i32 (s : Int))), some (.long st), none, some (.int (i32 ((qS m : Nat) : Int))), some (.int (i32 ((0 : Nat) : Int))), o6, o7, o8], [], 176, zs Z, J, RP p0 p1 p2 35 p2 p5 p6 p7) = den none (Mean d) none tQ_X6_layTurns (43, [some (.ref 43), some (.int (i32 (s : Int))), some (.long st), none, some (.int (i32 ((qS m : Nat) : Int))), some (.int (i32 ((qS m : Nat) : Int))), o6, o7, o8], [], 176, zs Z, J', RP p0 p1 p2 35 p2 p5 p6 p7) := by
  have hS := hw.1
  obtain ⟨J', ⟨v1, v2, v3⟩, e⟩ := up_inv (fun (t : Nat) (J : Nat → Nat → Int64) => den none (Mean d) none tQ_X6_layTurns (12, [some (.ref 43), some (.int (i32 (s : Int))), some (.long st), none, some (.int (i32 ((qS m : Nat) : Int))), some (.int (i32 (t : Int))), o6, o7, o8], [], 176, zs Z, J, RP p0 p1 p2 35 p2 p5 p6 p7)) (qS m) (fun t J' => (∀ a : Nat, a ≠ 50 → J' a = J a) ∧ (∀ u : Nat, t ≤ u → J' 50 u = J 50 u) ∧ ∀ u n : Nat, u < t → n < 64 → gb (J' 50 u) n = Bt m b s u n) (fun t J' ht hv => by
    obtain ⟨v1, v2, v3⟩ := hv
    refine ⟨u2 J' 50 t ((J' 50 t <<< ((1 : Int32).toInt64 &&& 63)) &&& st), ⟨fun a ha => (u2_ne ha).trans (v1 a ha), fun u hu => (u2f (by omega)).trans (v2 u (by omega)), fun u n hu hn => ?_⟩, ?_⟩
    · by_cases cu : u = t
      · subst cu
        rw [u2s, gb_and, gb_shl1 _ hn, hst n hn, v2 u (Nat.le_refl _)]
        unfold Bt
        cases n with
        | zero => simp [sty]
        | succ n =>
          rw [Nat.add_sub_cancel, hg u n (by omega) (by omega)]
          have e1 : (fun v => LB m b (lbh m u) v n) = fun v => sf m b n v ((u + 1) % qS m) := by
            funext v
            unfold LB lbh
            rw [if_neg (by omega), if_pos h0]
          rw [e1]
          simp [Bool.and_comm]
      · rw [u2f cu]
        exact v3 u n (by omega) hn
    · show den none (Mean d) none tQ_X6_layTurns (12, _, [], 176, zs Z, J', _) = _
      rw [k_X6_layTurns_12_a]
      simp (disch := omega) only [k_X6_layTurns_19_a, k_X6_layTurns_32_a, k_X6_layTurns_37_a, li_0, li_1, i32_le, i32_lt, i32_nat, i32_add, ckn, if_neg, Int.toNat_natCast]
      rfl) J ⟨fun _ _ => rfl, fun _ _ => rfl, fun u n hu => by omega⟩
  refine ⟨J', v1, fun t n ht hn => ?_, e.trans ?_⟩
  · rw [v3 t n ht hn, Ut_1 hw ht]
  · show den none (Mean d) none tQ_X6_layTurns (12, _, [], 176, zs Z, J', _) = _
    rw [k_X6_layTurns_12_a]
    simp (disch := omega) only [k_X6_layTurns_0_a, k_X6_layTurns_19_a, k_X6_layTurns_32_a, k_X6_layTurns_37_a, k_X6_layTurns_53_a, k_X6_layTurns_58_a, k_X6_layTurns_63_a, k_X6_layTurns_66_a, k_X6_layTurns_67_a, k_X6_layTurns_79_a, k_X6_layTurns_89_a, k_X6_layTurns_97_a, k_X6_layTurns_105_a, k_X6_layTurns_114_a, k_X6_layTurns_122_a, k_X6_layTurns_129_a, k_X6_layTurns_136_a, k_X6_layTurns_142_a, k_X6_layTurns_152_a, k_X6_layTurns_165_a, k_X6_layTurns_167_a, k_X6_layTurns_168_a, k_X6_layTurns_174_a, k_X6_layTurns_183_a, li_0, li_1, li_2, li_3, li_4, li_5, li_6, li_9, li_10, li_40, lm_1, lm_2, lm_3, lm_4, zs_ap, i32_add, i32_sub, i32_mul, i32_neg, i32_lt, i32_le, i32_eq, i32_nat, ckn, pka_r, pka_v, if_pos, if_neg, if_true, if_false]
theorem lt_2_a (hw : wf m) {s : Nat} (hs : s < qN m) {c : Nat} (hc : 1 ≤ c ∧ c ≤ 32) (hg : ∀ t n : Nat, t < qS m → n < 64 → (gb (J 50 t) n = true ↔ Ut m b s c t n)) {st : Int64} (hst : ∀ n : Nat, n < 64 → gb st n = sty m b s n) (o6 o7 o8 : Option Value) : ∃ (J' : Nat → Nat → Int64) (o6' o7' o8' : Option Value), (∀ a : Nat, (a < 45 ∨ 47 < a) → a ≠ 50 → J' a = J a) ∧ (∀ a x : Nat, a ≠ 50 → x ≠ s → J' a x = J a x) ∧ (∀ t n : Nat, t < qS m → n < 64 → (gb (J' 50 t) n = true ↔ Ut m b s (2 * c) t n)) ∧ (∀ t : Nat, t < qS m → J' (45 + t) s = J' 50 t) ∧ den none (Mean d) none tQ_X6_layTurns (46, [some (.ref 43), some (.int (i32 (s : Int))), some (.long st), none, some (.int (i32 ((qS m : Nat) : Int))), some (.int (i32 (c : Int))), o6, o7, o8], [], 176, zs Z, J, RP p0 p1 p2 35 p2 p5 p6 p7) = den none (Mean d) none tQ_X6_layTurns (46, [some (.ref 43), some (.int (i32 (s : Int))), some (.long st), none, some (.int (i32 ((qS m : Nat) : Int))), some (.int (i32 ((2 * c : Nat) : Int))), o6', o7', o8'], [], 176, zs Z, J', RP p0 p1 p2 35 p2 p5 p6 p7) := by
  have hS := hw.1
  have hN := qpl_b hw (k := qP m) (Nat.le_refl _)
  have hN' : qN m = qpl m (qP m) := rfl
  have erem := rem_q (a := c) (S := qS m) (by omega) (by omega) (by omega)
  have hah : c % qS m < qS m := Nat.mod_lt _ (by omega)
  obtain ⟨⟨J1, o8a⟩, ⟨v1, v2, v3⟩, e1⟩ := up_inv (fun (t : Nat) (y : (Nat → Nat → Int64) × Option Value) => den none (Mean d) none tQ_X6_layTurns (72, [some (.ref 43), some (.int (i32 (s : Int))), some (.long st), none, some (.int (i32 ((qS m : Nat) : Int))), some (.int (i32 (c : Int))), some (.int (i32 ((c % qS m : Nat) : Int))), some (.int (i32 (t : Int))), y.2], [], 176, zs Z, y.1, RP p0 p1 p2 35 p2 p5 p6 p7)) (qS m) (fun t y => (∀ a : Nat, (a < 45 ∨ 47 < a) → y.1 a = J a) ∧ (∀ a x : Nat, x ≠ s → y.1 a x = J a x) ∧ ∀ u n : Nat, u < t → n < 64 → (gb (y.1 (45 + u) s) n = true ↔ Ut m b s (2 * c) u n)) (fun t y ht hv => by
    obtain ⟨J1, o8⟩ := y
    obtain ⟨v1, v2, v3⟩ := hv
    simp only at v1 v2 v3
    obtain ⟨r1, r2⟩ := RPl (p0 := p0) (p1 := p1) (p2 := p2) (p3 := 35) (p4 := p2) (p5 := p5) (p6 := p6) (p7 := p7) (q := 43) (by omega) (show t < 3 by omega)
    have r1' : RP p0 p1 p2 35 p2 p5 p6 p7 44 t = some (45 + t) := r1
    have r2' : pshn (45 + t) = some (.inl (.long, 400)) := r2
    have hlt : (t + c) % qS m < qS m := Nat.mod_lt _ (by omega)
    have eg : J1 50 = J 50 := v1 _ (by omega)
    have hlater : den none (Mean d) none tQ_X6_layTurns (72, [some (.ref 43), some (.int (i32 (s : Int))), some (.long st), none, some (.int (i32 ((qS m : Nat) : Int))), some (.int (i32 (c : Int))), some (.int (i32 ((c % qS m : Nat) : Int))), some (.int (i32 (t : Int))), o8], [], 176, zs Z, J1, RP p0 p1 p2 35 p2 p5 p6 p7) = den none (Mean d) none tQ_X6_layTurns (105, [some (.ref 43), some (.int (i32 (s : Int))), some (.long st), none, some (.int (i32 ((qS m : Nat) : Int))), some (.int (i32 (c : Int))), some (.int (i32 ((c % qS m : Nat) : Int))), some (.int (i32 (t : Int))), o8], [.int (i32 (((t + c) % qS m : Nat) : Int))], 176, zs Z, J1, RP p0 p1 p2 35 p2 p5 p6 p7) := by
      have em : (t + c) % qS m = if t + c % qS m < qS m then t + c % qS m else t + c % qS m - qS m := by
        rw [Nat.add_mod, Nat.mod_eq_of_lt ht]
        split
        · next h => exact Nat.mod_eq_of_lt h
        · next h =>
          rw [Nat.mod_eq_sub_mod (by omega), Nat.mod_eq_of_lt (by omega)]
      rw [k_X6_layTurns_72_a, em]
      by_cases cm : t + c % qS m < qS m
      · rw [if_pos cm]
        simp (disch := omega) only [k_X6_layTurns_0_a, k_X6_layTurns_19_a, k_X6_layTurns_32_a, k_X6_layTurns_37_a, k_X6_layTurns_43_a, k_X6_layTurns_53_a, k_X6_layTurns_58_a, k_X6_layTurns_63_a, k_X6_layTurns_66_a, k_X6_layTurns_67_a, k_X6_layTurns_79_a, k_X6_layTurns_89_a, k_X6_layTurns_97_a, k_X6_layTurns_114_a, k_X6_layTurns_122_a, k_X6_layTurns_129_a, k_X6_layTurns_136_a, k_X6_layTurns_142_a, k_X6_layTurns_152_a, k_X6_layTurns_165_a, k_X6_layTurns_167_a, k_X6_layTurns_168_a, k_X6_layTurns_174_a, k_X6_layTurns_183_a, li_0, li_1, li_2, li_3, li_4, li_5, li_6, li_9, li_10, li_40, lm_1, lm_2, lm_3, lm_4, zs_ap, i32_add, i32_sub, i32_mul, i32_neg, i32_lt, i32_le, i32_eq, i32_nat, ckn, pka_r, pka_v, if_pos, if_neg, if_true, if_false]
        rfl
      · rw [if_neg cm]
        simp (disch := omega) only [k_X6_layTurns_0_a, k_X6_layTurns_19_a, k_X6_layTurns_32_a, k_X6_layTurns_37_a, k_X6_layTurns_43_a, k_X6_layTurns_53_a, k_X6_layTurns_58_a, k_X6_layTurns_63_a, k_X6_layTurns_66_a, k_X6_layTurns_67_a, k_X6_layTurns_79_a, k_X6_layTurns_89_a, k_X6_layTurns_97_a, k_X6_layTurns_114_a, k_X6_layTurns_122_a, k_X6_layTurns_129_a, k_X6_layTurns_136_a, k_X6_layTurns_142_a, k_X6_layTurns_152_a, k_X6_layTurns_165_a, k_X6_layTurns_167_a, k_X6_layTurns_168_a, k_X6_layTurns_174_a, k_X6_layTurns_183_a, li_0, li_1, li_2, li_3, li_4, li_5, li_6, li_9, li_10, li_40, lm_1, lm_2, lm_3, lm_4, zs_ap, i32_add, i32_sub, i32_mul, i32_neg, i32_lt, i32_le, i32_eq, i32_nat, ckn, pka_r, pka_v, if_pos, if_neg, if_true, if_false]
        rw [show (t : Int) + ((c % qS m : Nat) : Int) - ((qS m : Nat) : Int) = ((t + c % qS m - qS m : Nat) : Int) by omega]
    refine ⟨(u2 J1 (45 + t) s (J 50 t ||| ((J 50 ((t + c) % qS m) <<< ((i32 (c : Int)).toInt64 &&& 63)) &&& st)), some (.int (i32 (((t + c) % qS m : Nat) : Int)))), ⟨fun a ha => (u2_ne (by omega)).trans (v1 a ha), fun a x hx => ?_, fun u n hu hn => ?_⟩, ?_⟩
    · dsimp only
      by_cases ca : a = 45 + t
      · rw [ca, u2f hx]
        exact v2 _ x hx
      · rw [u2_ne ca]
        exact v2 a x hx
    · dsimp only
      by_cases cu : u = t
      · subst cu
        rw [u2s, gb_or, gb_and, gb_shlw _ (by omega) hn, hst n hn, Ut_2 hw, Bool.or_eq_true, Bool.and_eq_true, Bool.and_eq_true, decide_eq_true_iff, hg u n ht hn, and_assoc]
        constructor
        · intro h
          rcases h with h | ⟨h1, h2, h3⟩
          · exact Or.inl h
          · exact Or.inr ⟨h1, (hg _ _ hlt (by omega)).mp h2, h3⟩
        · intro h
          rcases h with h | ⟨h1, h2, h3⟩
          · exact Or.inl h
          · exact Or.inr ⟨h1, (hg _ _ hlt (by omega)).mpr h2, h3⟩
      · rw [u2_ne (by omega)]
        exact v3 u n (by omega) hn
    · show den none (Mean d) none tQ_X6_layTurns (72, [some (.ref 43), some (.int (i32 (s : Int))), some (.long st), none, some (.int (i32 ((qS m : Nat) : Int))), some (.int (i32 (c : Int))), some (.int (i32 ((c % qS m : Nat) : Int))), some (.int (i32 (t : Int))), o8], [], 176, zs Z, J1, RP p0 p1 p2 35 p2 p5 p6 p7) = _
      rw [hlater, k_X6_layTurns_105_a]
      simp (disch := first | omega | assumption) only [k_X6_layTurns_114_a, k_X6_layTurns_122_a, k_X6_layTurns_129_a, k_X6_layTurns_136_a, r1', va_rf, li_0, li_1, i32_lt, i32_nat, i32_add, ckn, Int.toNat_natCast, eg]
      rfl) (J, o8) ⟨fun _ _ => rfl, fun _ _ _ => rfl, fun u n hu => by omega⟩
  simp only at v1 v2 v3 e1
  obtain ⟨J2, ⟨w1, w2, w3⟩, e2⟩ := up_inv (fun (t : Nat) (J : Nat → Nat → Int64) => den none (Mean d) none tQ_X6_layTurns (145, [some (.ref 43), some (.int (i32 (s : Int))), some (.long st), none, some (.int (i32 ((qS m : Nat) : Int))), some (.int (i32 (c : Int))), some (.int (i32 ((c % qS m : Nat) : Int))), some (.int (i32 (t : Int))), o8a], [], 176, zs Z, J, RP p0 p1 p2 35 p2 p5 p6 p7)) (qS m) (fun t J' => (∀ a : Nat, a ≠ 50 → J' a = J1 a) ∧ (∀ u : Nat, u < t → J' 50 u = J1 (45 + u) s) ∧ True) (fun t J' ht hv => by
    obtain ⟨v1', v2', _⟩ := hv
    obtain ⟨r1, r2⟩ := RPl (p0 := p0) (p1 := p1) (p2 := p2) (p3 := 35) (p4 := p2) (p5 := p5) (p6 := p6) (p7 := p7) (q := 43) (by omega) (show t < 3 by omega)
    have r1' : RP p0 p1 p2 35 p2 p5 p6 p7 44 t = some (45 + t) := r1
    have r2' : pshn (45 + t) = some (.inl (.long, 400)) := r2
    have eg : J' (45 + t) = J1 (45 + t) := v1' _ (by omega)
    refine ⟨u2 J' 50 t (J1 (45 + t) s), ⟨fun a ha => (u2_ne ha).trans (v1' a ha), fun u hu => ?_, trivial⟩, ?_⟩
    · by_cases cu : u = t
      · rw [cu, u2s]
      · rw [u2f cu]
        exact v2' u (by omega)
    · show den none (Mean d) none tQ_X6_layTurns (145, _, [], 176, zs Z, J', _) = _
      rw [k_X6_layTurns_145_a]
      simp (disch := first | omega | assumption) only [k_X6_layTurns_152_a, k_X6_layTurns_165_a, k_X6_layTurns_167_a, k_X6_layTurns_168_a, r1', va_rf, li_0, li_1, i32_le, i32_lt, i32_nat, i32_add, ckn, if_neg, Int.toNat_natCast, eg]
      rfl) J1 ⟨fun _ _ => rfl, fun u hu => by omega, trivial⟩
  refine ⟨J2, some (.int (i32 ((c % qS m : Nat) : Int))), some (.int (i32 ((qS m : Nat) : Int))), o8a, fun a h1 h2 => (w1 a h2).trans (v1 a h1), fun a x h1 h2 => (congrFun (w1 a h1) x).trans (v2 a x h2), fun t n ht hn => ?_, fun t ht => ?_, ?_⟩
  · rw [w2 t ht]
    exact v3 t n ht hn
  · rw [w2 t ht, w1 _ (by omega)]
  · have e0 : den none (Mean d) none tQ_X6_layTurns (46, [some (.ref 43), some (.int (i32 (s : Int))), some (.long st), none, some (.int (i32 ((qS m : Nat) : Int))), some (.int (i32 (c : Int))), o6, o7, o8], [], 176, zs Z, J, RP p0 p1 p2 35 p2 p5 p6 p7) = den none (Mean d) none tQ_X6_layTurns (72, [some (.ref 43), some (.int (i32 (s : Int))), some (.long st), none, some (.int (i32 ((qS m : Nat) : Int))), some (.int (i32 (c : Int))), some (.int (i32 ((c % qS m : Nat) : Int))), some (.int (i32 ((0 : Nat) : Int))), o8], [], 176, zs Z, J, RP p0 p1 p2 35 p2 p5 p6 p7) := by
      rw [k_X6_layTurns_46_a]
      simp (disch := omega) only [k_X6_layTurns_53_a, k_X6_layTurns_58_a, k_X6_layTurns_63_a, k_X6_layTurns_67_a, li_0, li_40, i32_le, i32_lt, i32_eq, if_neg, erem]
      rfl
    rw [e0]
    refine Eq.trans e1 ?_
    show den none (Mean d) none tQ_X6_layTurns (72, _, [], 176, zs Z, J1, _) = _
    rw [k_X6_layTurns_72_a]
    simp (disch := omega) only [i32_le, if_pos, k_X6_layTurns_142_a]
    refine Eq.trans e2 ?_
    show den none (Mean d) none tQ_X6_layTurns (145, _, [], 176, zs Z, J2, _) = _
    rw [k_X6_layTurns_145_a]
    simp (disch := omega) only [i32_le, if_pos, k_X6_layTurns_174_a, li_2, i32_mul]
    rw [show (c : Int) * 2 = ((2 * c : Nat) : Int) by omega]
theorem h_layTurns_a (hp : p2 = 5 ∨ p2 = 20) (hw : wf m) (h0 : qmode m = 0) (hm : KM m p2 Z) {s : Nat} (hs : s < qN m) (hf : s ≠ qfin m) (hg : GT m b s (J 50)) {st : Int64} (hst : ∀ n : Nat, n < 64 → gb st n = sty m b s n) : ∃ J' : Nat → Nat → Int64, (∀ a : Nat, (a < 45 ∨ 47 < a) → a ≠ 50 → J' a = J a) ∧ (∀ a x : Nat, a ≠ 50 → x ≠ s → J' a x = J a x) ∧ (∀ t n : Nat, t < qS m → n < 64 → gb (J' (45 + t) s) n = sf m b n s t) ∧ Mean (d + 1) 72 [.ref 43, .int (i32 (s : Int)), .long st] (176, zs Z, J, RP p0 p1 p2 35 p2 p5 p6 p7) = some (none, (176, zs Z, J', RP p0 p1 p2 35 p2 p5 p6 p7)) := by
  have hS := hw.1
  have z1 : Z p2 1 = (qS m : Int) := hm.1.1
  obtain ⟨J1, a1, a2, a3⟩ := lt_1_a (d := d) (Z := Z) (p0 := p0) (p1 := p1) (p2 := p2) (p5 := p5) (p6 := p6) (p7 := p7) hw h0 hf hg hst none none none
  obtain ⟨y, ⟨v1, v2, v3, v4⟩, e⟩ := up_inv (fun (r : Nat) (y : (Nat → Nat → Int64) × Option Value × Option Value × Option Value) => den none (Mean d) none tQ_X6_layTurns (46, [some (.ref 43), some (.int (i32 (s : Int))), some (.long st), none, some (.int (i32 ((qS m : Nat) : Int))), some (.int (i32 ((2 ^ r : Nat) : Int))), y.2.1, y.2.2.1, y.2.2.2], [], 176, zs Z, y.1, RP p0 p1 p2 35 p2 p5 p6 p7)) 6 (fun r y => (∀ a : Nat, (a < 45 ∨ 47 < a) → a ≠ 50 → y.1 a = J a) ∧ (∀ a x : Nat, a ≠ 50 → x ≠ s → y.1 a x = J a x) ∧ (∀ t n : Nat, t < qS m → n < 64 → (gb (y.1 50 t) n = true ↔ Ut m b s (2 ^ r) t n)) ∧ (1 ≤ r → ∀ t : Nat, t < qS m → y.1 (45 + t) s = y.1 50 t)) (fun r y hr hv => by
    obtain ⟨J2, o6, o7, o8⟩ := y
    obtain ⟨v1, v2, v3, v4⟩ := hv
    simp only at v1 v2 v3 v4
    obtain ⟨q1, q2, q3⟩ := pow2_le r hr
    obtain ⟨J3, o6', o7', o8', b1, b2, b3, b4, b5⟩ := lt_2_a (d := d) (Z := Z) (p0 := p0) (p1 := p1) (p2 := p2) (p5 := p5) (p6 := p6) (p7 := p7) hw hs (c := 2 ^ r) ⟨q3, q1⟩ v3 hst o6 o7 o8
    refine ⟨(J3, o6', o7', o8'), ⟨fun a h1 h2 => (b1 a h1 h2).trans (v1 a h1 h2), fun a x h1 h2 => (b2 a x h1 h2).trans (v2 a x h1 h2), fun t n ht hn => ?_, fun _ => b4⟩, ?_⟩
    · rw [q2]
      exact b3 t n ht hn
    · dsimp only
      rw [b5, q2]) (J1, none, none, none) ⟨fun a h1 h2 => a1 a h2, fun a x h1 h2 => congrFun (a1 a h1) x, a2, fun h => by omega⟩
  obtain ⟨J2, o6, o7, o8⟩ := y
  simp only at v1 v2 v3 v4 e
  refine ⟨J2, v1, v2, fun t n ht hn => ?_, ?_⟩
  · rw [v4 (by decide) t ht]
    apply beq_iff
    rw [v3 t n ht hn]
    exact Ut_sf hw h0 hf n t ht
  · rw [e_X6_layTurns, k_X6_layTurns_0_a (hv_p4 := by omega)]
    simp only [zs_ap, z1]
    refine Eq.trans a3 ?_
    rw [k_X6_layTurns_43_a]
    refine Eq.trans e ?_
    rw [show ((2 ^ 6 : Nat) : Int) = 64 from rfl, k_X6_layTurns_46_a]
    simp (disch := omega) only [li_40, i32_lt, if_pos, k_X6_layTurns_183_a]
end
section
variable {d : Nat} {J : Nat → Nat → Int64} {Z : Nat → Nat → Int} {p0 p1 p2 p3 p4 p7 : Nat} {m : Mat} {b : Nat → Int}
theorem lt_1_b (hw : wf m) (h0 : qmode m = 0) {s : Nat} (hf : s ≠ qfin m) (hg : GT m b s (J 119)) {st : Int64} (hst : ∀ n : Nat, n < 64 → gb st n = sty m b s n) (o6 o7 o8 : Option Value) : ∃ J' : Nat → Nat → Int64, (∀ a : Nat, a ≠ 119 → J' a = J a) ∧ (∀ t n : Nat, t < qS m → n < 64 → (gb (J' 119 t) n = true ↔ Ut m b s 1 t n)) ∧ den none (Mean d) none tQ_X6_layTurns (12, [some (.ref 112), some (.int (i32 (s : Int))), some (.long st), none, some (.int (i32 ((qS m : Nat) : Int))), some (.int (i32 ((0 : Nat) : Int))), o6, o7, o8], [], 176, zs Z, J, RP p0 p1 p2 p3 p4 35 p2 p7) = den none (Mean d) none tQ_X6_layTurns (43, [some (.ref 112), some (.int (i32 (s : Int))), some (.long st), none, some (.int (i32 ((qS m : Nat) : Int))), some (.int (i32 ((qS m : Nat) : Int))), o6, o7, o8], [], 176, zs Z, J', RP p0 p1 p2 p3 p4 35 p2 p7) := by
  have hS := hw.1
  obtain ⟨J', ⟨v1, v2, v3⟩, e⟩ := up_inv (fun (t : Nat) (J : Nat → Nat → Int64) => den none (Mean d) none tQ_X6_layTurns (12, [some (.ref 112), some (.int (i32 (s : Int))), some (.long st), none, some (.int (i32 ((qS m : Nat) : Int))), some (.int (i32 (t : Int))), o6, o7, o8], [], 176, zs Z, J, RP p0 p1 p2 p3 p4 35 p2 p7)) (qS m) (fun t J' => (∀ a : Nat, a ≠ 119 → J' a = J a) ∧ (∀ u : Nat, t ≤ u → J' 119 u = J 119 u) ∧ ∀ u n : Nat, u < t → n < 64 → gb (J' 119 u) n = Bt m b s u n) (fun t J' ht hv => by
    obtain ⟨v1, v2, v3⟩ := hv
    refine ⟨u2 J' 119 t ((J' 119 t <<< ((1 : Int32).toInt64 &&& 63)) &&& st), ⟨fun a ha => (u2_ne ha).trans (v1 a ha), fun u hu => (u2f (by omega)).trans (v2 u (by omega)), fun u n hu hn => ?_⟩, ?_⟩
    · by_cases cu : u = t
      · subst cu
        rw [u2s, gb_and, gb_shl1 _ hn, hst n hn, v2 u (Nat.le_refl _)]
        unfold Bt
        cases n with
        | zero => simp [sty]
        | succ n =>
          rw [Nat.add_sub_cancel, hg u n (by omega) (by omega)]
          have e1 : (fun v => LB m b (lbh m u) v n) = fun v => sf m b n v ((u + 1) % qS m) := by
            funext v
            unfold LB lbh
            rw [if_neg (by omega), if_pos h0]
          rw [e1]
          simp [Bool.and_comm]
      · rw [u2f cu]
        exact v3 u n (by omega) hn
    · show den none (Mean d) none tQ_X6_layTurns (12, _, [], 176, zs Z, J', _) = _
      rw [k_X6_layTurns_12_b]
      simp (disch := omega) only [k_X6_layTurns_19_b, k_X6_layTurns_32_b, k_X6_layTurns_37_b, li_0, li_1, i32_le, i32_lt, i32_nat, i32_add, ckn, if_neg, Int.toNat_natCast]
      rfl) J ⟨fun _ _ => rfl, fun _ _ => rfl, fun u n hu => by omega⟩
  refine ⟨J', v1, fun t n ht hn => ?_, e.trans ?_⟩
  · rw [v3 t n ht hn, Ut_1 hw ht]
  · show den none (Mean d) none tQ_X6_layTurns (12, _, [], 176, zs Z, J', _) = _
    rw [k_X6_layTurns_12_b]
    simp (disch := omega) only [k_X6_layTurns_0_b, k_X6_layTurns_19_b, k_X6_layTurns_32_b, k_X6_layTurns_37_b, k_X6_layTurns_53_b, k_X6_layTurns_58_b, k_X6_layTurns_63_b, k_X6_layTurns_66_b, k_X6_layTurns_67_b, k_X6_layTurns_79_b, k_X6_layTurns_89_b, k_X6_layTurns_97_b, k_X6_layTurns_105_b, k_X6_layTurns_114_b, k_X6_layTurns_122_b, k_X6_layTurns_129_b, k_X6_layTurns_136_b, k_X6_layTurns_142_b, k_X6_layTurns_152_b, k_X6_layTurns_165_b, k_X6_layTurns_167_b, k_X6_layTurns_168_b, k_X6_layTurns_174_b, k_X6_layTurns_183_b, li_0, li_1, li_2, li_3, li_4, li_5, li_6, li_9, li_10, li_40, lm_1, lm_2, lm_3, lm_4, zs_ap, i32_add, i32_sub, i32_mul, i32_neg, i32_lt, i32_le, i32_eq, i32_nat, ckn, pka_r, pka_v, if_pos, if_neg, if_true, if_false]
theorem lt_2_b (hw : wf m) {s : Nat} (hs : s < qN m) {c : Nat} (hc : 1 ≤ c ∧ c ≤ 32) (hg : ∀ t n : Nat, t < qS m → n < 64 → (gb (J 119 t) n = true ↔ Ut m b s c t n)) {st : Int64} (hst : ∀ n : Nat, n < 64 → gb st n = sty m b s n) (o6 o7 o8 : Option Value) : ∃ (J' : Nat → Nat → Int64) (o6' o7' o8' : Option Value), (∀ a : Nat, (a < 114 ∨ 116 < a) → a ≠ 119 → J' a = J a) ∧ (∀ a x : Nat, a ≠ 119 → x ≠ s → J' a x = J a x) ∧ (∀ t n : Nat, t < qS m → n < 64 → (gb (J' 119 t) n = true ↔ Ut m b s (2 * c) t n)) ∧ (∀ t : Nat, t < qS m → J' (114 + t) s = J' 119 t) ∧ den none (Mean d) none tQ_X6_layTurns (46, [some (.ref 112), some (.int (i32 (s : Int))), some (.long st), none, some (.int (i32 ((qS m : Nat) : Int))), some (.int (i32 (c : Int))), o6, o7, o8], [], 176, zs Z, J, RP p0 p1 p2 p3 p4 35 p2 p7) = den none (Mean d) none tQ_X6_layTurns (46, [some (.ref 112), some (.int (i32 (s : Int))), some (.long st), none, some (.int (i32 ((qS m : Nat) : Int))), some (.int (i32 ((2 * c : Nat) : Int))), o6', o7', o8'], [], 176, zs Z, J', RP p0 p1 p2 p3 p4 35 p2 p7) := by
  have hS := hw.1
  have hN := qpl_b hw (k := qP m) (Nat.le_refl _)
  have hN' : qN m = qpl m (qP m) := rfl
  have erem := rem_q (a := c) (S := qS m) (by omega) (by omega) (by omega)
  have hah : c % qS m < qS m := Nat.mod_lt _ (by omega)
  obtain ⟨⟨J1, o8a⟩, ⟨v1, v2, v3⟩, e1⟩ := up_inv (fun (t : Nat) (y : (Nat → Nat → Int64) × Option Value) => den none (Mean d) none tQ_X6_layTurns (72, [some (.ref 112), some (.int (i32 (s : Int))), some (.long st), none, some (.int (i32 ((qS m : Nat) : Int))), some (.int (i32 (c : Int))), some (.int (i32 ((c % qS m : Nat) : Int))), some (.int (i32 (t : Int))), y.2], [], 176, zs Z, y.1, RP p0 p1 p2 p3 p4 35 p2 p7)) (qS m) (fun t y => (∀ a : Nat, (a < 114 ∨ 116 < a) → y.1 a = J a) ∧ (∀ a x : Nat, x ≠ s → y.1 a x = J a x) ∧ ∀ u n : Nat, u < t → n < 64 → (gb (y.1 (114 + u) s) n = true ↔ Ut m b s (2 * c) u n)) (fun t y ht hv => by
    obtain ⟨J1, o8⟩ := y
    obtain ⟨v1, v2, v3⟩ := hv
    simp only at v1 v2 v3
    obtain ⟨r1, r2⟩ := RPl (p0 := p0) (p1 := p1) (p2 := p2) (p3 := p3) (p4 := p4) (p5 := 35) (p6 := p2) (p7 := p7) (q := 112) (by omega) (show t < 3 by omega)
    have r1' : RP p0 p1 p2 p3 p4 35 p2 p7 113 t = some (114 + t) := r1
    have r2' : pshn (114 + t) = some (.inl (.long, 400)) := r2
    have hlt : (t + c) % qS m < qS m := Nat.mod_lt _ (by omega)
    have eg : J1 119 = J 119 := v1 _ (by omega)
    have hlater : den none (Mean d) none tQ_X6_layTurns (72, [some (.ref 112), some (.int (i32 (s : Int))), some (.long st), none, some (.int (i32 ((qS m : Nat) : Int))), some (.int (i32 (c : Int))), some (.int (i32 ((c % qS m : Nat) : Int))), some (.int (i32 (t : Int))), o8], [], 176, zs Z, J1, RP p0 p1 p2 p3 p4 35 p2 p7) = den none (Mean d) none tQ_X6_layTurns (105, [some (.ref 112), some (.int (i32 (s : Int))), some (.long st), none, some (.int (i32 ((qS m : Nat) : Int))), some (.int (i32 (c : Int))), some (.int (i32 ((c % qS m : Nat) : Int))), some (.int (i32 (t : Int))), o8], [.int (i32 (((t + c) % qS m : Nat) : Int))], 176, zs Z, J1, RP p0 p1 p2 p3 p4 35 p2 p7) := by
      have em : (t + c) % qS m = if t + c % qS m < qS m then t + c % qS m else t + c % qS m - qS m := by
        rw [Nat.add_mod, Nat.mod_eq_of_lt ht]
        split
        · next h => exact Nat.mod_eq_of_lt h
        · next h =>
          rw [Nat.mod_eq_sub_mod (by omega), Nat.mod_eq_of_lt (by omega)]
      rw [k_X6_layTurns_72_b, em]
      by_cases cm : t + c % qS m < qS m
      · rw [if_pos cm]
        simp (disch := omega) only [k_X6_layTurns_0_b, k_X6_layTurns_19_b, k_X6_layTurns_32_b, k_X6_layTurns_37_b, k_X6_layTurns_43_b, k_X6_layTurns_53_b, k_X6_layTurns_58_b, k_X6_layTurns_63_b, k_X6_layTurns_66_b, k_X6_layTurns_67_b, k_X6_layTurns_79_b, k_X6_layTurns_89_b, k_X6_layTurns_97_b, k_X6_layTurns_114_b, k_X6_layTurns_122_b, k_X6_layTurns_129_b, k_X6_layTurns_136_b, k_X6_layTurns_142_b, k_X6_layTurns_152_b, k_X6_layTurns_165_b, k_X6_layTurns_167_b, k_X6_layTurns_168_b, k_X6_layTurns_174_b, k_X6_layTurns_183_b, li_0, li_1, li_2, li_3, li_4, li_5, li_6, li_9, li_10, li_40, lm_1, lm_2, lm_3, lm_4, zs_ap, i32_add, i32_sub, i32_mul, i32_neg, i32_lt, i32_le, i32_eq, i32_nat, ckn, pka_r, pka_v, if_pos, if_neg, if_true, if_false]
        rfl
      · rw [if_neg cm]
        simp (disch := omega) only [k_X6_layTurns_0_b, k_X6_layTurns_19_b, k_X6_layTurns_32_b, k_X6_layTurns_37_b, k_X6_layTurns_43_b, k_X6_layTurns_53_b, k_X6_layTurns_58_b, k_X6_layTurns_63_b, k_X6_layTurns_66_b, k_X6_layTurns_67_b, k_X6_layTurns_79_b, k_X6_layTurns_89_b, k_X6_layTurns_97_b, k_X6_layTurns_114_b, k_X6_layTurns_122_b, k_X6_layTurns_129_b, k_X6_layTurns_136_b, k_X6_layTurns_142_b, k_X6_layTurns_152_b, k_X6_layTurns_165_b, k_X6_layTurns_167_b, k_X6_layTurns_168_b, k_X6_layTurns_174_b, k_X6_layTurns_183_b, li_0, li_1, li_2, li_3, li_4, li_5, li_6, li_9, li_10, li_40, lm_1, lm_2, lm_3, lm_4, zs_ap, i32_add, i32_sub, i32_mul, i32_neg, i32_lt, i32_le, i32_eq, i32_nat, ckn, pka_r, pka_v, if_pos, if_neg, if_true, if_false]
        rw [show (t : Int) + ((c % qS m : Nat) : Int) - ((qS m : Nat) : Int) = ((t + c % qS m - qS m : Nat) : Int) by omega]
    refine ⟨(u2 J1 (114 + t) s (J 119 t ||| ((J 119 ((t + c) % qS m) <<< ((i32 (c : Int)).toInt64 &&& 63)) &&& st)), some (.int (i32 (((t + c) % qS m : Nat) : Int)))), ⟨fun a ha => (u2_ne (by omega)).trans (v1 a ha), fun a x hx => ?_, fun u n hu hn => ?_⟩, ?_⟩
    · dsimp only
      by_cases ca : a = 114 + t
      · rw [ca, u2f hx]
        exact v2 _ x hx
      · rw [u2_ne ca]
        exact v2 a x hx
    · dsimp only
      by_cases cu : u = t
      · subst cu
        rw [u2s, gb_or, gb_and, gb_shlw _ (by omega) hn, hst n hn, Ut_2 hw, Bool.or_eq_true, Bool.and_eq_true, Bool.and_eq_true, decide_eq_true_iff, hg u n ht hn, and_assoc]
        constructor
        · intro h
          rcases h with h | ⟨h1, h2, h3⟩
          · exact Or.inl h
          · exact Or.inr ⟨h1, (hg _ _ hlt (by omega)).mp h2, h3⟩
        · intro h
          rcases h with h | ⟨h1, h2, h3⟩
          · exact Or.inl h
          · exact Or.inr ⟨h1, (hg _ _ hlt (by omega)).mpr h2, h3⟩
      · rw [u2_ne (by omega)]
        exact v3 u n (by omega) hn
    · show den none (Mean d) none tQ_X6_layTurns (72, [some (.ref 112), some (.int (i32 (s : Int))), some (.long st), none, some (.int (i32 ((qS m : Nat) : Int))), some (.int (i32 (c : Int))), some (.int (i32 ((c % qS m : Nat) : Int))), some (.int (i32 (t : Int))), o8], [], 176, zs Z, J1, RP p0 p1 p2 p3 p4 35 p2 p7) = _
      rw [hlater, k_X6_layTurns_105_b]
      simp (disch := first | omega | assumption) only [k_X6_layTurns_114_b, k_X6_layTurns_122_b, k_X6_layTurns_129_b, k_X6_layTurns_136_b, r1', va_rf, li_0, li_1, i32_lt, i32_nat, i32_add, ckn, Int.toNat_natCast, eg]
      rfl) (J, o8) ⟨fun _ _ => rfl, fun _ _ _ => rfl, fun u n hu => by omega⟩
  simp only at v1 v2 v3 e1
  obtain ⟨J2, ⟨w1, w2, w3⟩, e2⟩ := up_inv (fun (t : Nat) (J : Nat → Nat → Int64) => den none (Mean d) none tQ_X6_layTurns (145, [some (.ref 112), some (.int (i32 (s : Int))), some (.long st), none, some (.int (i32 ((qS m : Nat) : Int))), some (.int (i32 (c : Int))), some (.int (i32 ((c % qS m : Nat) : Int))), some (.int (i32 (t : Int))), o8a], [], 176, zs Z, J, RP p0 p1 p2 p3 p4 35 p2 p7)) (qS m) (fun t J' => (∀ a : Nat, a ≠ 119 → J' a = J1 a) ∧ (∀ u : Nat, u < t → J' 119 u = J1 (114 + u) s) ∧ True) (fun t J' ht hv => by
    obtain ⟨v1', v2', _⟩ := hv
    obtain ⟨r1, r2⟩ := RPl (p0 := p0) (p1 := p1) (p2 := p2) (p3 := p3) (p4 := p4) (p5 := 35) (p6 := p2) (p7 := p7) (q := 112) (by omega) (show t < 3 by omega)
    have r1' : RP p0 p1 p2 p3 p4 35 p2 p7 113 t = some (114 + t) := r1
    have r2' : pshn (114 + t) = some (.inl (.long, 400)) := r2
    have eg : J' (114 + t) = J1 (114 + t) := v1' _ (by omega)
    refine ⟨u2 J' 119 t (J1 (114 + t) s), ⟨fun a ha => (u2_ne ha).trans (v1' a ha), fun u hu => ?_, trivial⟩, ?_⟩
    · by_cases cu : u = t
      · rw [cu, u2s]
      · rw [u2f cu]
        exact v2' u (by omega)
    · show den none (Mean d) none tQ_X6_layTurns (145, _, [], 176, zs Z, J', _) = _
      rw [k_X6_layTurns_145_b]
      simp (disch := first | omega | assumption) only [k_X6_layTurns_152_b, k_X6_layTurns_165_b, k_X6_layTurns_167_b, k_X6_layTurns_168_b, r1', va_rf, li_0, li_1, i32_le, i32_lt, i32_nat, i32_add, ckn, if_neg, Int.toNat_natCast, eg]
      rfl) J1 ⟨fun _ _ => rfl, fun u hu => by omega, trivial⟩
  refine ⟨J2, some (.int (i32 ((c % qS m : Nat) : Int))), some (.int (i32 ((qS m : Nat) : Int))), o8a, fun a h1 h2 => (w1 a h2).trans (v1 a h1), fun a x h1 h2 => (congrFun (w1 a h1) x).trans (v2 a x h2), fun t n ht hn => ?_, fun t ht => ?_, ?_⟩
  · rw [w2 t ht]
    exact v3 t n ht hn
  · rw [w2 t ht, w1 _ (by omega)]
  · have e0 : den none (Mean d) none tQ_X6_layTurns (46, [some (.ref 112), some (.int (i32 (s : Int))), some (.long st), none, some (.int (i32 ((qS m : Nat) : Int))), some (.int (i32 (c : Int))), o6, o7, o8], [], 176, zs Z, J, RP p0 p1 p2 p3 p4 35 p2 p7) = den none (Mean d) none tQ_X6_layTurns (72, [some (.ref 112), some (.int (i32 (s : Int))), some (.long st), none, some (.int (i32 ((qS m : Nat) : Int))), some (.int (i32 (c : Int))), some (.int (i32 ((c % qS m : Nat) : Int))), some (.int (i32 ((0 : Nat) : Int))), o8], [], 176, zs Z, J, RP p0 p1 p2 p3 p4 35 p2 p7) := by
      rw [k_X6_layTurns_46_b]
      simp (disch := omega) only [k_X6_layTurns_53_b, k_X6_layTurns_58_b, k_X6_layTurns_63_b, k_X6_layTurns_67_b, li_0, li_40, i32_le, i32_lt, i32_eq, if_neg, erem]
      rfl
    rw [e0]
    refine Eq.trans e1 ?_
    show den none (Mean d) none tQ_X6_layTurns (72, _, [], 176, zs Z, J1, _) = _
    rw [k_X6_layTurns_72_b]
    simp (disch := omega) only [i32_le, if_pos, k_X6_layTurns_142_b]
    refine Eq.trans e2 ?_
    show den none (Mean d) none tQ_X6_layTurns (145, _, [], 176, zs Z, J2, _) = _
    rw [k_X6_layTurns_145_b]
    simp (disch := omega) only [i32_le, if_pos, k_X6_layTurns_174_b, li_2, i32_mul]
    rw [show (c : Int) * 2 = ((2 * c : Nat) : Int) by omega]
theorem h_layTurns_b (hp : p2 = 5 ∨ p2 = 20) (hw : wf m) (h0 : qmode m = 0) (hm : KM m p2 Z) {s : Nat} (hs : s < qN m) (hf : s ≠ qfin m) (hg : GT m b s (J 119)) {st : Int64} (hst : ∀ n : Nat, n < 64 → gb st n = sty m b s n) : ∃ J' : Nat → Nat → Int64, (∀ a : Nat, (a < 114 ∨ 116 < a) → a ≠ 119 → J' a = J a) ∧ (∀ a x : Nat, a ≠ 119 → x ≠ s → J' a x = J a x) ∧ (∀ t n : Nat, t < qS m → n < 64 → gb (J' (114 + t) s) n = sf m b n s t) ∧ Mean (d + 1) 72 [.ref 112, .int (i32 (s : Int)), .long st] (176, zs Z, J, RP p0 p1 p2 p3 p4 35 p2 p7) = some (none, (176, zs Z, J', RP p0 p1 p2 p3 p4 35 p2 p7)) := by
  have hS := hw.1
  have z1 : Z p2 1 = (qS m : Int) := hm.1.1
  obtain ⟨J1, a1, a2, a3⟩ := lt_1_b (d := d) (Z := Z) (p0 := p0) (p1 := p1) (p2 := p2) (p3 := p3) (p4 := p4) (p7 := p7) hw h0 hf hg hst none none none
  obtain ⟨y, ⟨v1, v2, v3, v4⟩, e⟩ := up_inv (fun (r : Nat) (y : (Nat → Nat → Int64) × Option Value × Option Value × Option Value) => den none (Mean d) none tQ_X6_layTurns (46, [some (.ref 112), some (.int (i32 (s : Int))), some (.long st), none, some (.int (i32 ((qS m : Nat) : Int))), some (.int (i32 ((2 ^ r : Nat) : Int))), y.2.1, y.2.2.1, y.2.2.2], [], 176, zs Z, y.1, RP p0 p1 p2 p3 p4 35 p2 p7)) 6 (fun r y => (∀ a : Nat, (a < 114 ∨ 116 < a) → a ≠ 119 → y.1 a = J a) ∧ (∀ a x : Nat, a ≠ 119 → x ≠ s → y.1 a x = J a x) ∧ (∀ t n : Nat, t < qS m → n < 64 → (gb (y.1 119 t) n = true ↔ Ut m b s (2 ^ r) t n)) ∧ (1 ≤ r → ∀ t : Nat, t < qS m → y.1 (114 + t) s = y.1 119 t)) (fun r y hr hv => by
    obtain ⟨J2, o6, o7, o8⟩ := y
    obtain ⟨v1, v2, v3, v4⟩ := hv
    simp only at v1 v2 v3 v4
    obtain ⟨q1, q2, q3⟩ := pow2_le r hr
    obtain ⟨J3, o6', o7', o8', b1, b2, b3, b4, b5⟩ := lt_2_b (d := d) (Z := Z) (p0 := p0) (p1 := p1) (p2 := p2) (p3 := p3) (p4 := p4) (p7 := p7) hw hs (c := 2 ^ r) ⟨q3, q1⟩ v3 hst o6 o7 o8
    refine ⟨(J3, o6', o7', o8'), ⟨fun a h1 h2 => (b1 a h1 h2).trans (v1 a h1 h2), fun a x h1 h2 => (b2 a x h1 h2).trans (v2 a x h1 h2), fun t n ht hn => ?_, fun _ => b4⟩, ?_⟩
    · rw [q2]
      exact b3 t n ht hn
    · dsimp only
      rw [b5, q2]) (J1, none, none, none) ⟨fun a h1 h2 => a1 a h2, fun a x h1 h2 => congrFun (a1 a h1) x, a2, fun h => by omega⟩
  obtain ⟨J2, o6, o7, o8⟩ := y
  simp only at v1 v2 v3 v4 e
  refine ⟨J2, v1, v2, fun t n ht hn => ?_, ?_⟩
  · rw [v4 (by decide) t ht]
    apply beq_iff
    rw [v3 t n ht hn]
    exact Ut_sf hw h0 hf n t ht
  · rw [e_X6_layTurns, k_X6_layTurns_0_b (hv_p6 := by omega)]
    simp only [zs_ap, z1]
    refine Eq.trans a3 ?_
    rw [k_X6_layTurns_43_b]
    refine Eq.trans e ?_
    rw [show ((2 ^ 6 : Nat) : Int) = 64 from rfl, k_X6_layTurns_46_b]
    simp (disch := omega) only [li_40, i32_lt, if_pos, k_X6_layTurns_183_b]
end
section
variable {d : Nat} {J : Nat → Nat → Int64} {Z : Nat → Nat → Int} {p0 p1 p2 p3 p4 : Nat} {m : Mat} {b : Nat → Int}
theorem lt_1_c (hw : wf m) (h0 : qmode m = 0) {s : Nat} (hf : s ≠ qfin m) (hg : GT m b s (J 119)) {st : Int64} (hst : ∀ n : Nat, n < 64 → gb st n = sty m b s n) (o6 o7 o8 : Option Value) : ∃ J' : Nat → Nat → Int64, (∀ a : Nat, a ≠ 119 → J' a = J a) ∧ (∀ t n : Nat, t < qS m → n < 64 → (gb (J' 119 t) n = true ↔ Ut m b s 1 t n)) ∧ den none (Mean d) none tQ_X6_layTurns (12, [some (.ref 112), some (.int (i32 (s : Int))), some (.long st), none, some (.int (i32 ((qS m : Nat) : Int))), some (.int (i32 ((0 : Nat) : Int))), o6, o7, o8], [], 176, zs Z, J, RP p0 p1 p2 p3 p4 121 97 97) = den none (Mean d) none tQ_X6_layTurns (43, [some (.ref 112), some (.int (i32 (s : Int))), some (.long st), none, some (.int (i32 ((qS m : Nat) : Int))), some (.int (i32 ((qS m : Nat) : Int))), o6, o7, o8], [], 176, zs Z, J', RP p0 p1 p2 p3 p4 121 97 97) := by
  have hS := hw.1
  obtain ⟨J', ⟨v1, v2, v3⟩, e⟩ := up_inv (fun (t : Nat) (J : Nat → Nat → Int64) => den none (Mean d) none tQ_X6_layTurns (12, [some (.ref 112), some (.int (i32 (s : Int))), some (.long st), none, some (.int (i32 ((qS m : Nat) : Int))), some (.int (i32 (t : Int))), o6, o7, o8], [], 176, zs Z, J, RP p0 p1 p2 p3 p4 121 97 97)) (qS m) (fun t J' => (∀ a : Nat, a ≠ 119 → J' a = J a) ∧ (∀ u : Nat, t ≤ u → J' 119 u = J 119 u) ∧ ∀ u n : Nat, u < t → n < 64 → gb (J' 119 u) n = Bt m b s u n) (fun t J' ht hv => by
    obtain ⟨v1, v2, v3⟩ := hv
    refine ⟨u2 J' 119 t ((J' 119 t <<< ((1 : Int32).toInt64 &&& 63)) &&& st), ⟨fun a ha => (u2_ne ha).trans (v1 a ha), fun u hu => (u2f (by omega)).trans (v2 u (by omega)), fun u n hu hn => ?_⟩, ?_⟩
    · by_cases cu : u = t
      · subst cu
        rw [u2s, gb_and, gb_shl1 _ hn, hst n hn, v2 u (Nat.le_refl _)]
        unfold Bt
        cases n with
        | zero => simp [sty]
        | succ n =>
          rw [Nat.add_sub_cancel, hg u n (by omega) (by omega)]
          have e1 : (fun v => LB m b (lbh m u) v n) = fun v => sf m b n v ((u + 1) % qS m) := by
            funext v
            unfold LB lbh
            rw [if_neg (by omega), if_pos h0]
          rw [e1]
          simp [Bool.and_comm]
      · rw [u2f cu]
        exact v3 u n (by omega) hn
    · show den none (Mean d) none tQ_X6_layTurns (12, _, [], 176, zs Z, J', _) = _
      rw [k_X6_layTurns_12_c]
      simp (disch := omega) only [k_X6_layTurns_19_c, k_X6_layTurns_32_c, k_X6_layTurns_37_c, li_0, li_1, i32_le, i32_lt, i32_nat, i32_add, ckn, if_neg, Int.toNat_natCast]
      rfl) J ⟨fun _ _ => rfl, fun _ _ => rfl, fun u n hu => by omega⟩
  refine ⟨J', v1, fun t n ht hn => ?_, e.trans ?_⟩
  · rw [v3 t n ht hn, Ut_1 hw ht]
  · show den none (Mean d) none tQ_X6_layTurns (12, _, [], 176, zs Z, J', _) = _
    rw [k_X6_layTurns_12_c]
    simp (disch := omega) only [k_X6_layTurns_0_c, k_X6_layTurns_19_c, k_X6_layTurns_32_c, k_X6_layTurns_37_c, k_X6_layTurns_53_c, k_X6_layTurns_58_c, k_X6_layTurns_63_c, k_X6_layTurns_66_c, k_X6_layTurns_67_c, k_X6_layTurns_79_c, k_X6_layTurns_89_c, k_X6_layTurns_97_c, k_X6_layTurns_105_c, k_X6_layTurns_114_c, k_X6_layTurns_122_c, k_X6_layTurns_129_c, k_X6_layTurns_136_c, k_X6_layTurns_142_c, k_X6_layTurns_152_c, k_X6_layTurns_165_c, k_X6_layTurns_167_c, k_X6_layTurns_168_c, k_X6_layTurns_174_c, k_X6_layTurns_183_c, li_0, li_1, li_2, li_3, li_4, li_5, li_6, li_9, li_10, li_40, lm_1, lm_2, lm_3, lm_4, zs_ap, i32_add, i32_sub, i32_mul, i32_neg, i32_lt, i32_le, i32_eq, i32_nat, ckn, pka_r, pka_v, if_pos, if_neg, if_true, if_false]
theorem lt_2_c (hw : wf m) {s : Nat} (hs : s < qN m) {c : Nat} (hc : 1 ≤ c ∧ c ≤ 32) (hg : ∀ t n : Nat, t < qS m → n < 64 → (gb (J 119 t) n = true ↔ Ut m b s c t n)) {st : Int64} (hst : ∀ n : Nat, n < 64 → gb st n = sty m b s n) (o6 o7 o8 : Option Value) : ∃ (J' : Nat → Nat → Int64) (o6' o7' o8' : Option Value), (∀ a : Nat, (a < 114 ∨ 116 < a) → a ≠ 119 → J' a = J a) ∧ (∀ a x : Nat, a ≠ 119 → x ≠ s → J' a x = J a x) ∧ (∀ t n : Nat, t < qS m → n < 64 → (gb (J' 119 t) n = true ↔ Ut m b s (2 * c) t n)) ∧ (∀ t : Nat, t < qS m → J' (114 + t) s = J' 119 t) ∧ den none (Mean d) none tQ_X6_layTurns (46, [some (.ref 112), some (.int (i32 (s : Int))), some (.long st), none, some (.int (i32 ((qS m : Nat) : Int))), some (.int (i32 (c : Int))), o6, o7, o8], [], 176, zs Z, J, RP p0 p1 p2 p3 p4 121 97 97) = den none (Mean d) none tQ_X6_layTurns (46, [some (.ref 112), some (.int (i32 (s : Int))), some (.long st), none, some (.int (i32 ((qS m : Nat) : Int))), some (.int (i32 ((2 * c : Nat) : Int))), o6', o7', o8'], [], 176, zs Z, J', RP p0 p1 p2 p3 p4 121 97 97) := by
  have hS := hw.1
  have hN := qpl_b hw (k := qP m) (Nat.le_refl _)
  have hN' : qN m = qpl m (qP m) := rfl
  have erem := rem_q (a := c) (S := qS m) (by omega) (by omega) (by omega)
  have hah : c % qS m < qS m := Nat.mod_lt _ (by omega)
  obtain ⟨⟨J1, o8a⟩, ⟨v1, v2, v3⟩, e1⟩ := up_inv (fun (t : Nat) (y : (Nat → Nat → Int64) × Option Value) => den none (Mean d) none tQ_X6_layTurns (72, [some (.ref 112), some (.int (i32 (s : Int))), some (.long st), none, some (.int (i32 ((qS m : Nat) : Int))), some (.int (i32 (c : Int))), some (.int (i32 ((c % qS m : Nat) : Int))), some (.int (i32 (t : Int))), y.2], [], 176, zs Z, y.1, RP p0 p1 p2 p3 p4 121 97 97)) (qS m) (fun t y => (∀ a : Nat, (a < 114 ∨ 116 < a) → y.1 a = J a) ∧ (∀ a x : Nat, x ≠ s → y.1 a x = J a x) ∧ ∀ u n : Nat, u < t → n < 64 → (gb (y.1 (114 + u) s) n = true ↔ Ut m b s (2 * c) u n)) (fun t y ht hv => by
    obtain ⟨J1, o8⟩ := y
    obtain ⟨v1, v2, v3⟩ := hv
    simp only at v1 v2 v3
    obtain ⟨r1, r2⟩ := RPl (p0 := p0) (p1 := p1) (p2 := p2) (p3 := p3) (p4 := p4) (p5 := 121) (p6 := 97) (p7 := 97) (q := 112) (by omega) (show t < 3 by omega)
    have r1' : RP p0 p1 p2 p3 p4 121 97 97 113 t = some (114 + t) := r1
    have r2' : pshn (114 + t) = some (.inl (.long, 400)) := r2
    have hlt : (t + c) % qS m < qS m := Nat.mod_lt _ (by omega)
    have eg : J1 119 = J 119 := v1 _ (by omega)
    have hlater : den none (Mean d) none tQ_X6_layTurns (72, [some (.ref 112), some (.int (i32 (s : Int))), some (.long st), none, some (.int (i32 ((qS m : Nat) : Int))), some (.int (i32 (c : Int))), some (.int (i32 ((c % qS m : Nat) : Int))), some (.int (i32 (t : Int))), o8], [], 176, zs Z, J1, RP p0 p1 p2 p3 p4 121 97 97) = den none (Mean d) none tQ_X6_layTurns (105, [some (.ref 112), some (.int (i32 (s : Int))), some (.long st), none, some (.int (i32 ((qS m : Nat) : Int))), some (.int (i32 (c : Int))), some (.int (i32 ((c % qS m : Nat) : Int))), some (.int (i32 (t : Int))), o8], [.int (i32 (((t + c) % qS m : Nat) : Int))], 176, zs Z, J1, RP p0 p1 p2 p3 p4 121 97 97) := by
      have em : (t + c) % qS m = if t + c % qS m < qS m then t + c % qS m else t + c % qS m - qS m := by
        rw [Nat.add_mod, Nat.mod_eq_of_lt ht]
        split
        · next h => exact Nat.mod_eq_of_lt h
        · next h =>
          rw [Nat.mod_eq_sub_mod (by omega), Nat.mod_eq_of_lt (by omega)]
      rw [k_X6_layTurns_72_c, em]
      by_cases cm : t + c % qS m < qS m
      · rw [if_pos cm]
        simp (disch := omega) only [k_X6_layTurns_0_c, k_X6_layTurns_19_c, k_X6_layTurns_32_c, k_X6_layTurns_37_c, k_X6_layTurns_43_c, k_X6_layTurns_53_c, k_X6_layTurns_58_c, k_X6_layTurns_63_c, k_X6_layTurns_66_c, k_X6_layTurns_67_c, k_X6_layTurns_79_c, k_X6_layTurns_89_c, k_X6_layTurns_97_c, k_X6_layTurns_114_c, k_X6_layTurns_122_c, k_X6_layTurns_129_c, k_X6_layTurns_136_c, k_X6_layTurns_142_c, k_X6_layTurns_152_c, k_X6_layTurns_165_c, k_X6_layTurns_167_c, k_X6_layTurns_168_c, k_X6_layTurns_174_c, k_X6_layTurns_183_c, li_0, li_1, li_2, li_3, li_4, li_5, li_6, li_9, li_10, li_40, lm_1, lm_2, lm_3, lm_4, zs_ap, i32_add, i32_sub, i32_mul, i32_neg, i32_lt, i32_le, i32_eq, i32_nat, ckn, pka_r, pka_v, if_pos, if_neg, if_true, if_false]
        rfl
      · rw [if_neg cm]
        simp (disch := omega) only [k_X6_layTurns_0_c, k_X6_layTurns_19_c, k_X6_layTurns_32_c, k_X6_layTurns_37_c, k_X6_layTurns_43_c, k_X6_layTurns_53_c, k_X6_layTurns_58_c, k_X6_layTurns_63_c, k_X6_layTurns_66_c, k_X6_layTurns_67_c, k_X6_layTurns_79_c, k_X6_layTurns_89_c, k_X6_layTurns_97_c, k_X6_layTurns_114_c, k_X6_layTurns_122_c, k_X6_layTurns_129_c, k_X6_layTurns_136_c, k_X6_layTurns_142_c, k_X6_layTurns_152_c, k_X6_layTurns_165_c, k_X6_layTurns_167_c, k_X6_layTurns_168_c, k_X6_layTurns_174_c, k_X6_layTurns_183_c, li_0, li_1, li_2, li_3, li_4, li_5, li_6, li_9, li_10, li_40, lm_1, lm_2, lm_3, lm_4, zs_ap, i32_add, i32_sub, i32_mul, i32_neg, i32_lt, i32_le, i32_eq, i32_nat, ckn, pka_r, pka_v, if_pos, if_neg, if_true, if_false]
        rw [show (t : Int) + ((c % qS m : Nat) : Int) - ((qS m : Nat) : Int) = ((t + c % qS m - qS m : Nat) : Int) by omega]
    refine ⟨(u2 J1 (114 + t) s (J 119 t ||| ((J 119 ((t + c) % qS m) <<< ((i32 (c : Int)).toInt64 &&& 63)) &&& st)), some (.int (i32 (((t + c) % qS m : Nat) : Int)))), ⟨fun a ha => (u2_ne (by omega)).trans (v1 a ha), fun a x hx => ?_, fun u n hu hn => ?_⟩, ?_⟩
    · dsimp only
      by_cases ca : a = 114 + t
      · rw [ca, u2f hx]
        exact v2 _ x hx
      · rw [u2_ne ca]
        exact v2 a x hx
    · dsimp only
      by_cases cu : u = t
      · subst cu
        rw [u2s, gb_or, gb_and, gb_shlw _ (by omega) hn, hst n hn, Ut_2 hw, Bool.or_eq_true, Bool.and_eq_true, Bool.and_eq_true, decide_eq_true_iff, hg u n ht hn, and_assoc]
        constructor
        · intro h
          rcases h with h | ⟨h1, h2, h3⟩
          · exact Or.inl h
          · exact Or.inr ⟨h1, (hg _ _ hlt (by omega)).mp h2, h3⟩
        · intro h
          rcases h with h | ⟨h1, h2, h3⟩
          · exact Or.inl h
          · exact Or.inr ⟨h1, (hg _ _ hlt (by omega)).mpr h2, h3⟩
      · rw [u2_ne (by omega)]
        exact v3 u n (by omega) hn
    · show den none (Mean d) none tQ_X6_layTurns (72, [some (.ref 112), some (.int (i32 (s : Int))), some (.long st), none, some (.int (i32 ((qS m : Nat) : Int))), some (.int (i32 (c : Int))), some (.int (i32 ((c % qS m : Nat) : Int))), some (.int (i32 (t : Int))), o8], [], 176, zs Z, J1, RP p0 p1 p2 p3 p4 121 97 97) = _
      rw [hlater, k_X6_layTurns_105_c]
      simp (disch := first | omega | assumption) only [k_X6_layTurns_114_c, k_X6_layTurns_122_c, k_X6_layTurns_129_c, k_X6_layTurns_136_c, r1', va_rf, li_0, li_1, i32_lt, i32_nat, i32_add, ckn, Int.toNat_natCast, eg]
      rfl) (J, o8) ⟨fun _ _ => rfl, fun _ _ _ => rfl, fun u n hu => by omega⟩
  simp only at v1 v2 v3 e1
  obtain ⟨J2, ⟨w1, w2, w3⟩, e2⟩ := up_inv (fun (t : Nat) (J : Nat → Nat → Int64) => den none (Mean d) none tQ_X6_layTurns (145, [some (.ref 112), some (.int (i32 (s : Int))), some (.long st), none, some (.int (i32 ((qS m : Nat) : Int))), some (.int (i32 (c : Int))), some (.int (i32 ((c % qS m : Nat) : Int))), some (.int (i32 (t : Int))), o8a], [], 176, zs Z, J, RP p0 p1 p2 p3 p4 121 97 97)) (qS m) (fun t J' => (∀ a : Nat, a ≠ 119 → J' a = J1 a) ∧ (∀ u : Nat, u < t → J' 119 u = J1 (114 + u) s) ∧ True) (fun t J' ht hv => by
    obtain ⟨v1', v2', _⟩ := hv
    obtain ⟨r1, r2⟩ := RPl (p0 := p0) (p1 := p1) (p2 := p2) (p3 := p3) (p4 := p4) (p5 := 121) (p6 := 97) (p7 := 97) (q := 112) (by omega) (show t < 3 by omega)
    have r1' : RP p0 p1 p2 p3 p4 121 97 97 113 t = some (114 + t) := r1
    have r2' : pshn (114 + t) = some (.inl (.long, 400)) := r2
    have eg : J' (114 + t) = J1 (114 + t) := v1' _ (by omega)
    refine ⟨u2 J' 119 t (J1 (114 + t) s), ⟨fun a ha => (u2_ne ha).trans (v1' a ha), fun u hu => ?_, trivial⟩, ?_⟩
    · by_cases cu : u = t
      · rw [cu, u2s]
      · rw [u2f cu]
        exact v2' u (by omega)
    · show den none (Mean d) none tQ_X6_layTurns (145, _, [], 176, zs Z, J', _) = _
      rw [k_X6_layTurns_145_c]
      simp (disch := first | omega | assumption) only [k_X6_layTurns_152_c, k_X6_layTurns_165_c, k_X6_layTurns_167_c, k_X6_layTurns_168_c, r1', va_rf, li_0, li_1, i32_le, i32_lt, i32_nat, i32_add, ckn, if_neg, Int.toNat_natCast, eg]
      rfl) J1 ⟨fun _ _ => rfl, fun u hu => by omega, trivial⟩
  refine ⟨J2, some (.int (i32 ((c % qS m : Nat) : Int))), some (.int (i32 ((qS m : Nat) : Int))), o8a, fun a h1 h2 => (w1 a h2).trans (v1 a h1), fun a x h1 h2 => (congrFun (w1 a h1) x).trans (v2 a x h2), fun t n ht hn => ?_, fun t ht => ?_, ?_⟩
  · rw [w2 t ht]
    exact v3 t n ht hn
  · rw [w2 t ht, w1 _ (by omega)]
  · have e0 : den none (Mean d) none tQ_X6_layTurns (46, [some (.ref 112), some (.int (i32 (s : Int))), some (.long st), none, some (.int (i32 ((qS m : Nat) : Int))), some (.int (i32 (c : Int))), o6, o7, o8], [], 176, zs Z, J, RP p0 p1 p2 p3 p4 121 97 97) = den none (Mean d) none tQ_X6_layTurns (72, [some (.ref 112), some (.int (i32 (s : Int))), some (.long st), none, some (.int (i32 ((qS m : Nat) : Int))), some (.int (i32 (c : Int))), some (.int (i32 ((c % qS m : Nat) : Int))), some (.int (i32 ((0 : Nat) : Int))), o8], [], 176, zs Z, J, RP p0 p1 p2 p3 p4 121 97 97) := by
      rw [k_X6_layTurns_46_c]
      simp (disch := omega) only [k_X6_layTurns_53_c, k_X6_layTurns_58_c, k_X6_layTurns_63_c, k_X6_layTurns_67_c, li_0, li_40, i32_le, i32_lt, i32_eq, if_neg, erem]
      rfl
    rw [e0]
    refine Eq.trans e1 ?_
    show den none (Mean d) none tQ_X6_layTurns (72, _, [], 176, zs Z, J1, _) = _
    rw [k_X6_layTurns_72_c]
    simp (disch := omega) only [i32_le, if_pos, k_X6_layTurns_142_c]
    refine Eq.trans e2 ?_
    show den none (Mean d) none tQ_X6_layTurns (145, _, [], 176, zs Z, J2, _) = _
    rw [k_X6_layTurns_145_c]
    simp (disch := omega) only [i32_le, if_pos, k_X6_layTurns_174_c, li_2, i32_mul]
    rw [show (c : Int) * 2 = ((2 * c : Nat) : Int) by omega]
theorem h_layTurns_c  (hw : wf m) (h0 : qmode m = 0) (hm : KM m 97 Z) {s : Nat} (hs : s < qN m) (hf : s ≠ qfin m) (hg : GT m b s (J 119)) {st : Int64} (hst : ∀ n : Nat, n < 64 → gb st n = sty m b s n) : ∃ J' : Nat → Nat → Int64, (∀ a : Nat, (a < 114 ∨ 116 < a) → a ≠ 119 → J' a = J a) ∧ (∀ a x : Nat, a ≠ 119 → x ≠ s → J' a x = J a x) ∧ (∀ t n : Nat, t < qS m → n < 64 → gb (J' (114 + t) s) n = sf m b n s t) ∧ Mean (d + 1) 72 [.ref 112, .int (i32 (s : Int)), .long st] (176, zs Z, J, RP p0 p1 p2 p3 p4 121 97 97) = some (none, (176, zs Z, J', RP p0 p1 p2 p3 p4 121 97 97)) := by
  have hS := hw.1
  have z1 : Z 97 1 = (qS m : Int) := hm.1.1
  obtain ⟨J1, a1, a2, a3⟩ := lt_1_c (d := d) (Z := Z) (p0 := p0) (p1 := p1) (p2 := p2) (p3 := p3) (p4 := p4) hw h0 hf hg hst none none none
  obtain ⟨y, ⟨v1, v2, v3, v4⟩, e⟩ := up_inv (fun (r : Nat) (y : (Nat → Nat → Int64) × Option Value × Option Value × Option Value) => den none (Mean d) none tQ_X6_layTurns (46, [some (.ref 112), some (.int (i32 (s : Int))), some (.long st), none, some (.int (i32 ((qS m : Nat) : Int))), some (.int (i32 ((2 ^ r : Nat) : Int))), y.2.1, y.2.2.1, y.2.2.2], [], 176, zs Z, y.1, RP p0 p1 p2 p3 p4 121 97 97)) 6 (fun r y => (∀ a : Nat, (a < 114 ∨ 116 < a) → a ≠ 119 → y.1 a = J a) ∧ (∀ a x : Nat, a ≠ 119 → x ≠ s → y.1 a x = J a x) ∧ (∀ t n : Nat, t < qS m → n < 64 → (gb (y.1 119 t) n = true ↔ Ut m b s (2 ^ r) t n)) ∧ (1 ≤ r → ∀ t : Nat, t < qS m → y.1 (114 + t) s = y.1 119 t)) (fun r y hr hv => by
    obtain ⟨J2, o6, o7, o8⟩ := y
    obtain ⟨v1, v2, v3, v4⟩ := hv
    simp only at v1 v2 v3 v4
    obtain ⟨q1, q2, q3⟩ := pow2_le r hr
    obtain ⟨J3, o6', o7', o8', b1, b2, b3, b4, b5⟩ := lt_2_c (d := d) (Z := Z) (p0 := p0) (p1 := p1) (p2 := p2) (p3 := p3) (p4 := p4) hw hs (c := 2 ^ r) ⟨q3, q1⟩ v3 hst o6 o7 o8
    refine ⟨(J3, o6', o7', o8'), ⟨fun a h1 h2 => (b1 a h1 h2).trans (v1 a h1 h2), fun a x h1 h2 => (b2 a x h1 h2).trans (v2 a x h1 h2), fun t n ht hn => ?_, fun _ => b4⟩, ?_⟩
    · rw [q2]
      exact b3 t n ht hn
    · dsimp only
      rw [b5, q2]) (J1, none, none, none) ⟨fun a h1 h2 => a1 a h2, fun a x h1 h2 => congrFun (a1 a h1) x, a2, fun h => by omega⟩
  obtain ⟨J2, o6, o7, o8⟩ := y
  simp only at v1 v2 v3 v4 e
  refine ⟨J2, v1, v2, fun t n ht hn => ?_, ?_⟩
  · rw [v4 (by decide) t ht]
    apply beq_iff
    rw [v3 t n ht hn]
    exact Ut_sf hw h0 hf n t ht
  · rw [e_X6_layTurns, k_X6_layTurns_0_c]
    simp only [zs_ap, z1]
    refine Eq.trans a3 ?_
    rw [k_X6_layTurns_43_c]
    refine Eq.trans e ?_
    rw [show ((2 ^ 6 : Nat) : Int) = 64 from rfl, k_X6_layTurns_46_c]
    simp (disch := omega) only [li_40, i32_lt, if_pos, k_X6_layTurns_183_c]
end
