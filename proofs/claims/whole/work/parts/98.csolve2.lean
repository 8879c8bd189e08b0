/-! THE CLASS'S Rows: solve, safeBits, fewest, isSafe -/
theorem KS_fr {m : Mat} {g : Nat} {Z Z' : Nat → Nat → Int} (hS : qS m ≤ 3) (hk : KS m g Z) (e : ∀ a : Nat, g ≤ a → a ≤ g + 6 → Z' a = Z a) : KS m g Z' := by
  obtain ⟨⟨q1, q2⟩, q3, q4⟩ := hk
  refine ⟨⟨?_, fun k hk => ?_⟩, fun i hi s hs => ?_, fun i hi => ?_⟩
  · rw [e g (by omega) (by omega)]; exact q1
  · rw [e (g + 1) (by omega) (by omega)]; exact q2 k hk
  · rw [e (g + 3 + i) (by omega) (by omega)]; exact q3 i hi s hs
  · rw [e (g + 6) (by omega) (by omega)]; exact q4 i hi
/-- the rows q are found, for a matter and what a breach costs -/
def KR (m : Mat) (b : Nat → Int) (q : Nat) (Z : Nat → Nat → Int) (J : Nat → Nat → Int64) : Prop := KB m b q Z ∧ ∀ u : Nat, u < qN m → LR m b q J u
theorem LB_safe {m : Mat} (hw : wf m) {b : Nat → Int} {t s n : Nat} : LB m b (qtt m t) s n = sf m b n s (qtt m t) := by
  unfold LB
  by_cases c : qmode m = 2
  · rw [if_pos c]
    unfold qtt
    rw [if_neg (by omega)]
    rfl
  · rw [if_neg c]
theorem qtt_nlay {m : Mat} (hw : wf m) {t : Nat} (ht : t < qS m) : qtt m t < nlay m := by
  have := nlay_le hw
  unfold qtt nlay at *
  split <;> split <;> omega
section
variable {d : Nat} {J : Nat → Nat → Int64} {Z : Nat → Nat → Int} {p0 p1 p2 p5 p6 p7 : Nat} {q8 q9 : Nat} {m : Mat} {b : Nat → Int}
theorem h_solve_a (hp : p2 = 5 ∨ p2 = 20) (hw : wf m) (hb : bOK m b) (hm : KM m p2 Z) (hk : KS m 35 Z) {g2 : Nat} (hg : pshn g2 = some (.inl (.int, 3))) (hg2 : g2 ≠ 48 ∧ g2 ≠ 49 ∧ g2 ≠ 51) (hz2 : ∀ i : Nat, i < qS m → Z g2 i = b i) : ∃ (Z' : Nat → Nat → Int) (J' : Nat → Nat → Int64), (∀ a : Nat, a ≠ 48 → a ≠ 49 → a ≠ 51 → Z' a = Z a) ∧ (∀ a : Nat, (a < 45 ∨ 47 < a) → a ≠ 50 → J' a = J a) ∧ KR m b 43 Z' J' ∧ Mean (d + 4) 64 [.ref 43, .ref 35, .ref g2] (176, zs Z, J, RP p0 p1 p2 q8 q9 p5 p6 p7) = some (none, (176, zs Z', J', RP p0 p1 p2 35 p2 p5 p6 p7)) := by
  have hS := hw.1
  have hP := hw.2.1
  have hfin := qfin_lt hw
  have hN := qpl_b hw (k := qP m) (Nat.le_refl _)
  have hN' : qN m = qpl m (qP m) := rfl
  obtain ⟨⟨Z1, J1⟩, ⟨v1, v2, v3, v4, v5⟩, e1⟩ := up_inv (fun (i : Nat) (y : (Nat → Nat → Int) × (Nat → Nat → Int64)) => den none (Mean (d + 3)) none tQ_X6_solve (15, [some (.ref 43), some (.ref 35), some (.ref g2), some (.int (i32 (i : Int))), none], [], 176, zs y.1, y.2, RP p0 p1 p2 35 p2 p5 p6 p7)) (qS m) (fun i y => (∀ a : Nat, a ≠ 48 → a ≠ 51 → y.1 a = Z a) ∧ (∀ a : Nat, (a < 45 ∨ 47 < a) → y.2 a = J a) ∧ (∀ j : Nat, j < i → y.1 51 j = qgoal m j + b j) ∧ (∀ j : Nat, j < i → y.1 48 j = lbh m j) ∧ (∀ j : Nat, j < i → ∀ s : Nat, s < qN m → y.2 (45 + j) s = if s = qfin m then 1 else 0)) (fun i y hi hv => by
    obtain ⟨Z1, J1⟩ := y
    obtain ⟨v1, v2, v3, v4, v5⟩ := hv
    simp only at v1 v2 v3 v4 v5
    have z1 : Z1 p2 1 = (qS m : Int) := by rw [v1 _ (by omega) (by omega)]; exact hm.1.1
    have zg : Z1 41 i = qgoal m i := by rw [v1 _ (by decide) (by decide)]; exact hk.2.2 i hi
    have zb : Z1 g2 i = b i := by rw [v1 _ (by omega) (by omega)]; exact hz2 i hi
    obtain ⟨r1, r2⟩ := RPl (p0 := p0) (p1 := p1) (p2 := p2) (p3 := 35) (p4 := p2) (p5 := p5) (p6 := p6) (p7 := p7) (q := 43) (by omega) (show i < 3 by omega)
    have r1' : RP p0 p1 p2 35 p2 p5 p6 p7 44 i = some (45 + i) := r1
    have hm2 : KM m p2 (u2 Z1 51 i (qgoal m i + b i)) := KM_fr hP hm (fun a h1 h2 => by rw [u2_ne (by omega)]; exact v1 a (by omega) (by omega))
    have lb := h_layerBehind_a (d := d + 1) (J := J1) (p0 := p0) (p1 := p1) (p2 := p2) (p5 := p5) (p6 := p6) (p7 := p7) hp hw hm2 hi
    have hk3 : KW m 35 (u2 (u2 Z1 51 i (qgoal m i + b i)) 48 i (lbh m i)) := (KS_fr hS.2 hk (fun a h1 h2 => by rw [u2_ne (by omega), u2_ne (by omega)]; exact v1 a (by omega) (by omega))).1
    obtain ⟨J2, b1, b2, b3⟩ := h_clearLayer_a (d := d + 2) (J := J1) (p0 := p0) (p1 := p1) (p2 := p2) (p5 := p5) (p6 := p6) (p7 := p7) hw hk3 (t := i) (by omega)
    refine ⟨(u2 (u2 Z1 51 i (qgoal m i + b i)) 48 i (lbh m i), J2), ⟨fun a h1 h2 => ?_, fun a ha => ?_, fun j hj => ?_, fun j hj => ?_, fun j hj s hs => ?_⟩, ?_⟩
    · dsimp only
      rw [u2_ne h1, u2_ne h2]
      exact v1 a h1 h2
    · dsimp only
      rw [b1 a (by omega)]
      exact v2 a ha
    · dsimp only
      rw [u2_ne (by decide)]
      by_cases cj : j = i
      · rw [cj, u2s]
      · rw [u2f cj]
        exact v3 j (by omega)
    · dsimp only
      by_cases cj : j = i
      · rw [cj, u2s]
      · rw [u2f cj, u2_ne (by decide)]
        exact v4 j (by omega)
    · dsimp only
      by_cases cj : j = i
      · rw [cj]
        exact b2 s hs
      · rw [b1 _ (by omega)]
        exact v5 j (by omega) s hs
    · show den none (Mean (d + 3)) none tQ_X6_solve (15, _, [], 176, zs Z1, J1, _) = den none (Mean (d + 3)) none tQ_X6_solve (15, _, [], 176, zs _, J2, _)
      rw [k_X6_solve_15_a (p3 := 0) (p4 := 0) (hv_p2 := by omega)]
      simp (disch := first | omega | assumption) only [k_X6_solve_0_a, k_X6_solve_5_a (p3 := 0), k_X6_solve_13_a (p3 := 0) (p4 := 0), k_X6_solve_26_a (p3 := 0) (p4 := 0), k_X6_solve_37_a (p3 := 0) (p4 := 0), k_X6_solve_40_a (p3 := 0) (p4 := 0), k_X6_solve_42_a (p3 := 0) (p4 := 0), k_X6_solve_52_a (p3 := 0) (p4 := 0), k_X6_solve_53_a (p3 := 0) (p4 := 0), k_X6_solve_60_a (p3 := 0) (p4 := 0), k_X6_solve_63_a (p3 := 0) (p4 := 0), k_X6_solve_69_a (p3 := 0) (p4 := 0), k_X6_solve_82_a (p3 := 0) (p4 := 0), k_X6_solve_96_a (p3 := 0) (p4 := 0), k_X6_solve_97_a (p3 := 0) (p4 := 0), k_X6_solve_103_a (p3 := 0) (p4 := 0), k_X6_solve_119_a (p3 := 0) (p4 := 0), k_X6_solve_127_a (p3 := 0) (p4 := 0), k_X6_solve_132_a (p3 := 0) (p4 := 0), k_X6_solve_138_a (p3 := 0) (p4 := 0), k_X6_solve_144_a (p3 := 0) (p4 := 0), li_0, li_1, li_2, li_3, li_4, li_5, li_6, li_9, li_10, li_40, lm_1, lm_2, lm_3, lm_4, zs_ap, i32_add, i32_sub, i32_mul, i32_neg, i32_lt, i32_le, i32_eq, i32_nat, ckn, pka_r, pka_v, if_pos, if_neg, if_true, if_false, z1, zg, zb, Int.toNat_natCast, zs_u2, lb, r1', va_rf, b3]
      rfl) (Z, J) ⟨fun _ _ _ => rfl, fun _ _ => rfl, fun j hj => by omega, fun j hj => by omega, fun j hj => by omega⟩
  simp only at v1 v2 v3 v4 v5 e1
  obtain ⟨Z2, ⟨w1, w2, w3⟩, e2⟩ := up_inv (fun (k : Nat) (Z : Nat → Nat → Int) => den none (Mean (d + 3)) none tQ_X6_solve (71, [some (.ref 43), some (.ref 35), some (.ref g2), some (.int (i32 (k : Int))), none], [], 176, zs Z, J1, RP p0 p1 p2 35 p2 p5 p6 p7)) (qP m) (fun k Z' => (∀ a : Nat, a ≠ 49 → Z' a = Z1 a) ∧ (∀ j : Nat, j < k → Z' 49 j = qkept m j) ∧ True) (fun k Z2 hk' hv => by
    obtain ⟨v1', v2', _⟩ := hv
    have hm2 : KM m p2 Z2 := KM_fr hP hm (fun a h1 h2 => by rw [v1' a (by omega)]; exact v1 a (by omega) (by omega))
    have z2 : Z2 p2 2 = (qP m : Int) := hm2.1.2.1
    have z4 : Z2 (p2 + 4) k = (qkept m k : Int) := (hm2.2.1 k hk').2.2.1
    refine ⟨u2 Z2 49 k (qkept m k), ⟨fun a ha => (u2_ne ha).trans (v1' a ha), fun j hj => ?_, trivial⟩, ?_⟩
    · by_cases cj : j = k
      · rw [cj, u2s]
      · rw [u2f cj]
        exact v2' j (by omega)
    · show den none (Mean (d + 3)) none tQ_X6_solve (71, _, [], 176, zs Z2, J1, _) = _
      rw [k_X6_solve_71_a (p3 := 0) (p4 := 0) (hv_p2 := by omega)]
      simp (disch := omega) only [k_X6_solve_0_a, k_X6_solve_5_a (p3 := 0), k_X6_solve_13_a (p3 := 0) (p4 := 0), k_X6_solve_26_a (p3 := 0) (p4 := 0), k_X6_solve_37_a (p3 := 0) (p4 := 0), k_X6_solve_40_a (p3 := 0) (p4 := 0), k_X6_solve_42_a (p3 := 0) (p4 := 0), k_X6_solve_52_a (p3 := 0) (p4 := 0), k_X6_solve_53_a (p3 := 0) (p4 := 0), k_X6_solve_60_a (p3 := 0) (p4 := 0), k_X6_solve_63_a (p3 := 0) (p4 := 0), k_X6_solve_69_a (p3 := 0) (p4 := 0), k_X6_solve_82_a (p3 := 0) (p4 := 0), k_X6_solve_96_a (p3 := 0) (p4 := 0), k_X6_solve_97_a (p3 := 0) (p4 := 0), k_X6_solve_103_a (p3 := 0) (p4 := 0), k_X6_solve_119_a (p3 := 0) (p4 := 0), k_X6_solve_127_a (p3 := 0) (p4 := 0), k_X6_solve_132_a (p3 := 0) (p4 := 0), k_X6_solve_138_a (p3 := 0) (p4 := 0), k_X6_solve_144_a (p3 := 0) (p4 := 0), li_0, li_1, li_2, li_3, li_4, li_5, li_6, li_9, li_10, li_40, lm_1, lm_2, lm_3, lm_4, zs_ap, i32_add, i32_sub, i32_mul, i32_neg, i32_lt, i32_le, i32_eq, i32_nat, ckn, pka_r, pka_v, if_pos, if_neg, if_true, if_false, z2, z4, Int.toNat_natCast, zs_u2]
      rfl) Z1 ⟨fun _ _ => rfl, fun j hj => by omega, trivial⟩
  have fr2 : ∀ a : Nat, a ≠ 48 → a ≠ 49 → a ≠ 51 → Z2 a = Z a := fun a h1 h2 h3 => (w1 a h2).trans (v1 a h1 h3)
  have hm2 : KM m p2 Z2 := KM_fr hP hm (fun a h1 h2 => fr2 a (by omega) (by omega) (by omega))
  have hk2 : KS m 35 Z2 := KS_fr hS.2 hk (fun a h1 h2 => fr2 a (by omega) (by omega) (by omega))
  have hr2 : KB m b 43 Z2 := ⟨fun i hi => by rw [w1 _ (by decide)]; exact v3 i hi, fun i hi => by rw [w1 _ (by decide)]; exact v4 i hi⟩
  have nl := nlay_le hw
  have hlow : ∀ u : Nat, u ≤ qfin m → LR m b 43 J1 u := fun u hu t n ht hn => by
    have e0 : J1 (43 + 2 + t) u = if u = qfin m then 1 else 0 := v5 t (by omega) u (by omega)
    rw [e0]
    by_cases cu : u = qfin m
    · rw [if_pos cu, gb_1 hn, cu]
      have e9 : ∀ t : Nat, sf m b n (qfin m) t = decide (n = 0) := fun t => by
        cases n with
        | zero => show decide (qfin m = qfin m) = _; simp
        | succ n => show ((!decide (qfin m = qfin m) && _) && _) = _; simp
      unfold LB
      by_cases c2 : qmode m = 2
      · rw [if_pos c2, AL_TJ, e9]
        have e8 : TJ m (qfin m) (fun u => sf m b n u 0) t = false := by
          have key : ∀ j : Nat, TJ m (qfin m) (fun u => sf m b n u 0) j = false := by
            intro j
            induction j with
            | zero => rfl
            | succ j ih =>
              rw [TJ_s, ih, Bool.false_or]
              cases c : givs m (qfin m) (fun k => decide (qown m k = qS m - 1 - j)) (AL m (fun u => sf m b n u 0) j)
              · rfl
              · obtain ⟨k, q, h1, _, _, h4, _⟩ := givs_iff.mp c
                have := may_le h4
                rw [has_fin hw h1] at this
                omega
          exact key t
        rw [e8, Bool.or_false]
      · rw [if_neg c2, e9]
    · rw [if_neg cu, gb_0]
      cases c : LB m b t u n
      · rfl
      · exact absurd (fin_least (by omega) (LB_ok hw (by omega) c)) (by omega)
  obtain ⟨Z3, J3, c1, c2, c3, c4⟩ := sv_loop_a (d := d) (p0 := p0) (p1 := p1) (p2 := p2) (p5 := p5) (p6 := p6) (p7 := p7) hp hw hb Z2 hm2 hk2 hr2 g2 (qbeg m - qfin m) (qfin m) 0 Z2 J1 J1 rfl hfin (by omega) (ok_fin hw) (fun _ _ => rfl) (fun k hk' => by rw [w2 k hk', has_fin hw hk']) hlow (fun u t h1 h2 ht => by
    rw [v5 t (by omega) u h2, if_neg (by omega)]) (fun _ _ _ => rfl)
  refine ⟨Z3, J3, fun a h1 h2 h3 => (c1 a h2).trans (fr2 a h1 h2 h3), fun a h1 h2 => (c2 a h1 h2).trans (v2 a h1), ⟨⟨fun i hi => by rw [c1 _ (by decide)]; exact hr2.1 i hi, fun i hi => by rw [c1 _ (by decide)]; exact hr2.2 i hi⟩, c3⟩, ?_⟩
  have z1 : Z1 p2 1 = (qS m : Int) := by rw [v1 _ (by omega) (by omega)]; exact hm.1.1
  have z2 : Z2 p2 2 = (qP m : Int) := hm2.1.2.1
  have zf : Z2 35 3 = (qfin m : Int) := hk2.1.1.2.2
  rw [e_X6_solve, k_X6_solve_0_a, k_X6_solve_5_a (p3 := 0), k_X6_solve_13_a (p3 := 0) (p4 := 0)]
  refine Eq.trans e1 ?_
  show den none (Mean (d + 3)) none tQ_X6_solve (15, _, [], 176, zs Z1, J1, _) = _
  rw [k_X6_solve_15_a (p3 := 0) (p4 := 0) (hv_p2 := by omega)]
  simp (disch := omega) only [k_X6_solve_0_a, k_X6_solve_5_a (p3 := 0), k_X6_solve_13_a (p3 := 0) (p4 := 0), k_X6_solve_26_a (p3 := 0) (p4 := 0), k_X6_solve_37_a (p3 := 0) (p4 := 0), k_X6_solve_40_a (p3 := 0) (p4 := 0), k_X6_solve_42_a (p3 := 0) (p4 := 0), k_X6_solve_52_a (p3 := 0) (p4 := 0), k_X6_solve_53_a (p3 := 0) (p4 := 0), k_X6_solve_60_a (p3 := 0) (p4 := 0), k_X6_solve_63_a (p3 := 0) (p4 := 0), k_X6_solve_69_a (p3 := 0) (p4 := 0), k_X6_solve_82_a (p3 := 0) (p4 := 0), k_X6_solve_96_a (p3 := 0) (p4 := 0), k_X6_solve_97_a (p3 := 0) (p4 := 0), k_X6_solve_103_a (p3 := 0) (p4 := 0), k_X6_solve_119_a (p3 := 0) (p4 := 0), k_X6_solve_127_a (p3 := 0) (p4 := 0), k_X6_solve_132_a (p3 := 0) (p4 := 0), k_X6_solve_138_a (p3 := 0) (p4 := 0), k_X6_solve_144_a (p3 := 0) (p4 := 0), li_0, li_1, li_2, li_3, li_4, li_5, li_6, li_9, li_10, li_40, lm_1, lm_2, lm_3, lm_4, zs_ap, i32_add, i32_sub, i32_mul, i32_neg, i32_lt, i32_le, i32_eq, i32_nat, ckn, pka_r, pka_v, if_pos, if_neg, if_true, if_false, z1]
  refine Eq.trans e2 ?_
  show den none (Mean (d + 3)) none tQ_X6_solve (71, _, [], 176, zs Z2, J1, _) = _
  rw [k_X6_solve_71_a (p3 := 0) (p4 := 0) (hv_p2 := by omega)]
  simp (disch := omega) only [k_X6_solve_0_a, k_X6_solve_5_a (p3 := 0), k_X6_solve_13_a (p3 := 0) (p4 := 0), k_X6_solve_26_a (p3 := 0) (p4 := 0), k_X6_solve_37_a (p3 := 0) (p4 := 0), k_X6_solve_40_a (p3 := 0) (p4 := 0), k_X6_solve_42_a (p3 := 0) (p4 := 0), k_X6_solve_52_a (p3 := 0) (p4 := 0), k_X6_solve_53_a (p3 := 0) (p4 := 0), k_X6_solve_60_a (p3 := 0) (p4 := 0), k_X6_solve_63_a (p3 := 0) (p4 := 0), k_X6_solve_69_a (p3 := 0) (p4 := 0), k_X6_solve_82_a (p3 := 0) (p4 := 0), k_X6_solve_96_a (p3 := 0) (p4 := 0), k_X6_solve_97_a (p3 := 0) (p4 := 0), k_X6_solve_103_a (p3 := 0) (p4 := 0), k_X6_solve_119_a (p3 := 0) (p4 := 0), k_X6_solve_127_a (p3 := 0) (p4 := 0), k_X6_solve_132_a (p3 := 0) (p4 := 0), k_X6_solve_138_a (p3 := 0) (p4 := 0), k_X6_solve_144_a (p3 := 0) (p4 := 0), li_0, li_1, li_2, li_3, li_4, li_5, li_6, li_9, li_10, li_40, lm_1, lm_2, lm_3, lm_4, zs_ap, i32_add, i32_sub, i32_mul, i32_neg, i32_lt, i32_le, i32_eq, i32_nat, ckn, pka_r, pka_v, if_pos, if_neg, if_true, if_false, z2, zf]
  exact c4
theorem h_safeBits_a (hp : p2 = 5 ∨ p2 = 20) (hw : wf m) (hm : KM m p2 Z) {s t : Nat} (hs : s < qN m) (ht : t < qS m) : Mean (d + 1) 73 [.ref 43, .int (i32 (s : Int)), .int (i32 (t : Int))] (176, zs Z, J, RP p0 p1 p2 35 p2 p5 p6 p7) = some (some (.long (J (45 + qtt m t) s)), (176, zs Z, J, RP p0 p1 p2 35 p2 p5 p6 p7)) := by
  have hS := hw.1
  have hN := qpl_b hw (k := qP m) (Nat.le_refl _)
  have hN' : qN m = qpl m (qP m) := rfl
  have z13 : Z p2 13 = (qmode m : Int) := hm.1.2.2.2.2.1
  have hmd := hw.2.2.2.2.2.1.2.2.1
  obtain ⟨r1, r2⟩ := RPl (p0 := p0) (p1 := p1) (p2 := p2) (p3 := 35) (p4 := p2) (p5 := p5) (p6 := p6) (p7 := p7) (q := 43) (by omega) (show t < 3 by omega)
  have r1' : RP p0 p1 p2 35 p2 p5 p6 p7 44 t = some (45 + t) := r1
  have r2' : pshn (45 + t) = some (.inl (.long, 400)) := r2
  have s1' : RP p0 p1 p2 35 p2 p5 p6 p7 44 0 = some 45 := (RPl (p0 := p0) (p1 := p1) (p2 := p2) (p3 := 35) (p4 := p2) (p5 := p5) (p6 := p6) (p7 := p7) (q := 43) (by omega) (show 0 < 3 by omega)).1
  have s2' : pshn 45 = some (.inl (.long, 400)) := rfl
  have t0 : (0 : Int).toNat = 0 := rfl
  unfold qtt
  rw [e_X6_safeBits, k_X6_safeBits_0_a (hv_p4 := by omega)]
  by_cases c : qmode m = 0
  · rw [if_pos c]
    simp (disch := first | omega | assumption) only [k_X6_safeBits_14_a, k_X6_safeBits_18_a, k_X6_safeBits_19_a, k_X6_safeBits_20_a, k_X6_safeBits_22_a, li_0, li_1, li_2, li_3, li_4, li_5, li_6, li_9, li_10, li_40, lm_1, lm_2, lm_3, lm_4, zs_ap, i32_add, i32_sub, i32_mul, i32_neg, i32_lt, i32_le, i32_eq, i32_nat, ckn, pka_r, pka_v, if_pos, if_neg, if_true, if_false, z13, c, r1', va_rf, Int.toNat_natCast]
  · rw [if_neg c]
    simp (disch := first | omega | assumption) only [k_X6_safeBits_14_a, k_X6_safeBits_18_a, k_X6_safeBits_19_a, k_X6_safeBits_20_a, k_X6_safeBits_22_a, li_0, li_1, li_2, li_3, li_4, li_5, li_6, li_9, li_10, li_40, lm_1, lm_2, lm_3, lm_4, zs_ap, i32_add, i32_sub, i32_mul, i32_neg, i32_lt, i32_le, i32_eq, i32_nat, ckn, pka_r, pka_v, if_pos, if_neg, if_true, if_false, z13, t0, s1', va_rf, Int.toNat_natCast]
theorem h_fewest_a (hp : p2 = 5 ∨ p2 = 20) (hw : wf m) (hm : KM m p2 Z) (hr : ∀ u : Nat, u < qN m → LR m b 43 J u) {s t : Nat} (hs : s < qN m) (ht : t < qS m) : Mean (d + 2) 74 [.ref 43, .int (i32 (s : Int)), .int (i32 (t : Int))] (176, zs Z, J, RP p0 p1 p2 35 p2 p5 p6 p7) = some (some (.int (i32 (afew m b s (qtt m t)))), (176, zs Z, J, RP p0 p1 p2 35 p2 p5 p6 p7)) := by
  have sb := h_safeBits_a (d := d) (J := J) (p0 := p0) (p1 := p1) (p2 := p2) (p5 := p5) (p6 := p6) (p7 := p7) hp hw hm hs ht
  have hb : ∀ n : Nat, n < 41 → gb (J (45 + qtt m t) s) n = (fun n => sf m b n s (qtt m t)) n := fun n hn => by
    have := hr s hs (qtt m t) n (qtt_nlay hw ht) (by omega)
    rw [LB_safe hw] at this
    exact this
  generalize hx : J (45 + qtt m t) s = x at *
  have key := srch (fun n => den none (Mean (d + 1)) (some .int) tQ_X6_fewest (10, [some (.ref 43), some (.int (i32 (s : Int))), some (.int (i32 (t : Int))), some (.long x), none, some (.int (i32 (n : Int)))], [], 176, zs Z, J, RP p0 p1 p2 35 p2 p5 p6 p7)) (gb x) 41 (fun n => some (some (.int (i32 (n : Int))), (176, zs Z, J, RP p0 p1 p2 35 p2 p5 p6 p7))) (fun n hn hp => by
    have e0 : (lg_cmp ((x >>> ((i32 (n : Int)).toInt64 &&& 63)) &&& 1) 0 = i32 0) = False := by
      rw [cmp_z, gb_sgn x (by omega), hp]
      exact eq_false (by decide)
    rw [k_X6_fewest_10_a]
    simp (disch := omega) only [k_X6_fewest_0_a, k_X6_fewest_6_a, k_X6_fewest_17_a, k_X6_fewest_28_a, k_X6_fewest_31_a, k_X6_fewest_37_a, li_0, li_1, li_2, li_3, li_4, li_5, li_6, li_9, li_10, li_40, lm_1, lm_2, lm_3, lm_4, zs_ap, i32_add, i32_sub, i32_mul, i32_neg, i32_lt, i32_le, i32_eq, i32_nat, ckn, pka_r, pka_v, if_pos, if_neg, if_true, if_false, e0]) (fun n hn hp => by
    have e0 : (lg_cmp ((x >>> ((i32 (n : Int)).toInt64 &&& 63)) &&& 1) 0 = i32 0) = True := by
      rw [cmp_z, gb_sgn x (by omega), hp]
      exact eq_true rfl
    rw [k_X6_fewest_10_a]
    simp (disch := omega) only [k_X6_fewest_0_a, k_X6_fewest_6_a, k_X6_fewest_17_a, k_X6_fewest_28_a, k_X6_fewest_31_a, k_X6_fewest_37_a, li_0, li_1, li_2, li_3, li_4, li_5, li_6, li_9, li_10, li_40, lm_1, lm_2, lm_3, lm_4, zs_ap, i32_add, i32_sub, i32_mul, i32_neg, i32_lt, i32_le, i32_eq, i32_nat, ckn, pka_r, pka_v, if_pos, if_neg, if_true, if_false, e0]
    rfl)
  rw [e_X6_fewest, k_X6_fewest_0_a]
  simp only [sb, pka_r, k_X6_fewest_6_a]
  refine Eq.trans key ?_
  unfold afew
  rw [anyN_congr 41 hb, fstN_congr 41 hb]
  by_cases c : anyN (fun n => sf m b n s (qtt m t)) 41 = true
  · rw [if_pos c, if_pos c]
  · rw [if_neg c, if_neg c, k_X6_fewest_10_a]
    simp (disch := omega) only [k_X6_fewest_0_a, k_X6_fewest_6_a, k_X6_fewest_17_a, k_X6_fewest_28_a, k_X6_fewest_31_a, k_X6_fewest_37_a, li_0, li_1, li_2, li_3, li_4, li_5, li_6, li_9, li_10, li_40, lm_1, lm_2, lm_3, lm_4, zs_ap, i32_add, i32_sub, i32_mul, i32_neg, i32_lt, i32_le, i32_eq, i32_nat, ckn, pka_r, pka_v, if_pos, if_neg, if_true, if_false]
theorem h_isSafe_a (hw : wf m) (hr : ∀ u : Nat, u < qN m → LR m b 43 J u) {s t n : Nat} (hs : s < qN m) (ht : t < nlay m) (hn : n < 64) : Mean (d + 1) 75 [.ref 43, .int (i32 (t : Int)), .int (i32 (s : Int)), .int (i32 (n : Int))] (176, zs Z, J, RP p0 p1 p2 35 p2 p5 p6 p7) = some (some (.int (i32 (bB (LB m b t s n)))), (176, zs Z, J, RP p0 p1 p2 35 p2 p5 p6 p7)) := by
  have hN := qpl_b hw (k := qP m) (Nat.le_refl _)
  have hN' : qN m = qpl m (qP m) := rfl
  have nl := nlay_le hw
  obtain ⟨r1, r2⟩ := RPl (p0 := p0) (p1 := p1) (p2 := p2) (p3 := 35) (p4 := p2) (p5 := p5) (p6 := p6) (p7 := p7) (q := 43) (by omega) (show t < 3 by omega)
  have r1' : RP p0 p1 p2 35 p2 p5 p6 p7 44 t = some (45 + t) := r1
  have r2' : pshn (45 + t) = some (.inl (.long, 400)) := r2
  have hb : gb (J (45 + t) s) n = LB m b t s n := hr s hs t n ht hn
  rw [← hb, e_X6_isSafe, k_X6_isSafe_0_a]
  cases c : gb (J (45 + t) s) n
  · have e0 : (lg_cmp ((J (45 + t) s >>> ((i32 (n : Int)).toInt64 &&& 63)) &&& 1) 0 = i32 0) = True := by
      rw [cmp_z, gb_sgn _ hn, c]
      exact eq_true rfl
    simp (disch := first | omega | assumption) only [k_X6_isSafe_6_a, k_X6_isSafe_8_a, k_X6_isSafe_17_a, k_X6_isSafe_21_a, k_X6_isSafe_22_a, li_0, li_1, li_2, li_3, li_4, li_5, li_6, li_9, li_10, li_40, lm_1, lm_2, lm_3, lm_4, zs_ap, i32_add, i32_sub, i32_mul, i32_neg, i32_lt, i32_le, i32_eq, i32_nat, ckn, pka_r, pka_v, if_pos, if_neg, if_true, if_false, r1', va_rf, Int.toNat_natCast, e0, bBf, true_or]
  · have e0 : (lg_cmp ((J (45 + t) s >>> ((i32 (n : Int)).toInt64 &&& 63)) &&& 1) 0 = i32 0) = False := by
      rw [cmp_z, gb_sgn _ hn, c]
      exact eq_false (by decide)
    simp (disch := first | omega | assumption) only [k_X6_isSafe_6_a, k_X6_isSafe_8_a, k_X6_isSafe_17_a, k_X6_isSafe_21_a, k_X6_isSafe_22_a, li_0, li_1, li_2, li_3, li_4, li_5, li_6, li_9, li_10, li_40, lm_1, lm_2, lm_3, lm_4, zs_ap, i32_add, i32_sub, i32_mul, i32_neg, i32_lt, i32_le, i32_eq, i32_nat, ckn, pka_r, pka_v, if_pos, if_neg, if_true, if_false, r1', va_rf, Int.toNat_natCast, e0, bBt, or_true]
end
section
variable {d : Nat} {J : Nat → Nat → Int64} {Z : Nat → Nat → Int} {p0 p1 p2 p3 p4 p7 : Nat} {q8 q9 : Nat} {m : Mat} {b : Nat → Int}
theorem h_solve_b (hp : p2 = 5 ∨ p2 = 20) (hw : wf m) (hb : bOK m b) (hm : KM m p2 Z) (hk : KS m 35 Z) {g2 : Nat} (hg : pshn g2 = some (.inl (.int, 3))) (hg2 : g2 ≠ 117 ∧ g2 ≠ 118 ∧ g2 ≠ 120) (hz2 : ∀ i : Nat, i < qS m → Z g2 i = b i) : ∃ (Z' : Nat → Nat → Int) (J' : Nat → Nat → Int64), (∀ a : Nat, a ≠ 117 → a ≠ 118 → a ≠ 120 → Z' a = Z a) ∧ (∀ a : Nat, (a < 114 ∨ 116 < a) → a ≠ 119 → J' a = J a) ∧ KR m b 112 Z' J' ∧ Mean (d + 4) 64 [.ref 112, .ref 35, .ref g2] (176, zs Z, J, RP p0 p1 p2 p3 p4 q8 q9 p7) = some (none, (176, zs Z', J', RP p0 p1 p2 p3 p4 35 p2 p7)) := by
  have hS := hw.1
  have hP := hw.2.1
  have hfin := qfin_lt hw
  have hN := qpl_b hw (k := qP m) (Nat.le_refl _)
  have hN' : qN m = qpl m (qP m) := rfl
  obtain ⟨⟨Z1, J1⟩, ⟨v1, v2, v3, v4, v5⟩, e1⟩ := up_inv (fun (i : Nat) (y : (Nat → Nat → Int) × (Nat → Nat → Int64)) => den none (Mean (d + 3)) none tQ_X6_solve (15, [some (.ref 112), some (.ref 35), some (.ref g2), some (.int (i32 (i : Int))), none], [], 176, zs y.1, y.2, RP p0 p1 p2 p3 p4 35 p2 p7)) (qS m) (fun i y => (∀ a : Nat, a ≠ 117 → a ≠ 120 → y.1 a = Z a) ∧ (∀ a : Nat, (a < 114 ∨ 116 < a) → y.2 a = J a) ∧ (∀ j : Nat, j < i → y.1 120 j = qgoal m j + b j) ∧ (∀ j : Nat, j < i → y.1 117 j = lbh m j) ∧ (∀ j : Nat, j < i → ∀ s : Nat, s < qN m → y.2 (114 + j) s = if s = qfin m then 1 else 0)) (fun i y hi hv => by
    obtain ⟨Z1, J1⟩ := y
    obtain ⟨v1, v2, v3, v4, v5⟩ := hv
    simp only at v1 v2 v3 v4 v5
    have z1 : Z1 p2 1 = (qS m : Int) := by rw [v1 _ (by omega) (by omega)]; exact hm.1.1
    have zg : Z1 41 i = qgoal m i := by rw [v1 _ (by decide) (by decide)]; exact hk.2.2 i hi
    have zb : Z1 g2 i = b i := by rw [v1 _ (by omega) (by omega)]; exact hz2 i hi
    obtain ⟨r1, r2⟩ := RPl (p0 := p0) (p1 := p1) (p2 := p2) (p3 := p3) (p4 := p4) (p5 := 35) (p6 := p2) (p7 := p7) (q := 112) (by omega) (show i < 3 by omega)
    have r1' : RP p0 p1 p2 p3 p4 35 p2 p7 113 i = some (114 + i) := r1
    have hm2 : KM m p2 (u2 Z1 120 i (qgoal m i + b i)) := KM_fr hP hm (fun a h1 h2 => by rw [u2_ne (by omega)]; exact v1 a (by omega) (by omega))
    have lb := h_layerBehind_b (d := d + 1) (J := J1) (p0 := p0) (p1 := p1) (p2 := p2) (p3 := p3) (p4 := p4) (p7 := p7) hp hw hm2 hi
    have hk3 : KW m 35 (u2 (u2 Z1 120 i (qgoal m i + b i)) 117 i (lbh m i)) := (KS_fr hS.2 hk (fun a h1 h2 => by rw [u2_ne (by omega), u2_ne (by omega)]; exact v1 a (by omega) (by omega))).1
    obtain ⟨J2, b1, b2, b3⟩ := h_clearLayer_b (d := d + 2) (J := J1) (p0 := p0) (p1 := p1) (p2 := p2) (p3 := p3) (p4 := p4) (p7 := p7) hw hk3 (t := i) (by omega)
    refine ⟨(u2 (u2 Z1 120 i (qgoal m i + b i)) 117 i (lbh m i), J2), ⟨fun a h1 h2 => ?_, fun a ha => ?_, fun j hj => ?_, fun j hj => ?_, fun j hj s hs => ?_⟩, ?_⟩
    · dsimp only
      rw [u2_ne h1, u2_ne h2]
      exact v1 a h1 h2
    · dsimp only
      rw [b1 a (by omega)]
      exact v2 a ha
    · dsimp only
      rw [u2_ne (by decide)]
      by_cases cj : j = i
      · rw [cj, u2s]
      · rw [u2f cj]
        exact v3 j (by omega)
    · dsimp only
      by_cases cj : j = i
      · rw [cj, u2s]
      · rw [u2f cj, u2_ne (by decide)]
        exact v4 j (by omega)
    · dsimp only
      by_cases cj : j = i
      · rw [cj]
        exact b2 s hs
      · rw [b1 _ (by omega)]
        exact v5 j (by omega) s hs
    · show den none (Mean (d + 3)) none tQ_X6_solve (15, _, [], 176, zs Z1, J1, _) = den none (Mean (d + 3)) none tQ_X6_solve (15, _, [], 176, zs _, J2, _)
      rw [k_X6_solve_15_b (p5 := 0) (p6 := 0) (hv_p2 := by omega)]
      simp (disch := first | omega | assumption) only [k_X6_solve_0_b, k_X6_solve_5_b (p5 := 0), k_X6_solve_13_b (p5 := 0) (p6 := 0), k_X6_solve_26_b (p5 := 0) (p6 := 0), k_X6_solve_37_b (p5 := 0) (p6 := 0), k_X6_solve_40_b (p5 := 0) (p6 := 0), k_X6_solve_42_b (p5 := 0) (p6 := 0), k_X6_solve_52_b (p5 := 0) (p6 := 0), k_X6_solve_53_b (p5 := 0) (p6 := 0), k_X6_solve_60_b (p5 := 0) (p6 := 0), k_X6_solve_63_b (p5 := 0) (p6 := 0), k_X6_solve_69_b (p5 := 0) (p6 := 0), k_X6_solve_82_b (p5 := 0) (p6 := 0), k_X6_solve_96_b (p5 := 0) (p6 := 0), k_X6_solve_97_b (p5 := 0) (p6 := 0), k_X6_solve_103_b (p5 := 0) (p6 := 0), k_X6_solve_119_b (p5 := 0) (p6 := 0), k_X6_solve_127_b (p5 := 0) (p6 := 0), k_X6_solve_132_b (p5 := 0) (p6 := 0), k_X6_solve_138_b (p5 := 0) (p6 := 0), k_X6_solve_144_b (p5 := 0) (p6 := 0), li_0, li_1, li_2, li_3, li_4, li_5, li_6, li_9, li_10, li_40, lm_1, lm_2, lm_3, lm_4, zs_ap, i32_add, i32_sub, i32_mul, i32_neg, i32_lt, i32_le, i32_eq, i32_nat, ckn, pka_r, pka_v, if_pos, if_neg, if_true, if_false, z1, zg, zb, Int.toNat_natCast, zs_u2, lb, r1', va_rf, b3]
      rfl) (Z, J) ⟨fun _ _ _ => rfl, fun _ _ => rfl, fun j hj => by omega, fun j hj => by omega, fun j hj => by omega⟩
  simp only at v1 v2 v3 v4 v5 e1
  obtain ⟨Z2, ⟨w1, w2, w3⟩, e2⟩ := up_inv (fun (k : Nat) (Z : Nat → Nat → Int) => den none (Mean (d + 3)) none tQ_X6_solve (71, [some (.ref 112), some (.ref 35), some (.ref g2), some (.int (i32 (k : Int))), none], [], 176, zs Z, J1, RP p0 p1 p2 p3 p4 35 p2 p7)) (qP m) (fun k Z' => (∀ a : Nat, a ≠ 118 → Z' a = Z1 a) ∧ (∀ j : Nat, j < k → Z' 118 j = qkept m j) ∧ True) (fun k Z2 hk' hv => by
    obtain ⟨v1', v2', _⟩ := hv
    have hm2 : KM m p2 Z2 := KM_fr hP hm (fun a h1 h2 => by rw [v1' a (by omega)]; exact v1 a (by omega) (by omega))
    have z2 : Z2 p2 2 = (qP m : Int) := hm2.1.2.1
    have z4 : Z2 (p2 + 4) k = (qkept m k : Int) := (hm2.2.1 k hk').2.2.1
    refine ⟨u2 Z2 118 k (qkept m k), ⟨fun a ha => (u2_ne ha).trans (v1' a ha), fun j hj => ?_, trivial⟩, ?_⟩
    · by_cases cj : j = k
      · rw [cj, u2s]
      · rw [u2f cj]
        exact v2' j (by omega)
    · show den none (Mean (d + 3)) none tQ_X6_solve (71, _, [], 176, zs Z2, J1, _) = _
      rw [k_X6_solve_71_b (p5 := 0) (p6 := 0) (hv_p2 := by omega)]
      simp (disch := omega) only [k_X6_solve_0_b, k_X6_solve_5_b (p5 := 0), k_X6_solve_13_b (p5 := 0) (p6 := 0), k_X6_solve_26_b (p5 := 0) (p6 := 0), k_X6_solve_37_b (p5 := 0) (p6 := 0), k_X6_solve_40_b (p5 := 0) (p6 := 0), k_X6_solve_42_b (p5 := 0) (p6 := 0), k_X6_solve_52_b (p5 := 0) (p6 := 0), k_X6_solve_53_b (p5 := 0) (p6 := 0), k_X6_solve_60_b (p5 := 0) (p6 := 0), k_X6_solve_63_b (p5 := 0) (p6 := 0), k_X6_solve_69_b (p5 := 0) (p6 := 0), k_X6_solve_82_b (p5 := 0) (p6 := 0), k_X6_solve_96_b (p5 := 0) (p6 := 0), k_X6_solve_97_b (p5 := 0) (p6 := 0), k_X6_solve_103_b (p5 := 0) (p6 := 0), k_X6_solve_119_b (p5 := 0) (p6 := 0), k_X6_solve_127_b (p5 := 0) (p6 := 0), k_X6_solve_132_b (p5 := 0) (p6 := 0), k_X6_solve_138_b (p5 := 0) (p6 := 0), k_X6_solve_144_b (p5 := 0) (p6 := 0), li_0, li_1, li_2, li_3, li_4, li_5, li_6, li_9, li_10, li_40, lm_1, lm_2, lm_3, lm_4, zs_ap, i32_add, i32_sub, i32_mul, i32_neg, i32_lt, i32_le, i32_eq, i32_nat, ckn, pka_r, pka_v, if_pos, if_neg, if_true, if_false, z2, z4, Int.toNat_natCast, zs_u2]
      rfl) Z1 ⟨fun _ _ => rfl, fun j hj => by omega, trivial⟩
  have fr2 : ∀ a : Nat, a ≠ 117 → a ≠ 118 → a ≠ 120 → Z2 a = Z a := fun a h1 h2 h3 => (w1 a h2).trans (v1 a h1 h3)
  have hm2 : KM m p2 Z2 := KM_fr hP hm (fun a h1 h2 => fr2 a (by omega) (by omega) (by omega))
  have hk2 : KS m 35 Z2 := KS_fr hS.2 hk (fun a h1 h2 => fr2 a (by omega) (by omega) (by omega))
  have hr2 : KB m b 112 Z2 := ⟨fun i hi => by rw [w1 _ (by decide)]; exact v3 i hi, fun i hi => by rw [w1 _ (by decide)]; exact v4 i hi⟩
  have nl := nlay_le hw
  have hlow : ∀ u : Nat, u ≤ qfin m → LR m b 112 J1 u := fun u hu t n ht hn => by
    have e0 : J1 (112 + 2 + t) u = if u = qfin m then 1 else 0 := v5 t (by omega) u (by omega)
    rw [e0]
    by_cases cu : u = qfin m
    · rw [if_pos cu, gb_1 hn, cu]
      have e9 : ∀ t : Nat, sf m b n (qfin m) t = decide (n = 0) := fun t => by
        cases n with
        | zero => show decide (qfin m = qfin m) = _; simp
        | succ n => show ((!decide (qfin m = qfin m) && _) && _) = _; simp
      unfold LB
      by_cases c2 : qmode m = 2
      · rw [if_pos c2, AL_TJ, e9]
        have e8 : TJ m (qfin m) (fun u => sf m b n u 0) t = false := by
          have key : ∀ j : Nat, TJ m (qfin m) (fun u => sf m b n u 0) j = false := by
            intro j
            induction j with
            | zero => rfl
            | succ j ih =>
              rw [TJ_s, ih, Bool.false_or]
              cases c : givs m (qfin m) (fun k => decide (qown m k = qS m - 1 - j)) (AL m (fun u => sf m b n u 0) j)
              · rfl
              · obtain ⟨k, q, h1, _, _, h4, _⟩ := givs_iff.mp c
                have := may_le h4
                rw [has_fin hw h1] at this
                omega
          exact key t
        rw [e8, Bool.or_false]
      · rw [if_neg c2, e9]
    · rw [if_neg cu, gb_0]
      cases c : LB m b t u n
      · rfl
      · exact absurd (fin_least (by omega) (LB_ok hw (by omega) c)) (by omega)
  obtain ⟨Z3, J3, c1, c2, c3, c4⟩ := sv_loop_b (d := d) (p0 := p0) (p1 := p1) (p2 := p2) (p3 := p3) (p4 := p4) (p7 := p7) hp hw hb Z2 hm2 hk2 hr2 g2 (qbeg m - qfin m) (qfin m) 0 Z2 J1 J1 rfl hfin (by omega) (ok_fin hw) (fun _ _ => rfl) (fun k hk' => by rw [w2 k hk', has_fin hw hk']) hlow (fun u t h1 h2 ht => by
    rw [v5 t (by omega) u h2, if_neg (by omega)]) (fun _ _ _ => rfl)
  refine ⟨Z3, J3, fun a h1 h2 h3 => (c1 a h2).trans (fr2 a h1 h2 h3), fun a h1 h2 => (c2 a h1 h2).trans (v2 a h1), ⟨⟨fun i hi => by rw [c1 _ (by decide)]; exact hr2.1 i hi, fun i hi => by rw [c1 _ (by decide)]; exact hr2.2 i hi⟩, c3⟩, ?_⟩
  have z1 : Z1 p2 1 = (qS m : Int) := by rw [v1 _ (by omega) (by omega)]; exact hm.1.1
  have z2 : Z2 p2 2 = (qP m : Int) := hm2.1.2.1
  have zf : Z2 35 3 = (qfin m : Int) := hk2.1.1.2.2
  rw [e_X6_solve, k_X6_solve_0_b, k_X6_solve_5_b (p5 := 0), k_X6_solve_13_b (p5 := 0) (p6 := 0)]
  refine Eq.trans e1 ?_
  show den none (Mean (d + 3)) none tQ_X6_solve (15, _, [], 176, zs Z1, J1, _) = _
  rw [k_X6_solve_15_b (p5 := 0) (p6 := 0) (hv_p2 := by omega)]
  simp (disch := omega) only [k_X6_solve_0_b, k_X6_solve_5_b (p5 := 0), k_X6_solve_13_b (p5 := 0) (p6 := 0), k_X6_solve_26_b (p5 := 0) (p6 := 0), k_X6_solve_37_b (p5 := 0) (p6 := 0), k_X6_solve_40_b (p5 := 0) (p6 := 0), k_X6_solve_42_b (p5 := 0) (p6 := 0), k_X6_solve_52_b (p5 := 0) (p6 := 0), k_X6_solve_53_b (p5 := 0) (p6 := 0), k_X6_solve_60_b (p5 := 0) (p6 := 0), k_X6_solve_63_b (p5 := 0) (p6 := 0), k_X6_solve_69_b (p5 := 0) (p6 := 0), k_X6_solve_82_b (p5 := 0) (p6 := 0), k_X6_solve_96_b (p5 := 0) (p6 := 0), k_X6_solve_97_b (p5 := 0) (p6 := 0), k_X6_solve_103_b (p5 := 0) (p6 := 0), k_X6_solve_119_b (p5 := 0) (p6 := 0), k_X6_solve_127_b (p5 := 0) (p6 := 0), k_X6_solve_132_b (p5 := 0) (p6 := 0), k_X6_solve_138_b (p5 := 0) (p6 := 0), k_X6_solve_144_b (p5 := 0) (p6 := 0), li_0, li_1, li_2, li_3, li_4, li_5, li_6, li_9, li_10, li_40, lm_1, lm_2, lm_3, lm_4, zs_ap, i32_add, i32_sub, i32_mul, i32_neg, i32_lt, i32_le, i32_eq, i32_nat, ckn, pka_r, pka_v, if_pos, if_neg, if_true, if_false, z1]
  refine Eq.trans e2 ?_
  show den none (Mean (d + 3)) none tQ_X6_solve (71, _, [], 176, zs Z2, J1, _) = _
  rw [k_X6_solve_71_b (p5 := 0) (p6 := 0) (hv_p2 := by omega)]
  simp (disch := omega) only [k_X6_solve_0_b, k_X6_solve_5_b (p5 := 0), k_X6_solve_13_b (p5 := 0) (p6 := 0), k_X6_solve_26_b (p5 := 0) (p6 := 0), k_X6_solve_37_b (p5 := 0) (p6 := 0), k_X6_solve_40_b (p5 := 0) (p6 := 0), k_X6_solve_42_b (p5 := 0) (p6 := 0), k_X6_solve_52_b (p5 := 0) (p6 := 0), k_X6_solve_53_b (p5 := 0) (p6 := 0), k_X6_solve_60_b (p5 := 0) (p6 := 0), k_X6_solve_63_b (p5 := 0) (p6 := 0), k_X6_solve_69_b (p5 := 0) (p6 := 0), k_X6_solve_82_b (p5 := 0) (p6 := 0), k_X6_solve_96_b (p5 := 0) (p6 := 0), k_X6_solve_97_b (p5 := 0) (p6 := 0), k_X6_solve_103_b (p5 := 0) (p6 := 0), k_X6_solve_119_b (p5 := 0) (p6 := 0), k_X6_solve_127_b (p5 := 0) (p6 := 0), k_X6_solve_132_b (p5 := 0) (p6 := 0), k_X6_solve_138_b (p5 := 0) (p6 := 0), k_X6_solve_144_b (p5 := 0) (p6 := 0), li_0, li_1, li_2, li_3, li_4, li_5, li_6, li_9, li_10, li_40, lm_1, lm_2, lm_3, lm_4, zs_ap, i32_add, i32_sub, i32_mul, i32_neg, i32_lt, i32_le, i32_eq, i32_nat, ckn, pka_r, pka_v, if_pos, if_neg, if_true, if_false, z2, zf]
  exact c4
theorem h_safeBits_b (hp : p2 = 5 ∨ p2 = 20) (hw : wf m) (hm : KM m p2 Z) {s t : Nat} (hs : s < qN m) (ht : t < qS m) : Mean (d + 1) 73 [.ref 112, .int (i32 (s : Int)), .int (i32 (t : Int))] (176, zs Z, J, RP p0 p1 p2 p3 p4 35 p2 p7) = some (some (.long (J (114 + qtt m t) s)), (176, zs Z, J, RP p0 p1 p2 p3 p4 35 p2 p7)) := by
  have hS := hw.1
  have hN := qpl_b hw (k := qP m) (Nat.le_refl _)
  have hN' : qN m = qpl m (qP m) := rfl
  have z13 : Z p2 13 = (qmode m : Int) := hm.1.2.2.2.2.1
  have hmd := hw.2.2.2.2.2.1.2.2.1
  obtain ⟨r1, r2⟩ := RPl (p0 := p0) (p1 := p1) (p2 := p2) (p3 := p3) (p4 := p4) (p5 := 35) (p6 := p2) (p7 := p7) (q := 112) (by omega) (show t < 3 by omega)
  have r1' : RP p0 p1 p2 p3 p4 35 p2 p7 113 t = some (114 + t) := r1
  have r2' : pshn (114 + t) = some (.inl (.long, 400)) := r2
  have s1' : RP p0 p1 p2 p3 p4 35 p2 p7 113 0 = some 114 := (RPl (p0 := p0) (p1 := p1) (p2 := p2) (p3 := p3) (p4 := p4) (p5 := 35) (p6 := p2) (p7 := p7) (q := 112) (by omega) (show 0 < 3 by omega)).1
  have s2' : pshn 114 = some (.inl (.long, 400)) := rfl
  have t0 : (0 : Int).toNat = 0 := rfl
  unfold qtt
  rw [e_X6_safeBits, k_X6_safeBits_0_b (hv_p6 := by omega)]
  by_cases c : qmode m = 0
  · rw [if_pos c]
    simp (disch := first | omega | assumption) only [k_X6_safeBits_14_b, k_X6_safeBits_18_b, k_X6_safeBits_19_b, k_X6_safeBits_20_b, k_X6_safeBits_22_b, li_0, li_1, li_2, li_3, li_4, li_5, li_6, li_9, li_10, li_40, lm_1, lm_2, lm_3, lm_4, zs_ap, i32_add, i32_sub, i32_mul, i32_neg, i32_lt, i32_le, i32_eq, i32_nat, ckn, pka_r, pka_v, if_pos, if_neg, if_true, if_false, z13, c, r1', va_rf, Int.toNat_natCast]
  · rw [if_neg c]
    simp (disch := first | omega | assumption) only [k_X6_safeBits_14_b, k_X6_safeBits_18_b, k_X6_safeBits_19_b, k_X6_safeBits_20_b, k_X6_safeBits_22_b, li_0, li_1, li_2, li_3, li_4, li_5, li_6, li_9, li_10, li_40, lm_1, lm_2, lm_3, lm_4, zs_ap, i32_add, i32_sub, i32_mul, i32_neg, i32_lt, i32_le, i32_eq, i32_nat, ckn, pka_r, pka_v, if_pos, if_neg, if_true, if_false, z13, t0, s1', va_rf, Int.toNat_natCast]
theorem h_fewest_b (hp : p2 = 5 ∨ p2 = 20) (hw : wf m) (hm : KM m p2 Z) (hr : ∀ u : Nat, u < qN m → LR m b 112 J u) {s t : Nat} (hs : s < qN m) (ht : t < qS m) : Mean (d + 2) 74 [.ref 112, .int (i32 (s : Int)), .int (i32 (t : Int))] (176, zs Z, J, RP p0 p1 p2 p3 p4 35 p2 p7) = some (some (.int (i32 (afew m b s (qtt m t)))), (176, zs Z, J, RP p0 p1 p2 p3 p4 35 p2 p7)) := by
  have sb := h_safeBits_b (d := d) (J := J) (p0 := p0) (p1 := p1) (p2 := p2) (p3 := p3) (p4 := p4) (p7 := p7) hp hw hm hs ht
  have hb : ∀ n : Nat, n < 41 → gb (J (114 + qtt m t) s) n = (fun n => sf m b n s (qtt m t)) n := fun n hn => by
    have := hr s hs (qtt m t) n (qtt_nlay hw ht) (by omega)
    rw [LB_safe hw] at this
    exact this
  generalize hx : J (114 + qtt m t) s = x at *
  have key := srch (fun n => den none (Mean (d + 1)) (some .int) tQ_X6_fewest (10, [some (.ref 112), some (.int (i32 (s : Int))), some (.int (i32 (t : Int))), some (.long x), none, some (.int (i32 (n : Int)))], [], 176, zs Z, J, RP p0 p1 p2 p3 p4 35 p2 p7)) (gb x) 41 (fun n => some (some (.int (i32 (n : Int))), (176, zs Z, J, RP p0 p1 p2 p3 p4 35 p2 p7))) (fun n hn hp => by
    have e0 : (lg_cmp ((x >>> ((i32 (n : Int)).toInt64 &&& 63)) &&& 1) 0 = i32 0) = False := by
      rw [cmp_z, gb_sgn x (by omega), hp]
      exact eq_false (by decide)
    rw [k_X6_fewest_10_b]
    simp (disch := omega) only [k_X6_fewest_0_b, k_X6_fewest_6_b, k_X6_fewest_17_b, k_X6_fewest_28_b, k_X6_fewest_31_b, k_X6_fewest_37_b, li_0, li_1, li_2, li_3, li_4, li_5, li_6, li_9, li_10, li_40, lm_1, lm_2, lm_3, lm_4, zs_ap, i32_add, i32_sub, i32_mul, i32_neg, i32_lt, i32_le, i32_eq, i32_nat, ckn, pka_r, pka_v, if_pos, if_neg, if_true, if_false, e0]) (fun n hn hp => by
    have e0 : (lg_cmp ((x >>> ((i32 (n : Int)).toInt64 &&& 63)) &&& 1) 0 = i32 0) = True := by
      rw [cmp_z, gb_sgn x (by omega), hp]
      exact eq_true rfl
    rw [k_X6_fewest_10_b]
    simp (disch := omega) only [k_X6_fewest_0_b, k_X6_fewest_6_b, k_X6_fewest_17_b, k_X6_fewest_28_b, k_X6_fewest_31_b, k_X6_fewest_37_b, li_0, li_1, li_2, li_3, li_4, li_5, li_6, li_9, li_10, li_40, lm_1, lm_2, lm_3, lm_4, zs_ap, i32_add, i32_sub, i32_mul, i32_neg, i32_lt, i32_le, i32_eq, i32_nat, ckn, pka_r, pka_v, if_pos, if_neg, if_true, if_false, e0]
    rfl)
  rw [e_X6_fewest, k_X6_fewest_0_b]
  simp only [sb, pka_r, k_X6_fewest_6_b]
  refine Eq.trans key ?_
  unfold afew
  rw [anyN_congr 41 hb, fstN_congr 41 hb]
  by_cases c : anyN (fun n => sf m b n s (qtt m t)) 41 = true
  · rw [if_pos c, if_pos c]
  · rw [if_neg c, if_neg c, k_X6_fewest_10_b]
    simp (disch := omega) only [k_X6_fewest_0_b, k_X6_fewest_6_b, k_X6_fewest_17_b, k_X6_fewest_28_b, k_X6_fewest_31_b, k_X6_fewest_37_b, li_0, li_1, li_2, li_3, li_4, li_5, li_6, li_9, li_10, li_40, lm_1, lm_2, lm_3, lm_4, zs_ap, i32_add, i32_sub, i32_mul, i32_neg, i32_lt, i32_le, i32_eq, i32_nat, ckn, pka_r, pka_v, if_pos, if_neg, if_true, if_false]
theorem h_isSafe_b (hw : wf m) (hr : ∀ u : Nat, u < qN m → LR m b 112 J u) {s t n : Nat} (hs : s < qN m) (ht : t < nlay m) (hn : n < 64) : Mean (d + 1) 75 [.ref 112, .int (i32 (t : Int)), .int (i32 (s : Int)), .int (i32 (n : Int))] (176, zs Z, J, RP p0 p1 p2 p3 p4 35 p2 p7) = some (some (.int (i32 (bB (LB m b t s n)))), (176, zs Z, J, RP p0 p1 p2 p3 p4 35 p2 p7)) := by
  have hN := qpl_b hw (k := qP m) (Nat.le_refl _)
  have hN' : qN m = qpl m (qP m) := rfl
  have nl := nlay_le hw
  obtain ⟨r1, r2⟩ := RPl (p0 := p0) (p1 := p1) (p2 := p2) (p3 := p3) (p4 := p4) (p5 := 35) (p6 := p2) (p7 := p7) (q := 112) (by omega) (show t < 3 by omega)
  have r1' : RP p0 p1 p2 p3 p4 35 p2 p7 113 t = some (114 + t) := r1
  have r2' : pshn (114 + t) = some (.inl (.long, 400)) := r2
  have hb : gb (J (114 + t) s) n = LB m b t s n := hr s hs t n ht hn
  rw [← hb, e_X6_isSafe, k_X6_isSafe_0_b]
  cases c : gb (J (114 + t) s) n
  · have e0 : (lg_cmp ((J (114 + t) s >>> ((i32 (n : Int)).toInt64 &&& 63)) &&& 1) 0 = i32 0) = True := by
      rw [cmp_z, gb_sgn _ hn, c]
      exact eq_true rfl
    simp (disch := first | omega | assumption) only [k_X6_isSafe_6_b, k_X6_isSafe_8_b, k_X6_isSafe_17_b, k_X6_isSafe_21_b, k_X6_isSafe_22_b, li_0, li_1, li_2, li_3, li_4, li_5, li_6, li_9, li_10, li_40, lm_1, lm_2, lm_3, lm_4, zs_ap, i32_add, i32_sub, i32_mul, i32_neg, i32_lt, i32_le, i32_eq, i32_nat, ckn, pka_r, pka_v, if_pos, if_neg, if_true, if_false, r1', va_rf, Int.toNat_natCast, e0, bBf, true_or]
  · have e0 : (lg_cmp ((J (114 + t) s >>> ((i32 (n : Int)).toInt64 &&& 63)) &&& 1) 0 = i32 0) = False := by
      rw [cmp_z, gb_sgn _ hn, c]
      exact eq_false (by decide)
    simp (disch := first | omega | assumption) only [k_X6_isSafe_6_b, k_X6_isSafe_8_b, k_X6_isSafe_17_b, k_X6_isSafe_21_b, k_X6_isSafe_22_b, li_0, li_1, li_2, li_3, li_4, li_5, li_6, li_9, li_10, li_40, lm_1, lm_2, lm_3, lm_4, zs_ap, i32_add, i32_sub, i32_mul, i32_neg, i32_lt, i32_le, i32_eq, i32_nat, ckn, pka_r, pka_v, if_pos, if_neg, if_true, if_false, r1', va_rf, Int.toNat_natCast, e0, bBt, or_true]
end
section
variable {d : Nat} {J : Nat → Nat → Int64} {Z : Nat → Nat → Int} {p0 p1 p2 p3 p4 : Nat} {q8 q9 : Nat} {m : Mat} {b : Nat → Int}
theorem h_solve_c  (hw : wf m) (hb : bOK m b) (hm : KM m 97 Z) (hk : KS m 121 Z) {g2 : Nat} (hg : pshn g2 = some (.inl (.int, 3))) (hg2 : g2 ≠ 117 ∧ g2 ≠ 118 ∧ g2 ≠ 120) (hz2 : ∀ i : Nat, i < qS m → Z g2 i = b i) : ∃ (Z' : Nat → Nat → Int) (J' : Nat → Nat → Int64), (∀ a : Nat, a ≠ 117 → a ≠ 118 → a ≠ 120 → Z' a = Z a) ∧ (∀ a : Nat, (a < 114 ∨ 116 < a) → a ≠ 119 → J' a = J a) ∧ KR m b 112 Z' J' ∧ Mean (d + 4) 64 [.ref 112, .ref 121, .ref g2] (176, zs Z, J, RP p0 p1 p2 p3 p4 q8 q9 97) = some (none, (176, zs Z', J', RP p0 p1 p2 p3 p4 121 97 97)) := by
  have hS := hw.1
  have hP := hw.2.1
  have hfin := qfin_lt hw
  have hN := qpl_b hw (k := qP m) (Nat.le_refl _)
  have hN' : qN m = qpl m (qP m) := rfl
  obtain ⟨⟨Z1, J1⟩, ⟨v1, v2, v3, v4, v5⟩, e1⟩ := up_inv (fun (i : Nat) (y : (Nat → Nat → Int) × (Nat → Nat → Int64)) => den none (Mean (d + 3)) none tQ_X6_solve (15, [some (.ref 112), some (.ref 121), some (.ref g2), some (.int (i32 (i : Int))), none], [], 176, zs y.1, y.2, RP p0 p1 p2 p3 p4 121 97 97)) (qS m) (fun i y => (∀ a : Nat, a ≠ 117 → a ≠ 120 → y.1 a = Z a) ∧ (∀ a : Nat, (a < 114 ∨ 116 < a) → y.2 a = J a) ∧ (∀ j : Nat, j < i → y.1 120 j = qgoal m j + b j) ∧ (∀ j : Nat, j < i → y.1 117 j = lbh m j) ∧ (∀ j : Nat, j < i → ∀ s : Nat, s < qN m → y.2 (114 + j) s = if s = qfin m then 1 else 0)) (fun i y hi hv => by
    obtain ⟨Z1, J1⟩ := y
    obtain ⟨v1, v2, v3, v4, v5⟩ := hv
    simp only at v1 v2 v3 v4 v5
    have z1 : Z1 97 1 = (qS m : Int) := by rw [v1 _ (by omega) (by omega)]; exact hm.1.1
    have zg : Z1 127 i = qgoal m i := by rw [v1 _ (by decide) (by decide)]; exact hk.2.2 i hi
    have zb : Z1 g2 i = b i := by rw [v1 _ (by omega) (by omega)]; exact hz2 i hi
    obtain ⟨r1, r2⟩ := RPl (p0 := p0) (p1 := p1) (p2 := p2) (p3 := p3) (p4 := p4) (p5 := 121) (p6 := 97) (p7 := 97) (q := 112) (by omega) (show i < 3 by omega)
    have r1' : RP p0 p1 p2 p3 p4 121 97 97 113 i = some (114 + i) := r1
    have hm2 : KM m 97 (u2 Z1 120 i (qgoal m i + b i)) := KM_fr hP hm (fun a h1 h2 => by rw [u2_ne (by omega)]; exact v1 a (by omega) (by omega))
    have lb := h_layerBehind_c (d := d + 1) (J := J1) (p0 := p0) (p1 := p1) (p2 := p2) (p3 := p3) (p4 := p4)  hw hm2 hi
    have hk3 : KW m 121 (u2 (u2 Z1 120 i (qgoal m i + b i)) 117 i (lbh m i)) := (KS_fr hS.2 hk (fun a h1 h2 => by rw [u2_ne (by omega), u2_ne (by omega)]; exact v1 a (by omega) (by omega))).1
    obtain ⟨J2, b1, b2, b3⟩ := h_clearLayer_c (d := d + 2) (J := J1) (p0 := p0) (p1 := p1) (p2 := p2) (p3 := p3) (p4 := p4) hw hk3 (t := i) (by omega)
    refine ⟨(u2 (u2 Z1 120 i (qgoal m i + b i)) 117 i (lbh m i), J2), ⟨fun a h1 h2 => ?_, fun a ha => ?_, fun j hj => ?_, fun j hj => ?_, fun j hj s hs => ?_⟩, ?_⟩
    · dsimp only
      rw [u2_ne h1, u2_ne h2]
      exact v1 a h1 h2
    · dsimp only
      rw [b1 a (by omega)]
      exact v2 a ha
    · dsimp only
      rw [u2_ne (by decide)]
      by_cases cj : j = i
      · rw [cj, u2s]
      · rw [u2f cj]
        exact v3 j (by omega)
    · dsimp only
      by_cases cj : j = i
      · rw [cj, u2s]
      · rw [u2f cj, u2_ne (by decide)]
        exact v4 j (by omega)
    · dsimp only
      by_cases cj : j = i
      · rw [cj]
        exact b2 s hs
      · rw [b1 _ (by omega)]
        exact v5 j (by omega) s hs
    · show den none (Mean (d + 3)) none tQ_X6_solve (15, _, [], 176, zs Z1, J1, _) = den none (Mean (d + 3)) none tQ_X6_solve (15, _, [], 176, zs _, J2, _)
      rw [k_X6_solve_15_c (p5 := 0) (p6 := 0)]
      simp (disch := first | omega | assumption) only [k_X6_solve_0_c, k_X6_solve_5_c (p5 := 0), k_X6_solve_13_c (p5 := 0) (p6 := 0), k_X6_solve_26_c (p5 := 0) (p6 := 0), k_X6_solve_37_c (p5 := 0) (p6 := 0), k_X6_solve_40_c (p5 := 0) (p6 := 0), k_X6_solve_42_c (p5 := 0) (p6 := 0), k_X6_solve_52_c (p5 := 0) (p6 := 0), k_X6_solve_53_c (p5 := 0) (p6 := 0), k_X6_solve_60_c (p5 := 0) (p6 := 0), k_X6_solve_63_c (p5 := 0) (p6 := 0), k_X6_solve_69_c (p5 := 0) (p6 := 0), k_X6_solve_82_c (p5 := 0) (p6 := 0), k_X6_solve_96_c (p5 := 0) (p6 := 0), k_X6_solve_97_c (p5 := 0) (p6 := 0), k_X6_solve_103_c (p5 := 0) (p6 := 0), k_X6_solve_119_c (p5 := 0) (p6 := 0), k_X6_solve_127_c (p5 := 0) (p6 := 0), k_X6_solve_132_c (p5 := 0) (p6 := 0), k_X6_solve_138_c (p5 := 0) (p6 := 0), k_X6_solve_144_c (p5 := 0) (p6 := 0), li_0, li_1, li_2, li_3, li_4, li_5, li_6, li_9, li_10, li_40, lm_1, lm_2, lm_3, lm_4, zs_ap, i32_add, i32_sub, i32_mul, i32_neg, i32_lt, i32_le, i32_eq, i32_nat, ckn, pka_r, pka_v, if_pos, if_neg, if_true, if_false, z1, zg, zb, Int.toNat_natCast, zs_u2, lb, r1', va_rf, b3]
      rfl) (Z, J) ⟨fun _ _ _ => rfl, fun _ _ => rfl, fun j hj => by omega, fun j hj => by omega, fun j hj => by omega⟩
  simp only at v1 v2 v3 v4 v5 e1
  obtain ⟨Z2, ⟨w1, w2, w3⟩, e2⟩ := up_inv (fun (k : Nat) (Z : Nat → Nat → Int) => den none (Mean (d + 3)) none tQ_X6_solve (71, [some (.ref 112), some (.ref 121), some (.ref g2), some (.int (i32 (k : Int))), none], [], 176, zs Z, J1, RP p0 p1 p2 p3 p4 121 97 97)) (qP m) (fun k Z' => (∀ a : Nat, a ≠ 118 → Z' a = Z1 a) ∧ (∀ j : Nat, j < k → Z' 118 j = qkept m j) ∧ True) (fun k Z2 hk' hv => by
    obtain ⟨v1', v2', _⟩ := hv
    have hm2 : KM m 97 Z2 := KM_fr hP hm (fun a h1 h2 => by rw [v1' a (by omega)]; exact v1 a (by omega) (by omega))
    have z2 : Z2 97 2 = (qP m : Int) := hm2.1.2.1
    have z4 : Z2 101 k = (qkept m k : Int) := (hm2.2.1 k hk').2.2.1
    refine ⟨u2 Z2 118 k (qkept m k), ⟨fun a ha => (u2_ne ha).trans (v1' a ha), fun j hj => ?_, trivial⟩, ?_⟩
    · by_cases cj : j = k
      · rw [cj, u2s]
      · rw [u2f cj]
        exact v2' j (by omega)
    · show den none (Mean (d + 3)) none tQ_X6_solve (71, _, [], 176, zs Z2, J1, _) = _
      rw [k_X6_solve_71_c (p5 := 0) (p6 := 0)]
      simp (disch := omega) only [k_X6_solve_0_c, k_X6_solve_5_c (p5 := 0), k_X6_solve_13_c (p5 := 0) (p6 := 0), k_X6_solve_26_c (p5 := 0) (p6 := 0), k_X6_solve_37_c (p5 := 0) (p6 := 0), k_X6_solve_40_c (p5 := 0) (p6 := 0), k_X6_solve_42_c (p5 := 0) (p6 := 0), k_X6_solve_52_c (p5 := 0) (p6 := 0), k_X6_solve_53_c (p5 := 0) (p6 := 0), k_X6_solve_60_c (p5 := 0) (p6 := 0), k_X6_solve_63_c (p5 := 0) (p6 := 0), k_X6_solve_69_c (p5 := 0) (p6 := 0), k_X6_solve_82_c (p5 := 0) (p6 := 0), k_X6_solve_96_c (p5 := 0) (p6 := 0), k_X6_solve_97_c (p5 := 0) (p6 := 0), k_X6_solve_103_c (p5 := 0) (p6 := 0), k_X6_solve_119_c (p5 := 0) (p6 := 0), k_X6_solve_127_c (p5 := 0) (p6 := 0), k_X6_solve_132_c (p5 := 0) (p6 := 0), k_X6_solve_138_c (p5 := 0) (p6 := 0), k_X6_solve_144_c (p5 := 0) (p6 := 0), li_0, li_1, li_2, li_3, li_4, li_5, li_6, li_9, li_10, li_40, lm_1, lm_2, lm_3, lm_4, zs_ap, i32_add, i32_sub, i32_mul, i32_neg, i32_lt, i32_le, i32_eq, i32_nat, ckn, pka_r, pka_v, if_pos, if_neg, if_true, if_false, z2, z4, Int.toNat_natCast, zs_u2]
      rfl) Z1 ⟨fun _ _ => rfl, fun j hj => by omega, trivial⟩
  have fr2 : ∀ a : Nat, a ≠ 117 → a ≠ 118 → a ≠ 120 → Z2 a = Z a := fun a h1 h2 h3 => (w1 a h2).trans (v1 a h1 h3)
  have hm2 : KM m 97 Z2 := KM_fr hP hm (fun a h1 h2 => fr2 a (by omega) (by omega) (by omega))
  have hk2 : KS m 121 Z2 := KS_fr hS.2 hk (fun a h1 h2 => fr2 a (by omega) (by omega) (by omega))
  have hr2 : KB m b 112 Z2 := ⟨fun i hi => by rw [w1 _ (by decide)]; exact v3 i hi, fun i hi => by rw [w1 _ (by decide)]; exact v4 i hi⟩
  have nl := nlay_le hw
  have hlow : ∀ u : Nat, u ≤ qfin m → LR m b 112 J1 u := fun u hu t n ht hn => by
    have e0 : J1 (112 + 2 + t) u = if u = qfin m then 1 else 0 := v5 t (by omega) u (by omega)
    rw [e0]
    by_cases cu : u = qfin m
    · rw [if_pos cu, gb_1 hn, cu]
      have e9 : ∀ t : Nat, sf m b n (qfin m) t = decide (n = 0) := fun t => by
        cases n with
        | zero => show decide (qfin m = qfin m) = _; simp
        | succ n => show ((!decide (qfin m = qfin m) && _) && _) = _; simp
      unfold LB
      by_cases c2 : qmode m = 2
      · rw [if_pos c2, AL_TJ, e9]
        have e8 : TJ m (qfin m) (fun u => sf m b n u 0) t = false := by
          have key : ∀ j : Nat, TJ m (qfin m) (fun u => sf m b n u 0) j = false := by
            intro j
            induction j with
            | zero => rfl
            | succ j ih =>
              rw [TJ_s, ih, Bool.false_or]
              cases c : givs m (qfin m) (fun k => decide (qown m k = qS m - 1 - j)) (AL m (fun u => sf m b n u 0) j)
              · rfl
              · obtain ⟨k, q, h1, _, _, h4, _⟩ := givs_iff.mp c
                have := may_le h4
                rw [has_fin hw h1] at this
                omega
          exact key t
        rw [e8, Bool.or_false]
      · rw [if_neg c2, e9]
    · rw [if_neg cu, gb_0]
      cases c : LB m b t u n
      · rfl
      · exact absurd (fin_least (by omega) (LB_ok hw (by omega) c)) (by omega)
  obtain ⟨Z3, J3, c1, c2, c3, c4⟩ := sv_loop_c (d := d) (p0 := p0) (p1 := p1) (p2 := p2) (p3 := p3) (p4 := p4)  hw hb Z2 hm2 hk2 hr2 g2 (qbeg m - qfin m) (qfin m) 0 Z2 J1 J1 rfl hfin (by omega) (ok_fin hw) (fun _ _ => rfl) (fun k hk' => by rw [w2 k hk', has_fin hw hk']) hlow (fun u t h1 h2 ht => by
    rw [v5 t (by omega) u h2, if_neg (by omega)]) (fun _ _ _ => rfl)
  refine ⟨Z3, J3, fun a h1 h2 h3 => (c1 a h2).trans (fr2 a h1 h2 h3), fun a h1 h2 => (c2 a h1 h2).trans (v2 a h1), ⟨⟨fun i hi => by rw [c1 _ (by decide)]; exact hr2.1 i hi, fun i hi => by rw [c1 _ (by decide)]; exact hr2.2 i hi⟩, c3⟩, ?_⟩
  have z1 : Z1 97 1 = (qS m : Int) := by rw [v1 _ (by omega) (by omega)]; exact hm.1.1
  have z2 : Z2 97 2 = (qP m : Int) := hm2.1.2.1
  have zf : Z2 121 3 = (qfin m : Int) := hk2.1.1.2.2
  rw [e_X6_solve, k_X6_solve_0_c, k_X6_solve_5_c (p5 := 0), k_X6_solve_13_c (p5 := 0) (p6 := 0)]
  refine Eq.trans e1 ?_
  show den none (Mean (d + 3)) none tQ_X6_solve (15, _, [], 176, zs Z1, J1, _) = _
  rw [k_X6_solve_15_c (p5 := 0) (p6 := 0)]
  simp (disch := omega) only [k_X6_solve_0_c, k_X6_solve_5_c (p5 := 0), k_X6_solve_13_c (p5 := 0) (p6 := 0), k_X6_solve_26_c (p5 := 0) (p6 := 0), k_X6_solve_37_c (p5 := 0) (p6 := 0), k_X6_solve_40_c (p5 := 0) (p6 := 0), k_X6_solve_42_c (p5 := 0) (p6 := 0), k_X6_solve_52_c (p5 := 0) (p6 := 0), k_X6_solve_53_c (p5 := 0) (p6 := 0), k_X6_solve_60_c (p5 := 0) (p6 := 0), k_X6_solve_63_c (p5 := 0) (p6 := 0), k_X6_solve_69_c (p5 := 0) (p6 := 0), k_X6_solve_82_c (p5 := 0) (p6 := 0), k_X6_solve_96_c (p5 := 0) (p6 := 0), k_X6_solve_97_c (p5 := 0) (p6 := 0), k_X6_solve_103_c (p5 := 0) (p6 := 0), k_X6_solve_119_c (p5 := 0) (p6 := 0), k_X6_solve_127_c (p5 := 0) (p6 := 0), k_X6_solve_132_c (p5 := 0) (p6 := 0), k_X6_solve_138_c (p5 := 0) (p6 := 0), k_X6_solve_144_c (p5 := 0) (p6 := 0), li_0, li_1, li_2, li_3, li_4, li_5, li_6, li_9, li_10, li_40, lm_1, lm_2, lm_3, lm_4, zs_ap, i32_add, i32_sub, i32_mul, i32_neg, i32_lt, i32_le, i32_eq, i32_nat, ckn, pka_r, pka_v, if_pos, if_neg, if_true, if_false, z1]
  refine Eq.trans e2 ?_
  show den none (Mean (d + 3)) none tQ_X6_solve (71, _, [], 176, zs Z2, J1, _) = _
  rw [k_X6_solve_71_c (p5 := 0) (p6 := 0)]
  simp (disch := omega) only [k_X6_solve_0_c, k_X6_solve_5_c (p5 := 0), k_X6_solve_13_c (p5 := 0) (p6 := 0), k_X6_solve_26_c (p5 := 0) (p6 := 0), k_X6_solve_37_c (p5 := 0) (p6 := 0), k_X6_solve_40_c (p5 := 0) (p6 := 0), k_X6_solve_42_c (p5 := 0) (p6 := 0), k_X6_solve_52_c (p5 := 0) (p6 := 0), k_X6_solve_53_c (p5 := 0) (p6 := 0), k_X6_solve_60_c (p5 := 0) (p6 := 0), k_X6_solve_63_c (p5 := 0) (p6 := 0), k_X6_solve_69_c (p5 := 0) (p6 := 0), k_X6_solve_82_c (p5 := 0) (p6 := 0), k_X6_solve_96_c (p5 := 0) (p6 := 0), k_X6_solve_97_c (p5 := 0) (p6 := 0), k_X6_solve_103_c (p5 := 0) (p6 := 0), k_X6_solve_119_c (p5 := 0) (p6 := 0), k_X6_solve_127_c (p5 := 0) (p6 := 0), k_X6_solve_132_c (p5 := 0) (p6 := 0), k_X6_solve_138_c (p5 := 0) (p6 := 0), k_X6_solve_144_c (p5 := 0) (p6 := 0), li_0, li_1, li_2, li_3, li_4, li_5, li_6, li_9, li_10, li_40, lm_1, lm_2, lm_3, lm_4, zs_ap, i32_add, i32_sub, i32_mul, i32_neg, i32_lt, i32_le, i32_eq, i32_nat, ckn, pka_r, pka_v, if_pos, if_neg, if_true, if_false, z2, zf]
  exact c4
theorem h_safeBits_c  (hw : wf m) (hm : KM m 97 Z) {s t : Nat} (hs : s < qN m) (ht : t < qS m) : Mean (d + 1) 73 [.ref 112, .int (i32 (s : Int)), .int (i32 (t : Int))] (176, zs Z, J, RP p0 p1 p2 p3 p4 121 97 97) = some (some (.long (J (114 + qtt m t) s)), (176, zs Z, J, RP p0 p1 p2 p3 p4 121 97 97)) := by
  have hS := hw.1
  have hN := qpl_b hw (k := qP m) (Nat.le_refl _)
  have hN' : qN m = qpl m (qP m) := rfl
  have z13 : Z 97 13 = (qmode m : Int) := hm.1.2.2.2.2.1
  have hmd := hw.2.2.2.2.2.1.2.2.1
  obtain ⟨r1, r2⟩ := RPl (p0 := p0) (p1 := p1) (p2 := p2) (p3 := p3) (p4 := p4) (p5 := 121) (p6 := 97) (p7 := 97) (q := 112) (by omega) (show t < 3 by omega)
  have r1' : RP p0 p1 p2 p3 p4 121 97 97 113 t = some (114 + t) := r1
  have r2' : pshn (114 + t) = some (.inl (.long, 400)) := r2
  have s1' : RP p0 p1 p2 p3 p4 121 97 97 113 0 = some 114 := (RPl (p0 := p0) (p1 := p1) (p2 := p2) (p3 := p3) (p4 := p4) (p5 := 121) (p6 := 97) (p7 := 97) (q := 112) (by omega) (show 0 < 3 by omega)).1
  have s2' : pshn 114 = some (.inl (.long, 400)) := rfl
  have t0 : (0 : Int).toNat = 0 := rfl
  unfold qtt
  rw [e_X6_safeBits, k_X6_safeBits_0_c]
  by_cases c : qmode m = 0
  · rw [if_pos c]
    simp (disch := first | omega | assumption) only [k_X6_safeBits_14_c, k_X6_safeBits_18_c, k_X6_safeBits_19_c, k_X6_safeBits_20_c, k_X6_safeBits_22_c, li_0, li_1, li_2, li_3, li_4, li_5, li_6, li_9, li_10, li_40, lm_1, lm_2, lm_3, lm_4, zs_ap, i32_add, i32_sub, i32_mul, i32_neg, i32_lt, i32_le, i32_eq, i32_nat, ckn, pka_r, pka_v, if_pos, if_neg, if_true, if_false, z13, c, r1', va_rf, Int.toNat_natCast]
  · rw [if_neg c]
    simp (disch := first | omega | assumption) only [k_X6_safeBits_14_c, k_X6_safeBits_18_c, k_X6_safeBits_19_c, k_X6_safeBits_20_c, k_X6_safeBits_22_c, li_0, li_1, li_2, li_3, li_4, li_5, li_6, li_9, li_10, li_40, lm_1, lm_2, lm_3, lm_4, zs_ap, i32_add, i32_sub, i32_mul, i32_neg, i32_lt, i32_le, i32_eq, i32_nat, ckn, pka_r, pka_v, if_pos, if_neg, if_true, if_false, z13, t0, s1', va_rf, Int.toNat_natCast]
theorem h_fewest_c  (hw : wf m) (hm : KM m 97 Z) (hr : ∀ u : Nat, u < qN m → LR m b 112 J u) {s t : Nat} (hs : s < qN m) (ht : t < qS m) : Mean (d + 2) 74 [.ref 112, .int (i32 (s : Int)), .int (i32 (t : Int))] (176, zs Z, J, RP p0 p1 p2 p3 p4 121 97 97) = some (some (.int (i32 (afew m b s (qtt m t)))), (176, zs Z, J, RP p0 p1 p2 p3 p4 121 97 97)) := by
  have sb := h_safeBits_c (d := d) (J := J) (p0 := p0) (p1 := p1) (p2 := p2) (p3 := p3) (p4 := p4)  hw hm hs ht
  have hb : ∀ n : Nat, n < 41 → gb (J (114 + qtt m t) s) n = (fun n => sf m b n s (qtt m t)) n := fun n hn => by
    have := hr s hs (qtt m t) n (qtt_nlay hw ht) (by omega)
    rw [LB_safe hw] at this
    exact this
  generalize hx : J (114 + qtt m t) s = x at *
  have key := srch (fun n => den none (Mean (d + 1)) (some .int) tQ_X6_fewest (10, [some (.ref 112), some (.int (i32 (s : Int))), some (.int (i32 (t : Int))), some (.long x), none, some (.int (i32 (n : Int)))], [], 176, zs Z, J, RP p0 p1 p2 p3 p4 121 97 97)) (gb x) 41 (fun n => some (some (.int (i32 (n : Int))), (176, zs Z, J, RP p0 p1 p2 p3 p4 121 97 97))) (fun n hn hp => by
    have e0 : (lg_cmp ((x >>> ((i32 (n : Int)).toInt64 &&& 63)) &&& 1) 0 = i32 0) = False := by
      rw [cmp_z, gb_sgn x (by omega), hp]
      exact eq_false (by decide)
    rw [k_X6_fewest_10_c]
    simp (disch := omega) only [k_X6_fewest_0_c, k_X6_fewest_6_c, k_X6_fewest_17_c, k_X6_fewest_28_c, k_X6_fewest_31_c, k_X6_fewest_37_c, li_0, li_1, li_2, li_3, li_4, li_5, li_6, li_9, li_10, li_40, lm_1, lm_2, lm_3, lm_4, zs_ap, i32_add, i32_sub, i32_mul, i32_neg, i32_lt, i32_le, i32_eq, i32_nat, ckn, pka_r, pka_v, if_pos, if_neg, if_true, if_false, e0]) (fun n hn hp => by
    have e0 : (lg_cmp ((x >>> ((i32 (n : Int)).toInt64 &&& 63)) &&& 1) 0 = i32 0) = True := by
      rw [cmp_z, gb_sgn x (by omega), hp]
      exact eq_true rfl
    rw [k_X6_fewest_10_c]
    simp (disch := omega) only [k_X6_fewest_0_c, k_X6_fewest_6_c, k_X6_fewest_17_c, k_X6_fewest_28_c, k_X6_fewest_31_c, k_X6_fewest_37_c, li_0, li_1, li_2, li_3, li_4, li_5, li_6, li_9, li_10, li_40, lm_1, lm_2, lm_3, lm_4, zs_ap, i32_add, i32_sub, i32_mul, i32_neg, i32_lt, i32_le, i32_eq, i32_nat, ckn, pka_r, pka_v, if_pos, if_neg, if_true, if_false, e0]
    rfl)
  rw [e_X6_fewest, k_X6_fewest_0_c]
  simp only [sb, pka_r, k_X6_fewest_6_c]
  refine Eq.trans key ?_
  unfold afew
  rw [anyN_congr 41 hb, fstN_congr 41 hb]
  by_cases c : anyN (fun n => sf m b n s (qtt m t)) 41 = true
  · rw [if_pos c, if_pos c]
  · rw [if_neg c, if_neg c, k_X6_fewest_10_c]
    simp (disch := omega) only [k_X6_fewest_0_c, k_X6_fewest_6_c, k_X6_fewest_17_c, k_X6_fewest_28_c, k_X6_fewest_31_c, k_X6_fewest_37_c, li_0, li_1, li_2, li_3, li_4, li_5, li_6, li_9, li_10, li_40, lm_1, lm_2, lm_3, lm_4, zs_ap, i32_add, i32_sub, i32_mul, i32_neg, i32_lt, i32_le, i32_eq, i32_nat, ckn, pka_r, pka_v, if_pos, if_neg, if_true, if_false]
theorem h_isSafe_c (hw : wf m) (hr : ∀ u : Nat, u < qN m → LR m b 112 J u) {s t n : Nat} (hs : s < qN m) (ht : t < nlay m) (hn : n < 64) : Mean (d + 1) 75 [.ref 112, .int (i32 (t : Int)), .int (i32 (s : Int)), .int (i32 (n : Int))] (176, zs Z, J, RP p0 p1 p2 p3 p4 121 97 97) = some (some (.int (i32 (bB (LB m b t s n)))), (176, zs Z, J, RP p0 p1 p2 p3 p4 121 97 97)) := by
  have hN := qpl_b hw (k := qP m) (Nat.le_refl _)
  have hN' : qN m = qpl m (qP m) := rfl
  have nl := nlay_le hw
  obtain ⟨r1, r2⟩ := RPl (p0 := p0) (p1 := p1) (p2 := p2) (p3 := p3) (p4 := p4) (p5 := 121) (p6 := 97) (p7 := 97) (q := 112) (by omega) (show t < 3 by omega)
  have r1' : RP p0 p1 p2 p3 p4 121 97 97 113 t = some (114 + t) := r1
  have r2' : pshn (114 + t) = some (.inl (.long, 400)) := r2
  have hb : gb (J (114 + t) s) n = LB m b t s n := hr s hs t n ht hn
  rw [← hb, e_X6_isSafe, k_X6_isSafe_0_c]
  cases c : gb (J (114 + t) s) n
  · have e0 : (lg_cmp ((J (114 + t) s >>> ((i32 (n : Int)).toInt64 &&& 63)) &&& 1) 0 = i32 0) = True := by
      rw [cmp_z, gb_sgn _ hn, c]
      exact eq_true rfl
    simp (disch := first | omega | assumption) only [k_X6_isSafe_6_c, k_X6_isSafe_8_c, k_X6_isSafe_17_c, k_X6_isSafe_21_c, k_X6_isSafe_22_c, li_0, li_1, li_2, li_3, li_4, li_5, li_6, li_9, li_10, li_40, lm_1, lm_2, lm_3, lm_4, zs_ap, i32_add, i32_sub, i32_mul, i32_neg, i32_lt, i32_le, i32_eq, i32_nat, ckn, pka_r, pka_v, if_pos, if_neg, if_true, if_false, r1', va_rf, Int.toNat_natCast, e0, bBf, true_or]
  · have e0 : (lg_cmp ((J (114 + t) s >>> ((i32 (n : Int)).toInt64 &&& 63)) &&& 1) 0 = i32 0) = False := by
      rw [cmp_z, gb_sgn _ hn, c]
      exact eq_false (by decide)
    simp (disch := first | omega | assumption) only [k_X6_isSafe_6_c, k_X6_isSafe_8_c, k_X6_isSafe_17_c, k_X6_isSafe_21_c, k_X6_isSafe_22_c, li_0, li_1, li_2, li_3, li_4, li_5, li_6, li_9, li_10, li_40, lm_1, lm_2, lm_3, lm_4, zs_ap, i32_add, i32_sub, i32_mul, i32_neg, i32_lt, i32_le, i32_eq, i32_nat, ckn, pka_r, pka_v, if_pos, if_neg, if_true, if_false, r1', va_rf, Int.toNat_natCast, e0, bBt, or_true]
end
