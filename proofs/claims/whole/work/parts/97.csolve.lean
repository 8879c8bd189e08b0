/-! THE CLASS'S Rows: solveState, solve, safeBits, fewest, isSafe -/
/-- the layers are right at a state -/
def LR (m : Mat) (b : Nat → Int) (q : Nat) (J : Nat → Nat → Int64) (u : Nat) : Prop := ∀ t n : Nat, t < nlay m → n < 64 → gb (J (q + 2 + t) u) n = LB m b t u n
theorem nlay_le {m : Mat} (hw : wf m) : nlay m ≤ qS m ∧ nlay m ≤ 3 ∧ 1 ≤ nlay m := by
  have := hw.1
  unfold nlay
  split <;> omega
theorem sf_any {m : Mat} {b : Nat → Int} {s n : Nat} (h1 : qmode m = 1) (hf : s ≠ qfin m) : sf m b n s 0 = (sty m b s n && givs m s (fun _ => true) (fun u => sf m b (n - 1) u 0)) := by
  cases n with
  | zero =>
    show decide (s = qfin m) = _
    simp [hf, sty]
  | succ n =>
    show ((!decide (s = qfin m) && qstay m b s (n + 1)) && onw m (sf m b n) s 0) = _
    unfold onw sty
    rw [if_neg (by omega), if_neg (by omega)]
    simp [hf]
theorem givs_all {m : Mat} (hw : wf m) {s : Nat} {f : Nat → Bool} : givs m s (fun _ => true) f = ((givs m s (fun k => decide (qown m k = 0)) f || givs m s (fun k => decide (qown m k = 1)) f) || givs m s (fun k => decide (qown m k = 2)) f) := by
  apply beq_iff
  rw [Bool.or_eq_true, Bool.or_eq_true, givs_iff, givs_iff, givs_iff, givs_iff]
  constructor
  · intro ⟨k, q, h1, _, h3, h4, h5⟩
    have := (hw.2.2.1 k h1).1
    have hS := hw.1
    have ho : qown m k = 0 ∨ qown m k = 1 ∨ qown m k = 2 := by omega
    rcases ho with o | o | o
    · exact Or.inl (Or.inl ⟨k, q, h1, decide_eq_true o, h3, h4, h5⟩)
    · exact Or.inl (Or.inr ⟨k, q, h1, decide_eq_true o, h3, h4, h5⟩)
    · exact Or.inr ⟨k, q, h1, decide_eq_true o, h3, h4, h5⟩
  · intro h
    rcases h with (⟨k, q, h1, _, h3, h4, h5⟩ | ⟨k, q, h1, _, h3, h4, h5⟩) | ⟨k, q, h1, _, h3, h4, h5⟩ <;> exact ⟨k, q, h1, rfl, h3, h4, h5⟩
section
variable {d : Nat} {J : Nat → Nat → Int64} {Z : Nat → Nat → Int} {p0 p1 p2 p5 p6 p7 : Nat} {m : Mat} {b : Nat → Int}
theorem h_solveState_a (hp : p2 = 5 ∨ p2 = 20) (hw : wf m) (hb : bOK m b) (hm : KM m p2 Z) (hk : KS m 35 Z) (hr : KB m b 43 Z) {s : Nat} (hs : s < qN m) (hf : s ≠ qfin m) (ho : okS m s) (hst : ∀ k : Nat, k < qP m → Z 49 k = qhas m s k) (hlow : ∀ u : Nat, u < s → LR m b 43 J u) (hz : ∀ t : Nat, t < nlay m → J (45 + t) s = 0) : ∃ J' : Nat → Nat → Int64, (∀ a : Nat, (a < 45 ∨ 47 < a) → a ≠ 50 → J' a = J a) ∧ (∀ a x : Nat, a ≠ 50 → x ≠ s → J' a x = J a x) ∧ LR m b 43 J' s ∧ Mean (d + 3) 68 [.ref 43, .int (i32 (s : Int))] (176, zs Z, J, RP p0 p1 p2 35 p2 p5 p6 p7) = some (none, (176, zs Z, J', RP p0 p1 p2 35 p2 p5 p6 p7)) := by
  have hS := hw.1
  have hN := qpl_b hw (k := qP m) (Nat.le_refl _)
  have hN' : qN m = qpl m (qP m) := rfl
  have hmd := hw.2.2.2.2.2.1.2.2.1
  have z13 : Z p2 13 = (qmode m : Int) := hm.1.2.2.2.2.1
  obtain ⟨st, hst1, est⟩ := h_stayBits_a (d := d + 1) (J := J) (p0 := p0) (p1 := p1) (p2 := p2) (p5 := p5) (p6 := p6) (p7 := p7) hp hw hb hm hk hr hs
  obtain ⟨J1, g1, g2, g3⟩ := h_gather_a (d := d) (J := J) (p0 := p0) (p1 := p1) (p2 := p2) (p5 := p5) (p6 := p6) (p7 := p7) hp hw hm hk.1 hr.2 hs ho hst
  have hGT : GT m b s (J1 50) := fun i n hi hn => by
    rw [g2 i n hi]
    by_cases ci : i < qS m
    · exact givs_c (fun u hu => hlow u hu (lbh m i) n (lbh_lt hw ci).1 hn)
    · have e0 : ∀ f : Nat → Bool, givs m s (fun k => decide (qown m k = i)) f = false := fun f => by
        cases c : givs m s (fun k => decide (qown m k = i)) f
        · rfl
        · obtain ⟨k, q, h1, h2, _⟩ := givs_iff.mp c
          have := (hw.2.2.1 k h1).1
          have := of_decide_eq_true h2
          omega
      rw [e0, e0]
  rw [e_X6_solveState, k_X6_solveState_0_a]
  by_cases c2 : qmode m = 2
  · obtain ⟨J2, a1, a2, a3, a4⟩ := h_layOnce_a (d := d + 1) (J := J1) (p0 := p0) (p1 := p1) (p2 := p2) (p5 := p5) (p6 := p6) (p7 := p7) hp hw c2 hm hs hf hGT hst1
    refine ⟨J2, fun a h1 h2 => (a1 a h1).trans (g1 a h2), fun a x h1 h2 => (a2 a x h2).trans (congrFun (g1 a h1) x), fun t n ht hn => a3 t n (by have := (nlay_le hw).1; omega) hn, ?_⟩
    simp (disch := omega) only [k_X6_solveState_5_a, k_X6_solveState_17_a, k_X6_solveState_22_a, k_X6_solveState_28_a, k_X6_solveState_31_a, k_X6_solveState_37_a, k_X6_solveState_42_a, k_X6_solveState_53_a, k_X6_solveState_59_a, k_X6_solveState_65_a, k_X6_solveState_72_a, k_X6_solveState_81_a, k_X6_solveState_89_a, k_X6_solveState_92_a, k_X6_solveState_98_a, li_0, li_1, li_2, li_3, li_4, li_5, li_6, li_9, li_10, li_40, lm_1, lm_2, lm_3, lm_4, zs_ap, i32_add, i32_sub, i32_mul, i32_neg, i32_lt, i32_le, i32_eq, i32_nat, ckn, pka_r, pka_v, if_pos, if_neg, if_true, if_false, est, z13, c2, g3, a4]
  · by_cases cst : st = 0
    · have hno : ∀ n : Nat, n < 64 → sty m b s n = false := fun n hn => by rw [← hst1 n hn, cst, gb_0]
      refine ⟨J, fun _ _ _ => rfl, fun _ _ _ _ => rfl, fun t n ht hn => ?_, ?_⟩
      · have hzt : J (43 + 2 + t) s = 0 := hz t ht
        rw [hzt, gb_0]
        unfold LB
        rw [if_neg c2]
        symm
        by_cases c1 : qmode m = 1
        · have ht0 : t = 0 := by
            unfold nlay at ht
            rw [if_pos c1] at ht
            omega
          rw [ht0, sf_any c1 hf, hno n hn, Bool.false_and]
        · rw [sf_turn (by omega) hf, hno n hn]
          unfold Bt
          rw [hno n hn, Bool.false_and, Bool.false_and]
          rfl
      · simp (disch := omega) only [k_X6_solveState_5_a, k_X6_solveState_17_a, k_X6_solveState_22_a, k_X6_solveState_28_a, k_X6_solveState_31_a, k_X6_solveState_37_a, k_X6_solveState_42_a, k_X6_solveState_53_a, k_X6_solveState_59_a, k_X6_solveState_65_a, k_X6_solveState_72_a, k_X6_solveState_81_a, k_X6_solveState_89_a, k_X6_solveState_92_a, k_X6_solveState_98_a, li_0, li_1, li_2, li_3, li_4, li_5, li_6, li_9, li_10, li_40, lm_1, lm_2, lm_3, lm_4, zs_ap, i32_add, i32_sub, i32_mul, i32_neg, i32_lt, i32_le, i32_eq, i32_nat, ckn, pka_r, pka_v, if_pos, if_neg, if_true, if_false, est, z13, cmp_z, cst]
    · by_cases c1 : qmode m = 1
      · obtain ⟨r1, r2⟩ := RPl (p0 := p0) (p1 := p1) (p2 := p2) (p3 := 35) (p4 := p2) (p5 := p5) (p6 := p6) (p7 := p7) (q := 43) (by omega) (show 0 < 3 by omega)
        have r1' : RP p0 p1 p2 35 p2 p5 p6 p7 44 0 = some 45 := r1
        have r2' : pshn 45 = some (.inl (.long, 400)) := r2
        have t0 : (0 : Int).toNat = 0 := rfl
        have t1 : (1 : Int).toNat = 1 := rfl
        have t2 : (2 : Int).toNat = 2 := rfl
        refine ⟨u2 J1 45 s (((J1 50 0 ||| J1 50 1 ||| J1 50 2) <<< ((1 : Int32).toInt64 &&& 63)) &&& st), fun a h1 h2 => (u2_ne (by omega)).trans (g1 a h2), fun a x h1 h2 => ?_, fun t n ht hn => ?_, ?_⟩
        · by_cases ca : a = 45
          · rw [ca, u2f h2, g1 _ (by omega)]
          · rw [u2_ne ca, g1 _ h1]
        · have ht0 : t = 0 := by
            unfold nlay at ht
            rw [if_pos c1] at ht
            omega
          subst ht0
          show gb (u2 J1 45 s _ 45 s) n = _
          rw [u2s]
          unfold LB
          rw [if_neg c2, gb_and, gb_shl1 _ hn, hst1 n hn, gb_or, gb_or, sf_any c1 hf, givs_all hw]
          cases n with
          | zero => simp [sty]
          | succ n =>
            rw [Nat.add_sub_cancel, hGT 0 n (by omega) (by omega), hGT 1 n (by omega) (by omega), hGT 2 n (by omega) (by omega)]
            have e1 : ∀ i : Nat, (fun u => LB m b (lbh m i) u n) = fun u => sf m b n u 0 := fun i => by
              funext u
              unfold LB lbh
              rw [if_neg c2, if_neg (by omega), if_neg c2]
            rw [e1, e1, e1]
            simp [Bool.and_comm]
        · have c10 : (1 : Int32).toInt64 = (i32 1).toInt64 := rfl
          have hcm : (lg_cmp st 0 = i32 0) = False := by
            rw [cmp_z]
            exact eq_false cst
          simp (disch := first | omega | assumption) only [k_X6_solveState_5_a, k_X6_solveState_17_a, k_X6_solveState_22_a, k_X6_solveState_28_a, k_X6_solveState_31_a, k_X6_solveState_37_a, k_X6_solveState_42_a, k_X6_solveState_53_a, k_X6_solveState_59_a, k_X6_solveState_65_a, k_X6_solveState_72_a, k_X6_solveState_81_a, k_X6_solveState_89_a, k_X6_solveState_92_a, k_X6_solveState_98_a, li_0, li_1, li_2, li_3, li_4, li_5, li_6, li_9, li_10, li_40, lm_1, lm_2, lm_3, lm_4, zs_ap, i32_add, i32_sub, i32_mul, i32_neg, i32_lt, i32_le, i32_eq, i32_nat, ckn, pka_r, pka_v, if_pos, if_neg, if_true, if_false, est, z13, hcm, c1, g3, t0, t1, t2, r1', va_rf, Int.toNat_natCast]
      · have c0 : qmode m = 0 := by omega
        obtain ⟨J2, a1, a2, a3, a4⟩ := h_layTurns_a (d := d + 1) (J := J1) (p0 := p0) (p1 := p1) (p2 := p2) (p5 := p5) (p6 := p6) (p7 := p7) hp hw c0 hm hs hf hGT hst1
        have hcm : (lg_cmp st 0 = i32 0) = False := by
          rw [cmp_z]
          exact eq_false cst
        refine ⟨J2, fun a h1 h2 => (a1 a h1 h2).trans (g1 a h2), fun a x h1 h2 => (a2 a x h1 h2).trans (congrFun (g1 a h1) x), fun t n ht hn => ?_, ?_⟩
        · unfold LB
          rw [if_neg c2]
          exact a3 t n (by have := (nlay_le hw).1; omega) hn
        · simp (disch := omega) only [k_X6_solveState_5_a, k_X6_solveState_17_a, k_X6_solveState_22_a, k_X6_solveState_28_a, k_X6_solveState_31_a, k_X6_solveState_37_a, k_X6_solveState_42_a, k_X6_solveState_53_a, k_X6_solveState_59_a, k_X6_solveState_65_a, k_X6_solveState_72_a, k_X6_solveState_81_a, k_X6_solveState_89_a, k_X6_solveState_92_a, k_X6_solveState_98_a, li_0, li_1, li_2, li_3, li_4, li_5, li_6, li_9, li_10, li_40, lm_1, lm_2, lm_3, lm_4, zs_ap, i32_add, i32_sub, i32_mul, i32_neg, i32_lt, i32_le, i32_eq, i32_nat, ckn, pka_r, pka_v, if_pos, if_neg, if_true, if_false, est, z13, hcm, c0, g3, a4]
/-- the rows are found for a matter and what a breach costs -/
def KR_a (m : Mat) (b : Nat → Int) (Z : Nat → Nat → Int) (J : Nat → Nat → Int64) : Prop := KB m b 43 Z ∧ ∀ u : Nat, u < qN m → LR m b 43 J u
theorem sv_loop_a (hp : p2 = 5 ∨ p2 = 20) (hw : wf m) (hb : bOK m b) (Z0 : Nat → Nat → Int) (hm : KM m p2 Z0) (hk : KS m 35 Z0) (hr : KB m b 43 Z0) (g2 : Nat) : ∀ (j s i : Nat) (Z : Nat → Nat → Int) (J0 J : Nat → Nat → Int64), qbeg m - s = j → s < qN m → i ≤ s → okS m s → (∀ a : Nat, a ≠ 49 → Z a = Z0 a) → (∀ k : Nat, k < qP m → Z 49 k = qhas m s k) → (∀ u : Nat, u ≤ s → LR m b 43 J u) → (∀ u t : Nat, s < u → u < qN m → t < nlay m → J (45 + t) u = 0) → (∀ a : Nat, (a < 45 ∨ 47 < a) → a ≠ 50 → J a = J0 a) → ∃ (Z' : Nat → Nat → Int) (J' : Nat → Nat → Int64), (∀ a : Nat, a ≠ 49 → Z' a = Z0 a) ∧ (∀ a : Nat, (a < 45 ∨ 47 < a) → a ≠ 50 → J' a = J0 a) ∧ (∀ u : Nat, u < qN m → LR m b 43 J' u) ∧ den none (Mean (d + 3)) none tQ_X6_solve (111, [some (.ref 43), some (.ref 35), some (.ref g2), some (.int (i32 (s : Int))), some (.int (i32 (i : Int)))], [], 176, zs Z, J, RP p0 p1 p2 35 p2 p5 p6 p7) = some (none, (176, zs Z', J', RP p0 p1 p2 35 p2 p5 p6 p7)) := by
  have hS := hw.1
  have hP := hw.2.1
  have hN := qpl_b hw (k := qP m) (Nat.le_refl _)
  have hN' : qN m = qpl m (qP m) := rfl
  have hbm := beg_max (m := m)
  have hbl := qbeg_lt m
  intro j
  induction j using Nat.strongRecOn with
  | _ j ih =>
    intro s i Z J0 J hj hs hi ho hz hst hlow hzero hfr
    have hm1 : KM m p2 Z := KM_fr hP hm (fun a h1 h2 => hz a (by omega))
    have hk1 : KS m 35 Z := by
      obtain ⟨⟨q1, q2⟩, q3, q4⟩ := hk
      refine ⟨⟨?_, fun k hk => ?_⟩, fun i hi s hs => ?_, fun i hi => ?_⟩
      · rw [hz _ (by decide)]; exact q1
      · rw [hz _ (by decide)]; exact q2 k hk
      · rw [hz _ (by omega)]; exact q3 i hi s hs
      · rw [hz _ (by decide)]; exact q4 i hi
    have hr1 : KB m b 43 Z := by
      refine ⟨fun i hi => ?_, fun i hi => ?_⟩
      · rw [hz _ (by decide)]; exact hr.1 i hi
      · rw [hz _ (by decide)]; exact hr.2 i hi
    have zb : Z 35 2 = (qbeg m : Int) := hk1.1.1.2.1
    by_cases cb : s = qbeg m
    · refine ⟨Z, J, hz, hfr, fun u hu => hlow u (by omega), ?_⟩
      rw [k_X6_solve_111_a (p3 := 0) (p4 := 0)]
      simp (disch := omega) only [k_X6_solve_0_a, k_X6_solve_5_a (p3 := 0), k_X6_solve_13_a (p3 := 0) (p4 := 0), k_X6_solve_26_a (p3 := 0) (p4 := 0), k_X6_solve_37_a (p3 := 0) (p4 := 0), k_X6_solve_40_a (p3 := 0) (p4 := 0), k_X6_solve_42_a (p3 := 0) (p4 := 0), k_X6_solve_52_a (p3 := 0) (p4 := 0), k_X6_solve_53_a (p3 := 0) (p4 := 0), k_X6_solve_60_a (p3 := 0) (p4 := 0), k_X6_solve_63_a (p3 := 0) (p4 := 0), k_X6_solve_69_a (p3 := 0) (p4 := 0), k_X6_solve_82_a (p3 := 0) (p4 := 0), k_X6_solve_96_a (p3 := 0) (p4 := 0), k_X6_solve_97_a (p3 := 0) (p4 := 0), k_X6_solve_103_a (p3 := 0) (p4 := 0), k_X6_solve_119_a (p3 := 0) (p4 := 0), k_X6_solve_127_a (p3 := 0) (p4 := 0), k_X6_solve_132_a (p3 := 0) (p4 := 0), k_X6_solve_138_a (p3 := 0) (p4 := 0), k_X6_solve_144_a (p3 := 0) (p4 := 0), li_0, li_1, li_2, li_3, li_4, li_5, li_6, li_9, li_10, li_40, lm_1, lm_2, lm_3, lm_4, zs_ap, i32_add, i32_sub, i32_mul, i32_neg, i32_lt, i32_le, i32_eq, i32_nat, ckn, pka_r, pka_v, if_pos, if_neg, if_true, if_false, li_400, zb, cb]
    · obtain ⟨s', Z1, ⟨n1, n2, n3, n4⟩, n5, n6, n7⟩ := h_nextState_a (d := d + 2) (J := J) (p0 := p0) (p1 := p1) (p2 := p2) (p5 := p5) (p6 := p6) (p7 := p7) hp hw hm1 hk1.1 hs cb ho hst
      have hz1 : ∀ a : Nat, a ≠ 49 → Z1 a = Z0 a := fun a ha => (n5 a ha).trans (hz a ha)
      have hm2 : KM m p2 Z1 := KM_fr hP hm (fun a h1 h2 => hz1 a (by omega))
      have hk2 : KS m 35 Z1 := by
        obtain ⟨⟨q1, q2⟩, q3, q4⟩ := hk
        refine ⟨⟨?_, fun k hk => ?_⟩, fun i hi s hs => ?_, fun i hi => ?_⟩
        · rw [hz1 _ (by decide)]; exact q1
        · rw [hz1 _ (by decide)]; exact q2 k hk
        · rw [hz1 _ (by omega)]; exact q3 i hi s hs
        · rw [hz1 _ (by decide)]; exact q4 i hi
      have hr2 : KB m b 43 Z1 := by
        refine ⟨fun i hi => ?_, fun i hi => ?_⟩
        · rw [hz1 _ (by decide)]; exact hr.1 i hi
        · rw [hz1 _ (by decide)]; exact hr.2 i hi
      have hfl := fin_least hs ho
      have hlow' : ∀ u : Nat, u < s' → LR m b 43 J u := fun u hu => by
        by_cases cu : u ≤ s
        · exact hlow u cu
        · intro t n ht hn
          have e0 : J (43 + 2 + t) u = 0 := hzero u t (by omega) (by omega) ht
          rw [e0, gb_0]
          cases c : LB m b t u n
          · rfl
          · exact absurd (LB_ok hw (by omega) c) (n4 u (by omega) hu)
      obtain ⟨J1, b1, b2, b3, b4⟩ := h_solveState_a (d := d) (J := J) (p0 := p0) (p1 := p1) (p2 := p2) (p5 := p5) (p6 := p6) (p7 := p7) hp hw hb hm2 hk2 hr2 n2 (by omega) n3 n6 hlow' (fun t ht => hzero s' t n1 n2 ht)
      obtain ⟨Z', J', c1, c2, c3, c4⟩ := ih (qbeg m - s') (by omega) s' (i + 1) Z1 J0 J1 rfl n2 (by omega) n3 hz1 n6 (fun u hu => by
        by_cases cu : u = s'
        · rw [cu]; exact b3
        · intro t n ht hn
          have := (nlay_le hw).2.1
          rw [b2 _ u (by omega) cu]
          exact hlow' u (by omega) t n ht hn) (fun u t h1 h2 ht => by
        have := (nlay_le hw).2.1
        rw [b2 _ u (by omega) (by omega)]
        exact hzero u t (by omega) h2 ht) (fun a h1 h2 => (b1 a h1 h2).trans (hfr a h1 h2))
      refine ⟨Z', J', c1, c2, c3, ?_⟩
      rw [k_X6_solve_111_a (p3 := 0) (p4 := 0)]
      simp (disch := omega) only [k_X6_solve_0_a, k_X6_solve_5_a (p3 := 0), k_X6_solve_13_a (p3 := 0) (p4 := 0), k_X6_solve_26_a (p3 := 0) (p4 := 0), k_X6_solve_37_a (p3 := 0) (p4 := 0), k_X6_solve_40_a (p3 := 0) (p4 := 0), k_X6_solve_42_a (p3 := 0) (p4 := 0), k_X6_solve_52_a (p3 := 0) (p4 := 0), k_X6_solve_53_a (p3 := 0) (p4 := 0), k_X6_solve_60_a (p3 := 0) (p4 := 0), k_X6_solve_63_a (p3 := 0) (p4 := 0), k_X6_solve_69_a (p3 := 0) (p4 := 0), k_X6_solve_82_a (p3 := 0) (p4 := 0), k_X6_solve_96_a (p3 := 0) (p4 := 0), k_X6_solve_97_a (p3 := 0) (p4 := 0), k_X6_solve_103_a (p3 := 0) (p4 := 0), k_X6_solve_119_a (p3 := 0) (p4 := 0), k_X6_solve_127_a (p3 := 0) (p4 := 0), k_X6_solve_132_a (p3 := 0) (p4 := 0), k_X6_solve_138_a (p3 := 0) (p4 := 0), k_X6_solve_144_a (p3 := 0) (p4 := 0), li_0, li_1, li_2, li_3, li_4, li_5, li_6, li_9, li_10, li_40, lm_1, lm_2, lm_3, lm_4, zs_ap, i32_add, i32_sub, i32_mul, i32_neg, i32_lt, i32_le, i32_eq, i32_nat, ckn, pka_r, pka_v, if_pos, if_neg, if_true, if_false, li_400, zb, n7, b4]
      exact c4
end
section
variable {d : Nat} {J : Nat → Nat → Int64} {Z : Nat → Nat → Int} {p0 p1 p2 p3 p4 p7 : Nat} {m : Mat} {b : Nat → Int}
theorem h_solveState_b (hp : p2 = 5 ∨ p2 = 20) (hw : wf m) (hb : bOK m b) (hm : KM m p2 Z) (hk : KS m 35 Z) (hr : KB m b 112 Z) {s : Nat} (hs : s < qN m) (hf : s ≠ qfin m) (ho : okS m s) (hst : ∀ k : Nat, k < qP m → Z 118 k = qhas m s k) (hlow : ∀ u : Nat, u < s → LR m b 112 J u) (hz : ∀ t : Nat, t < nlay m → J (114 + t) s = 0) : ∃ J' : Nat → Nat → Int64, (∀ a : Nat, (a < 114 ∨ 116 < a) → a ≠ 119 → J' a = J a) ∧ (∀ a x : Nat, a ≠ 119 → x ≠ s → J' a x = J a x) ∧ LR m b 112 J' s ∧ Mean (d + 3) 68 [.ref 112, .int (i32 (s : Int))] (176, zs Z, J, RP p0 p1 p2 p3 p4 35 p2 p7) = some (none, (176, zs Z, J', RP p0 p1 p2 p3 p4 35 p2 p7)) := by
  have hS := hw.1
  have hN := qpl_b hw (k := qP m) (Nat.le_refl _)
  have hN' : qN m = qpl m (qP m) := rfl
  have hmd := hw.2.2.2.2.2.1.2.2.1
  have z13 : Z p2 13 = (qmode m : Int) := hm.1.2.2.2.2.1
  obtain ⟨st, hst1, est⟩ := h_stayBits_b (d := d + 1) (J := J) (p0 := p0) (p1 := p1) (p2 := p2) (p3 := p3) (p4 := p4) (p7 := p7) hp hw hb hm hk hr hs
  obtain ⟨J1, g1, g2, g3⟩ := h_gather_b (d := d) (J := J) (p0 := p0) (p1 := p1) (p2 := p2) (p3 := p3) (p4 := p4) (p7 := p7) hp hw hm hk.1 hr.2 hs ho hst
  have hGT : GT m b s (J1 119) := fun i n hi hn => by
    rw [g2 i n hi]
    by_cases ci : i < qS m
    · exact givs_c (fun u hu => hlow u hu (lbh m i) n (lbh_lt hw ci).1 hn)
    · have e0 : ∀ f : Nat → Bool, givs m s (fun k => decide (qown m k = i)) f = false := fun f => by
        cases c : givs m s (fun k => decide (qown m k = i)) f
        · rfl
        · obtain ⟨k, q, h1, h2, _⟩ := givs_iff.mp c
          have := (hw.2.2.1 k h1).1
          have := of_decide_eq_true h2
          omega
      rw [e0, e0]
  rw [e_X6_solveState, k_X6_solveState_0_b]
  by_cases c2 : qmode m = 2
  · obtain ⟨J2, a1, a2, a3, a4⟩ := h_layOnce_b (d := d + 1) (J := J1) (p0 := p0) (p1 := p1) (p2 := p2) (p3 := p3) (p4 := p4) (p7 := p7) hp hw c2 hm hs hf hGT hst1
    refine ⟨J2, fun a h1 h2 => (a1 a h1).trans (g1 a h2), fun a x h1 h2 => (a2 a x h2).trans (congrFun (g1 a h1) x), fun t n ht hn => a3 t n (by have := (nlay_le hw).1; omega) hn, ?_⟩
    simp (disch := omega) only [k_X6_solveState_5_b, k_X6_solveState_17_b, k_X6_solveState_22_b, k_X6_solveState_28_b, k_X6_solveState_31_b, k_X6_solveState_37_b, k_X6_solveState_42_b, k_X6_solveState_53_b, k_X6_solveState_59_b, k_X6_solveState_65_b, k_X6_solveState_72_b, k_X6_solveState_81_b, k_X6_solveState_89_b, k_X6_solveState_92_b, k_X6_solveState_98_b, li_0, li_1, li_2, li_3, li_4, li_5, li_6, li_9, li_10, li_40, lm_1, lm_2, lm_3, lm_4, zs_ap, i32_add, i32_sub, i32_mul, i32_neg, i32_lt, i32_le, i32_eq, i32_nat, ckn, pka_r, pka_v, if_pos, if_neg, if_true, if_false, est, z13, c2, g3, a4]
  · by_cases cst : st = 0
    · have hno : ∀ n : Nat, n < 64 → sty m b s n = false := fun n hn => by rw [← hst1 n hn, cst, gb_0]
      refine ⟨J, fun _ _ _ => rfl, fun _ _ _ _ => rfl, fun t n ht hn => ?_, ?_⟩
      · have hzt : J (112 + 2 + t) s = 0 := hz t ht
        rw [hzt, gb_0]
        unfold LB
        rw [if_neg c2]
        symm
        by_cases c1 : qmode m = 1
        · have ht0 : t = 0 := by
            unfold nlay at ht
            rw [if_pos c1] at ht
            omega
          rw [ht0, sf_any c1 hf, hno n hn, Bool.false_and]
        · rw [sf_turn (by omega) hf, hno n hn]
          unfold Bt
          rw [hno n hn, Bool.false_and, Bool.false_and]
          rfl
      · simp (disch := omega) only [k_X6_solveState_5_b, k_X6_solveState_17_b, k_X6_solveState_22_b, k_X6_solveState_28_b, k_X6_solveState_31_b, k_X6_solveState_37_b, k_X6_solveState_42_b, k_X6_solveState_53_b, k_X6_solveState_59_b, k_X6_solveState_65_b, k_X6_solveState_72_b, k_X6_solveState_81_b, k_X6_solveState_89_b, k_X6_solveState_92_b, k_X6_solveState_98_b, li_0, li_1, li_2, li_3, li_4, li_5, li_6, li_9, li_10, li_40, lm_1, lm_2, lm_3, lm_4, zs_ap, i32_add, i32_sub, i32_mul, i32_neg, i32_lt, i32_le, i32_eq, i32_nat, ckn, pka_r, pka_v, if_pos, if_neg, if_true, if_false, est, z13, cmp_z, cst]
    · by_cases c1 : qmode m = 1
      · obtain ⟨r1, r2⟩ := RPl (p0 := p0) (p1 := p1) (p2 := p2) (p3 := p3) (p4 := p4) (p5 := 35) (p6 := p2) (p7 := p7) (q := 112) (by omega) (show 0 < 3 by omega)
        have r1' : RP p0 p1 p2 p3 p4 35 p2 p7 113 0 = some 114 := r1
        have r2' : pshn 114 = some (.inl (.long, 400)) := r2
        have t0 : (0 : Int).toNat = 0 := rfl
        have t1 : (1 : Int).toNat = 1 := rfl
        have t2 : (2 : Int).toNat = 2 := rfl
        refine ⟨u2 J1 114 s (((J1 119 0 ||| J1 119 1 ||| J1 119 2) <<< ((1 : Int32).toInt64 &&& 63)) &&& st), fun a h1 h2 => (u2_ne (by omega)).trans (g1 a h2), fun a x h1 h2 => ?_, fun t n ht hn => ?_, ?_⟩
        · by_cases ca : a = 114
          · rw [ca, u2f h2, g1 _ (by omega)]
          · rw [u2_ne ca, g1 _ h1]
        · have ht0 : t = 0 := by
            unfold nlay at ht
            rw [if_pos c1] at ht
            omega
          subst ht0
          show gb (u2 J1 114 s _ 114 s) n = _
          rw [u2s]
          unfold LB
          rw [if_neg c2, gb_and, gb_shl1 _ hn, hst1 n hn, gb_or, gb_or, sf_any c1 hf, givs_all hw]
          cases n with
          | zero => simp [sty]
          | succ n =>
            rw [Nat.add_sub_cancel, hGT 0 n (by omega) (by omega), hGT 1 n (by omega) (by omega), hGT 2 n (by omega) (by omega)]
            have e1 : ∀ i : Nat, (fun u => LB m b (lbh m i) u n) = fun u => sf m b n u 0 := fun i => by
              funext u
              unfold LB lbh
              rw [if_neg c2, if_neg (by omega), if_neg c2]
            rw [e1, e1, e1]
            simp [Bool.and_comm]
        · have c10 : (1 : Int32).toInt64 = (i32 1).toInt64 := rfl
          have hcm : (lg_cmp st 0 = i32 0) = False := by
            rw [cmp_z]
            exact eq_false cst
          simp (disch := first | omega | assumption) only [k_X6_solveState_5_b, k_X6_solveState_17_b, k_X6_solveState_22_b, k_X6_solveState_28_b, k_X6_solveState_31_b, k_X6_solveState_37_b, k_X6_solveState_42_b, k_X6_solveState_53_b, k_X6_solveState_59_b, k_X6_solveState_65_b, k_X6_solveState_72_b, k_X6_solveState_81_b, k_X6_solveState_89_b, k_X6_solveState_92_b, k_X6_solveState_98_b, li_0, li_1, li_2, li_3, li_4, li_5, li_6, li_9, li_10, li_40, lm_1, lm_2, lm_3, lm_4, zs_ap, i32_add, i32_sub, i32_mul, i32_neg, i32_lt, i32_le, i32_eq, i32_nat, ckn, pka_r, pka_v, if_pos, if_neg, if_true, if_false, est, z13, hcm, c1, g3, t0, t1, t2, r1', va_rf, Int.toNat_natCast]
      · have c0 : qmode m = 0 := by omega
        obtain ⟨J2, a1, a2, a3, a4⟩ := h_layTurns_b (d := d + 1) (J := J1) (p0 := p0) (p1 := p1) (p2 := p2) (p3 := p3) (p4 := p4) (p7 := p7) hp hw c0 hm hs hf hGT hst1
        have hcm : (lg_cmp st 0 = i32 0) = False := by
          rw [cmp_z]
          exact eq_false cst
        refine ⟨J2, fun a h1 h2 => (a1 a h1 h2).trans (g1 a h2), fun a x h1 h2 => (a2 a x h1 h2).trans (congrFun (g1 a h1) x), fun t n ht hn => ?_, ?_⟩
        · unfold LB
          rw [if_neg c2]
          exact a3 t n (by have := (nlay_le hw).1; omega) hn
        · simp (disch := omega) only [k_X6_solveState_5_b, k_X6_solveState_17_b, k_X6_solveState_22_b, k_X6_solveState_28_b, k_X6_solveState_31_b, k_X6_solveState_37_b, k_X6_solveState_42_b, k_X6_solveState_53_b, k_X6_solveState_59_b, k_X6_solveState_65_b, k_X6_solveState_72_b, k_X6_solveState_81_b, k_X6_solveState_89_b, k_X6_solveState_92_b, k_X6_solveState_98_b, li_0, li_1, li_2, li_3, li_4, li_5, li_6, li_9, li_10, li_40, lm_1, lm_2, lm_3, lm_4, zs_ap, i32_add, i32_sub, i32_mul, i32_neg, i32_lt, i32_le, i32_eq, i32_nat, ckn, pka_r, pka_v, if_pos, if_neg, if_true, if_false, est, z13, hcm, c0, g3, a4]
/-- the rows are found for a matter and what a breach costs -/
def KR_b (m : Mat) (b : Nat → Int) (Z : Nat → Nat → Int) (J : Nat → Nat → Int64) : Prop := KB m b 112 Z ∧ ∀ u : Nat, u < qN m → LR m b 112 J u
theorem sv_loop_b (hp : p2 = 5 ∨ p2 = 20) (hw : wf m) (hb : bOK m b) (Z0 : Nat → Nat → Int) (hm : KM m p2 Z0) (hk : KS m 35 Z0) (hr : KB m b 112 Z0) (g2 : Nat) : ∀ (j s i : Nat) (Z : Nat → Nat → Int) (J0 J : Nat → Nat → Int64), qbeg m - s = j → s < qN m → i ≤ s → okS m s → (∀ a : Nat, a ≠ 118 → Z a = Z0 a) → (∀ k : Nat, k < qP m → Z 118 k = qhas m s k) → (∀ u : Nat, u ≤ s → LR m b 112 J u) → (∀ u t : Nat, s < u → u < qN m → t < nlay m → J (114 + t) u = 0) → (∀ a : Nat, (a < 114 ∨ 116 < a) → a ≠ 119 → J a = J0 a) → ∃ (Z' : Nat → Nat → Int) (J' : Nat → Nat → Int64), (∀ a : Nat, a ≠ 118 → Z' a = Z0 a) ∧ (∀ a : Nat, (a < 114 ∨ 116 < a) → a ≠ 119 → J' a = J0 a) ∧ (∀ u : Nat, u < qN m → LR m b 112 J' u) ∧ den none (Mean (d + 3)) none tQ_X6_solve (111, [some (.ref 112), some (.ref 35), some (.ref g2), some (.int (i32 (s : Int))), some (.int (i32 (i : Int)))], [], 176, zs Z, J, RP p0 p1 p2 p3 p4 35 p2 p7) = some (none, (176, zs Z', J', RP p0 p1 p2 p3 p4 35 p2 p7)) := by
  have hS := hw.1
  have hP := hw.2.1
  have hN := qpl_b hw (k := qP m) (Nat.le_refl _)
  have hN' : qN m = qpl m (qP m) := rfl
  have hbm := beg_max (m := m)
  have hbl := qbeg_lt m
  intro j
  induction j using Nat.strongRecOn with
  | _ j ih =>
    intro s i Z J0 J hj hs hi ho hz hst hlow hzero hfr
    have hm1 : KM m p2 Z := KM_fr hP hm (fun a h1 h2 => hz a (by omega))
    have hk1 : KS m 35 Z := by
      obtain ⟨⟨q1, q2⟩, q3, q4⟩ := hk
      refine ⟨⟨?_, fun k hk => ?_⟩, fun i hi s hs => ?_, fun i hi => ?_⟩
      · rw [hz _ (by decide)]; exact q1
      · rw [hz _ (by decide)]; exact q2 k hk
      · rw [hz _ (by omega)]; exact q3 i hi s hs
      · rw [hz _ (by decide)]; exact q4 i hi
    have hr1 : KB m b 112 Z := by
      refine ⟨fun i hi => ?_, fun i hi => ?_⟩
      · rw [hz _ (by decide)]; exact hr.1 i hi
      · rw [hz _ (by decide)]; exact hr.2 i hi
    have zb : Z 35 2 = (qbeg m : Int) := hk1.1.1.2.1
    by_cases cb : s = qbeg m
    · refine ⟨Z, J, hz, hfr, fun u hu => hlow u (by omega), ?_⟩
      rw [k_X6_solve_111_b (p5 := 0) (p6 := 0)]
      simp (disch := omega) only [k_X6_solve_0_b, k_X6_solve_5_b (p5 := 0), k_X6_solve_13_b (p5 := 0) (p6 := 0), k_X6_solve_26_b (p5 := 0) (p6 := 0), k_X6_solve_37_b (p5 := 0) (p6 := 0), k_X6_solve_40_b (p5 := 0) (p6 := 0), k_X6_solve_42_b (p5 := 0) (p6 := 0), k_X6_solve_52_b (p5 := 0) (p6 := 0), k_X6_solve_53_b (p5 := 0) (p6 := 0), k_X6_solve_60_b (p5 := 0) (p6 := 0), k_X6_solve_63_b (p5 := 0) (p6 := 0), k_X6_solve_69_b (p5 := 0) (p6 := 0), k_X6_solve_82_b (p5 := 0) (p6 := 0), k_X6_solve_96_b (p5 := 0) (p6 := 0), k_X6_solve_97_b (p5 := 0) (p6 := 0), k_X6_solve_103_b (p5 := 0) (p6 := 0), k_X6_solve_119_b (p5 := 0) (p6 := 0), k_X6_solve_127_b (p5 := 0) (p6 := 0), k_X6_solve_132_b (p5 := 0) (p6 := 0), k_X6_solve_138_b (p5 := 0) (p6 := 0), k_X6_solve_144_b (p5 := 0) (p6 := 0), li_0, li_1, li_2, li_3, li_4, li_5, li_6, li_9, li_10, li_40, lm_1, lm_2, lm_3, lm_4, zs_ap, i32_add, i32_sub, i32_mul, i32_neg, i32_lt, i32_le, i32_eq, i32_nat, ckn, pka_r, pka_v, if_pos, if_neg, if_true, if_false, li_400, zb, cb]
    · obtain ⟨s', Z1, ⟨n1, n2, n3, n4⟩, n5, n6, n7⟩ := h_nextState_b (d := d + 2) (J := J) (p0 := p0) (p1 := p1) (p2 := p2) (p3 := p3) (p4 := p4) (p7 := p7) hp hw hm1 hk1.1 hs cb ho hst
      have hz1 : ∀ a : Nat, a ≠ 118 → Z1 a = Z0 a := fun a ha => (n5 a ha).trans (hz a ha)
      have hm2 : KM m p2 Z1 := KM_fr hP hm (fun a h1 h2 => hz1 a (by omega))
      have hk2 : KS m 35 Z1 := by
        obtain ⟨⟨q1, q2⟩, q3, q4⟩ := hk
        refine ⟨⟨?_, fun k hk => ?_⟩, fun i hi s hs => ?_, fun i hi => ?_⟩
        · rw [hz1 _ (by decide)]; exact q1
        · rw [hz1 _ (by decide)]; exact q2 k hk
        · rw [hz1 _ (by omega)]; exact q3 i hi s hs
        · rw [hz1 _ (by decide)]; exact q4 i hi
      have hr2 : KB m b 112 Z1 := by
        refine ⟨fun i hi => ?_, fun i hi => ?_⟩
        · rw [hz1 _ (by decide)]; exact hr.1 i hi
        · rw [hz1 _ (by decide)]; exact hr.2 i hi
      have hfl := fin_least hs ho
      have hlow' : ∀ u : Nat, u < s' → LR m b 112 J u := fun u hu => by
        by_cases cu : u ≤ s
        · exact hlow u cu
        · intro t n ht hn
          have e0 : J (112 + 2 + t) u = 0 := hzero u t (by omega) (by omega) ht
          rw [e0, gb_0]
          cases c : LB m b t u n
          · rfl
          · exact absurd (LB_ok hw (by omega) c) (n4 u (by omega) hu)
      obtain ⟨J1, b1, b2, b3, b4⟩ := h_solveState_b (d := d) (J := J) (p0 := p0) (p1 := p1) (p2 := p2) (p3 := p3) (p4 := p4) (p7 := p7) hp hw hb hm2 hk2 hr2 n2 (by omega) n3 n6 hlow' (fun t ht => hzero s' t n1 n2 ht)
      obtain ⟨Z', J', c1, c2, c3, c4⟩ := ih (qbeg m - s') (by omega) s' (i + 1) Z1 J0 J1 rfl n2 (by omega) n3 hz1 n6 (fun u hu => by
        by_cases cu : u = s'
        · rw [cu]; exact b3
        · intro t n ht hn
          have := (nlay_le hw).2.1
          rw [b2 _ u (by omega) cu]
          exact hlow' u (by omega) t n ht hn) (fun u t h1 h2 ht => by
        have := (nlay_le hw).2.1
        rw [b2 _ u (by omega) (by omega)]
        exact hzero u t (by omega) h2 ht) (fun a h1 h2 => (b1 a h1 h2).trans (hfr a h1 h2))
      refine ⟨Z', J', c1, c2, c3, ?_⟩
      rw [k_X6_solve_111_b (p5 := 0) (p6 := 0)]
      simp (disch := omega) only [k_X6_solve_0_b, k_X6_solve_5_b (p5 := 0), k_X6_solve_13_b (p5 := 0) (p6 := 0), k_X6_solve_26_b (p5 := 0) (p6 := 0), k_X6_solve_37_b (p5 := 0) (p6 := 0), k_X6_solve_40_b (p5 := 0) (p6 := 0), k_X6_solve_42_b (p5 := 0) (p6 := 0), k_X6_solve_52_b (p5 := 0) (p6 := 0), k_X6_solve_53_b (p5 := 0) (p6 := 0), k_X6_solve_60_b (p5 := 0) (p6 := 0), k_X6_solve_63_b (p5 := 0) (p6 := 0), k_X6_solve_69_b (p5 := 0) (p6 := 0), k_X6_solve_82_b (p5 := 0) (p6 := 0), k_X6_solve_96_b (p5 := 0) (p6 := 0), k_X6_solve_97_b (p5 := 0) (p6 := 0), k_X6_solve_103_b (p5 := 0) (p6 := 0), k_X6_solve_119_b (p5 := 0) (p6 := 0), k_X6_solve_127_b (p5 := 0) (p6 := 0), k_X6_solve_132_b (p5 := 0) (p6 := 0), k_X6_solve_138_b (p5 := 0) (p6 := 0), k_X6_solve_144_b (p5 := 0) (p6 := 0), li_0, li_1, li_2, li_3, li_4, li_5, li_6, li_9, li_10, li_40, lm_1, lm_2, lm_3, lm_4, zs_ap, i32_add, i32_sub, i32_mul, i32_neg, i32_lt, i32_le, i32_eq, i32_nat, ckn, pka_r, pka_v, if_pos, if_neg, if_true, if_false, li_400, zb, n7, b4]
      exact c4
end
section
variable {d : Nat} {J : Nat → Nat → Int64} {Z : Nat → Nat → Int} {p0 p1 p2 p3 p4 : Nat} {m : Mat} {b : Nat → Int}
theorem h_solveState_c  (hw : wf m) (hb : bOK m b) (hm : KM m 97 Z) (hk : KS m 121 Z) (hr : KB m b 112 Z) {s : Nat} (hs : s < qN m) (hf : s ≠ qfin m) (ho : okS m s) (hst : ∀ k : Nat, k < qP m → Z 118 k = qhas m s k) (hlow : ∀ u : Nat, u < s → LR m b 112 J u) (hz : ∀ t : Nat, t < nlay m → J (114 + t) s = 0) : ∃ J' : Nat → Nat → Int64, (∀ a : Nat, (a < 114 ∨ 116 < a) → a ≠ 119 → J' a = J a) ∧ (∀ a x : Nat, a ≠ 119 → x ≠ s → J' a x = J a x) ∧ LR m b 112 J' s ∧ Mean (d + 3) 68 [.ref 112, .int (i32 (s : Int))] (176, zs Z, J, RP p0 p1 p2 p3 p4 121 97 97) = some (none, (176, zs Z, J', RP p0 p1 p2 p3 p4 121 97 97)) := by
  have hS := hw.1
  have hN := qpl_b hw (k := qP m) (Nat.le_refl _)
  have hN' : qN m = qpl m (qP m) := rfl
  have hmd := hw.2.2.2.2.2.1.2.2.1
  have z13 : Z 97 13 = (qmode m : Int) := hm.1.2.2.2.2.1
  obtain ⟨st, hst1, est⟩ := h_stayBits_c (d := d + 1) (J := J) (p0 := p0) (p1 := p1) (p2 := p2) (p3 := p3) (p4 := p4)  hw hb hm hk hr hs
  obtain ⟨J1, g1, g2, g3⟩ := h_gather_c (d := d) (J := J) (p0 := p0) (p1 := p1) (p2 := p2) (p3 := p3) (p4 := p4)  hw hm hk.1 hr.2 hs ho hst
  have hGT : GT m b s (J1 119) := fun i n hi hn => by
    rw [g2 i n hi]
    by_cases ci : i < qS m
    · exact givs_c (fun u hu => hlow u hu (lbh m i) n (lbh_lt hw ci).1 hn)
    · have e0 : ∀ f : Nat → Bool, givs m s (fun k => decide (qown m k = i)) f = false := fun f => by
        cases c : givs m s (fun k => decide (qown m k = i)) f
        · rfl
        · obtain ⟨k, q, h1, h2, _⟩ := givs_iff.mp c
          have := (hw.2.2.1 k h1).1
          have := of_decide_eq_true h2
          omega
      rw [e0, e0]
  rw [e_X6_solveState, k_X6_solveState_0_c]
  by_cases c2 : qmode m = 2
  · obtain ⟨J2, a1, a2, a3, a4⟩ := h_layOnce_c (d := d + 1) (J := J1) (p0 := p0) (p1 := p1) (p2 := p2) (p3 := p3) (p4 := p4)  hw c2 hm hs hf hGT hst1
    refine ⟨J2, fun a h1 h2 => (a1 a h1).trans (g1 a h2), fun a x h1 h2 => (a2 a x h2).trans (congrFun (g1 a h1) x), fun t n ht hn => a3 t n (by have := (nlay_le hw).1; omega) hn, ?_⟩
    simp (disch := omega) only [k_X6_solveState_5_c, k_X6_solveState_17_c, k_X6_solveState_22_c, k_X6_solveState_28_c, k_X6_solveState_31_c, k_X6_solveState_37_c, k_X6_solveState_42_c, k_X6_solveState_53_c, k_X6_solveState_59_c, k_X6_solveState_65_c, k_X6_solveState_72_c, k_X6_solveState_81_c, k_X6_solveState_89_c, k_X6_solveState_92_c, k_X6_solveState_98_c, li_0, li_1, li_2, li_3, li_4, li_5, li_6, li_9, li_10, li_40, lm_1, lm_2, lm_3, lm_4, zs_ap, i32_add, i32_sub, i32_mul, i32_neg, i32_lt, i32_le, i32_eq, i32_nat, ckn, pka_r, pka_v, if_pos, if_neg, if_true, if_false, est, z13, c2, g3, a4]
  · by_cases cst : st = 0
    · have hno : ∀ n : Nat, n < 64 → sty m b s n = false := fun n hn => by rw [← hst1 n hn, cst, gb_0]
      refine ⟨J, fun _ _ _ => rfl, fun _ _ _ _ => rfl, fun t n ht hn => ?_, ?_⟩
      · have hzt : J (112 + 2 + t) s = 0 := hz t ht
        rw [hzt, gb_0]
        unfold LB
        rw [if_neg c2]
        symm
        by_cases c1 : qmode m = 1
        · have ht0 : t = 0 := by
            unfold nlay at ht
            rw [if_pos c1] at ht
            omega
          rw [ht0, sf_any c1 hf, hno n hn, Bool.false_and]
        · rw [sf_turn (by omega) hf, hno n hn]
          unfold Bt
          rw [hno n hn, Bool.false_and, Bool.false_and]
          rfl
      · simp (disch := omega) only [k_X6_solveState_5_c, k_X6_solveState_17_c, k_X6_solveState_22_c, k_X6_solveState_28_c, k_X6_solveState_31_c, k_X6_solveState_37_c, k_X6_solveState_42_c, k_X6_solveState_53_c, k_X6_solveState_59_c, k_X6_solveState_65_c, k_X6_solveState_72_c, k_X6_solveState_81_c, k_X6_solveState_89_c, k_X6_solveState_92_c, k_X6_solveState_98_c, li_0, li_1, li_2, li_3, li_4, li_5, li_6, li_9, li_10, li_40, lm_1, lm_2, lm_3, lm_4, zs_ap, i32_add, i32_sub, i32_mul, i32_neg, i32_lt, i32_le, i32_eq, i32_nat, ckn, pka_r, pka_v, if_pos, if_neg, if_true, if_false, est, z13, cmp_z, cst]
    · by_cases c1 : qmode m = 1
      · obtain ⟨r1, r2⟩ := RPl (p0 := p0) (p1 := p1) (p2 := p2) (p3 := p3) (p4 := p4) (p5 := 121) (p6 := 97) (p7 := 97) (q := 112) (by omega) (show 0 < 3 by omega)
        have r1' : RP p0 p1 p2 p3 p4 121 97 97 113 0 = some 114 := r1
        have r2' : pshn 114 = some (.inl (.long, 400)) := r2
        have t0 : (0 : Int).toNat = 0 := rfl
        have t1 : (1 : Int).toNat = 1 := rfl
        have t2 : (2 : Int).toNat = 2 := rfl
        refine ⟨u2 J1 114 s (((J1 119 0 ||| J1 119 1 ||| J1 119 2) <<< ((1 : Int32).toInt64 &&& 63)) &&& st), fun a h1 h2 => (u2_ne (by omega)).trans (g1 a h2), fun a x h1 h2 => ?_, fun t n ht hn => ?_, ?_⟩
        · by_cases ca : a = 114
          · rw [ca, u2f h2, g1 _ (by omega)]
          · rw [u2_ne ca, g1 _ h1]
        · have ht0 : t = 0 := by
            unfold nlay at ht
            rw [if_pos c1] at ht
            omega
          subst ht0
          show gb (u2 J1 114 s _ 114 s) n = _
          rw [u2s]
          unfold LB
          rw [if_neg c2, gb_and, gb_shl1 _ hn, hst1 n hn, gb_or, gb_or, sf_any c1 hf, givs_all hw]
          cases n with
          | zero => simp [sty]
          | succ n =>
            rw [Nat.add_sub_cancel, hGT 0 n (by omega) (by omega), hGT 1 n (by omega) (by omega), hGT 2 n (by omega) (by omega)]
            have e1 : ∀ i : Nat, (fun u => LB m b (lbh m i) u n) = fun u => sf m b n u 0 := fun i => by
              funext u
              unfold LB lbh
              rw [if_neg c2, if_neg (by omega), if_neg c2]
            rw [e1, e1, e1]
            simp [Bool.and_comm]
        · have c10 : (1 : Int32).toInt64 = (i32 1).toInt64 := rfl
          have hcm : (lg_cmp st 0 = i32 0) = False := by
            rw [cmp_z]
            exact eq_false cst
          simp (disch := first | omega | assumption) only [k_X6_solveState_5_c, k_X6_solveState_17_c, k_X6_solveState_22_c, k_X6_solveState_28_c, k_X6_solveState_31_c, k_X6_solveState_37_c, k_X6_solveState_42_c, k_X6_solveState_53_c, k_X6_solveState_59_c, k_X6_solveState_65_c, k_X6_solveState_72_c, k_X6_solveState_81_c, k_X6_solveState_89_c, k_X6_solveState_92_c, k_X6_solveState_98_c, li_0, li_1, li_2, li_3, li_4, li_5, li_6, li_9, li_10, li_40, lm_1, lm_2, lm_3, lm_4, zs_ap, i32_add, i32_sub, i32_mul, i32_neg, i32_lt, i32_le, i32_eq, i32_nat, ckn, pka_r, pka_v, if_pos, if_neg, if_true, if_false, est, z13, hcm, c1, g3, t0, t1, t2, r1', va_rf, Int.toNat_natCast]
      · have c0 : qmode m = 0 := by omega
        obtain ⟨J2, a1, a2, a3, a4⟩ := h_layTurns_c (d := d + 1) (J := J1) (p0 := p0) (p1 := p1) (p2 := p2) (p3 := p3) (p4 := p4)  hw c0 hm hs hf hGT hst1
        have hcm : (lg_cmp st 0 = i32 0) = False := by
          rw [cmp_z]
          exact eq_false cst
        refine ⟨J2, fun a h1 h2 => (a1 a h1 h2).trans (g1 a h2), fun a x h1 h2 => (a2 a x h1 h2).trans (congrFun (g1 a h1) x), fun t n ht hn => ?_, ?_⟩
        · unfold LB
          rw [if_neg c2]
          exact a3 t n (by have := (nlay_le hw).1; omega) hn
        · simp (disch := omega) only [k_X6_solveState_5_c, k_X6_solveState_17_c, k_X6_solveState_22_c, k_X6_solveState_28_c, k_X6_solveState_31_c, k_X6_solveState_37_c, k_X6_solveState_42_c, k_X6_solveState_53_c, k_X6_solveState_59_c, k_X6_solveState_65_c, k_X6_solveState_72_c, k_X6_solveState_81_c, k_X6_solveState_89_c, k_X6_solveState_92_c, k_X6_solveState_98_c, li_0, li_1, li_2, li_3, li_4, li_5, li_6, li_9, li_10, li_40, lm_1, lm_2, lm_3, lm_4, zs_ap, i32_add, i32_sub, i32_mul, i32_neg, i32_lt, i32_le, i32_eq, i32_nat, ckn, pka_r, pka_v, if_pos, if_neg, if_true, if_false, est, z13, hcm, c0, g3, a4]
/-- the rows are found for a matter and what a breach costs -/
def KR_c (m : Mat) (b : Nat → Int) (Z : Nat → Nat → Int) (J : Nat → Nat → Int64) : Prop := KB m b 112 Z ∧ ∀ u : Nat, u < qN m → LR m b 112 J u
theorem sv_loop_c  (hw : wf m) (hb : bOK m b) (Z0 : Nat → Nat → Int) (hm : KM m 97 Z0) (hk : KS m 121 Z0) (hr : KB m b 112 Z0) (g2 : Nat) : ∀ (j s i : Nat) (Z : Nat → Nat → Int) (J0 J : Nat → Nat → Int64), qbeg m - s = j → s < qN m → i ≤ s → okS m s → (∀ a : Nat, a ≠ 118 → Z a = Z0 a) → (∀ k : Nat, k < qP m → Z 118 k = qhas m s k) → (∀ u : Nat, u ≤ s → LR m b 112 J u) → (∀ u t : Nat, s < u → u < qN m → t < nlay m → J (114 + t) u = 0) → (∀ a : Nat, (a < 114 ∨ 116 < a) → a ≠ 119 → J a = J0 a) → ∃ (Z' : Nat → Nat → Int) (J' : Nat → Nat → Int64), (∀ a : Nat, a ≠ 118 → Z' a = Z0 a) ∧ (∀ a : Nat, (a < 114 ∨ 116 < a) → a ≠ 119 → J' a = J0 a) ∧ (∀ u : Nat, u < qN m → LR m b 112 J' u) ∧ den none (Mean (d + 3)) none tQ_X6_solve (111, [some (.ref 112), some (.ref 121), some (.ref g2), some (.int (i32 (s : Int))), some (.int (i32 (i : Int)))], [], 176, zs Z, J, RP p0 p1 p2 p3 p4 121 97 97) = some (none, (176, zs Z', J', RP p0 p1 p2 p3 p4 121 97 97)) := by
  have hS := hw.1
  have hP := hw.2.1
  have hN := qpl_b hw (k := qP m) (Nat.le_refl _)
  have hN' : qN m = qpl m (qP m) := rfl
  have hbm := beg_max (m := m)
  have hbl := qbeg_lt m
  intro j
  induction j using Nat.strongRecOn with
  | _ j ih =>
    intro s i Z J0 J hj hs hi ho hz hst hlow hzero hfr
    have hm1 : KM m 97 Z := KM_fr hP hm (fun a h1 h2 => hz a (by omega))
    have hk1 : KS m 121 Z := by
      obtain ⟨⟨q1, q2⟩, q3, q4⟩ := hk
      refine ⟨⟨?_, fun k hk => ?_⟩, fun i hi s hs => ?_, fun i hi => ?_⟩
      · rw [hz _ (by decide)]; exact q1
      · rw [hz _ (by decide)]; exact q2 k hk
      · rw [hz _ (by omega)]; exact q3 i hi s hs
      · rw [hz _ (by decide)]; exact q4 i hi
    have hr1 : KB m b 112 Z := by
      refine ⟨fun i hi => ?_, fun i hi => ?_⟩
      · rw [hz _ (by decide)]; exact hr.1 i hi
      · rw [hz _ (by decide)]; exact hr.2 i hi
    have zb : Z 121 2 = (qbeg m : Int) := hk1.1.1.2.1
    by_cases cb : s = qbeg m
    · refine ⟨Z, J, hz, hfr, fun u hu => hlow u (by omega), ?_⟩
      rw [k_X6_solve_111_c (p5 := 0) (p6 := 0)]
      simp (disch := omega) only [k_X6_solve_0_c, k_X6_solve_5_c (p5 := 0), k_X6_solve_13_c (p5 := 0) (p6 := 0), k_X6_solve_26_c (p5 := 0) (p6 := 0), k_X6_solve_37_c (p5 := 0) (p6 := 0), k_X6_solve_40_c (p5 := 0) (p6 := 0), k_X6_solve_42_c (p5 := 0) (p6 := 0), k_X6_solve_52_c (p5 := 0) (p6 := 0), k_X6_solve_53_c (p5 := 0) (p6 := 0), k_X6_solve_60_c (p5 := 0) (p6 := 0), k_X6_solve_63_c (p5 := 0) (p6 := 0), k_X6_solve_69_c (p5 := 0) (p6 := 0), k_X6_solve_82_c (p5 := 0) (p6 := 0), k_X6_solve_96_c (p5 := 0) (p6 := 0), k_X6_solve_97_c (p5 := 0) (p6 := 0), k_X6_solve_103_c (p5 := 0) (p6 := 0), k_X6_solve_119_c (p5 := 0) (p6 := 0), k_X6_solve_127_c (p5 := 0) (p6 := 0), k_X6_solve_132_c (p5 := 0) (p6 := 0), k_X6_solve_138_c (p5 := 0) (p6 := 0), k_X6_solve_144_c (p5 := 0) (p6 := 0), li_0, li_1, li_2, li_3, li_4, li_5, li_6, li_9, li_10, li_40, lm_1, lm_2, lm_3, lm_4, zs_ap, i32_add, i32_sub, i32_mul, i32_neg, i32_lt, i32_le, i32_eq, i32_nat, ckn, pka_r, pka_v, if_pos, if_neg, if_true, if_false, li_400, zb, cb]
    · obtain ⟨s', Z1, ⟨n1, n2, n3, n4⟩, n5, n6, n7⟩ := h_nextState_c (d := d + 2) (J := J) (p0 := p0) (p1 := p1) (p2 := p2) (p3 := p3) (p4 := p4)  hw hm1 hk1.1 hs cb ho hst
      have hz1 : ∀ a : Nat, a ≠ 118 → Z1 a = Z0 a := fun a ha => (n5 a ha).trans (hz a ha)
      have hm2 : KM m 97 Z1 := KM_fr hP hm (fun a h1 h2 => hz1 a (by omega))
      have hk2 : KS m 121 Z1 := by
        obtain ⟨⟨q1, q2⟩, q3, q4⟩ := hk
        refine ⟨⟨?_, fun k hk => ?_⟩, fun i hi s hs => ?_, fun i hi => ?_⟩
        · rw [hz1 _ (by decide)]; exact q1
        · rw [hz1 _ (by decide)]; exact q2 k hk
        · rw [hz1 _ (by omega)]; exact q3 i hi s hs
        · rw [hz1 _ (by decide)]; exact q4 i hi
      have hr2 : KB m b 112 Z1 := by
        refine ⟨fun i hi => ?_, fun i hi => ?_⟩
        · rw [hz1 _ (by decide)]; exact hr.1 i hi
        · rw [hz1 _ (by decide)]; exact hr.2 i hi
      have hfl := fin_least hs ho
      have hlow' : ∀ u : Nat, u < s' → LR m b 112 J u := fun u hu => by
        by_cases cu : u ≤ s
        · exact hlow u cu
        · intro t n ht hn
          have e0 : J (112 + 2 + t) u = 0 := hzero u t (by omega) (by omega) ht
          rw [e0, gb_0]
          cases c : LB m b t u n
          · rfl
          · exact absurd (LB_ok hw (by omega) c) (n4 u (by omega) hu)
      obtain ⟨J1, b1, b2, b3, b4⟩ := h_solveState_c (d := d) (J := J) (p0 := p0) (p1 := p1) (p2 := p2) (p3 := p3) (p4 := p4)  hw hb hm2 hk2 hr2 n2 (by omega) n3 n6 hlow' (fun t ht => hzero s' t n1 n2 ht)
      obtain ⟨Z', J', c1, c2, c3, c4⟩ := ih (qbeg m - s') (by omega) s' (i + 1) Z1 J0 J1 rfl n2 (by omega) n3 hz1 n6 (fun u hu => by
        by_cases cu : u = s'
        · rw [cu]; exact b3
        · intro t n ht hn
          have := (nlay_le hw).2.1
          rw [b2 _ u (by omega) cu]
          exact hlow' u (by omega) t n ht hn) (fun u t h1 h2 ht => by
        have := (nlay_le hw).2.1
        rw [b2 _ u (by omega) (by omega)]
        exact hzero u t (by omega) h2 ht) (fun a h1 h2 => (b1 a h1 h2).trans (hfr a h1 h2))
      refine ⟨Z', J', c1, c2, c3, ?_⟩
      rw [k_X6_solve_111_c (p5 := 0) (p6 := 0)]
      simp (disch := omega) only [k_X6_solve_0_c, k_X6_solve_5_c (p5 := 0), k_X6_solve_13_c (p5 := 0) (p6 := 0), k_X6_solve_26_c (p5 := 0) (p6 := 0), k_X6_solve_37_c (p5 := 0) (p6 := 0), k_X6_solve_40_c (p5 := 0) (p6 := 0), k_X6_solve_42_c (p5 := 0) (p6 := 0), k_X6_solve_52_c (p5 := 0) (p6 := 0), k_X6_solve_53_c (p5 := 0) (p6 := 0), k_X6_solve_60_c (p5 := 0) (p6 := 0), k_X6_solve_63_c (p5 := 0) (p6 := 0), k_X6_solve_69_c (p5 := 0) (p6 := 0), k_X6_solve_82_c (p5 := 0) (p6 := 0), k_X6_solve_96_c (p5 := 0) (p6 := 0), k_X6_solve_97_c (p5 := 0) (p6 := 0), k_X6_solve_103_c (p5 := 0) (p6 := 0), k_X6_solve_119_c (p5 := 0) (p6 := 0), k_X6_solve_127_c (p5 := 0) (p6 := 0), k_X6_solve_132_c (p5 := 0) (p6 := 0), k_X6_solve_138_c (p5 := 0) (p6 := 0), k_X6_solve_144_c (p5 := 0) (p6 := 0), li_0, li_1, li_2, li_3, li_4, li_5, li_6, li_9, li_10, li_40, lm_1, lm_2, lm_3, lm_4, zs_ap, i32_add, i32_sub, i32_mul, i32_neg, i32_lt, i32_le, i32_eq, i32_nat, ckn, pka_r, pka_v, if_pos, if_neg, if_true, if_false, li_400, zb, n7, b4]
      exact c4
end
