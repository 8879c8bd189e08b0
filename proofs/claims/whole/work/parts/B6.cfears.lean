/-! THE CLASS'S Fears -/
def mrg (m : Mat) (i s : Nat) (n : Int) : Int := qgoal m i - n * (qday m : Int) - qstop m s i
def manyF (M : Int) : Nat := if -M < 41 then (-M).toNat else 41
theorem manyF_le (M : Int) : manyF M ≤ 41 := by
  unfold manyF
  split <;> omega
theorem manyF_frs {m : Mat} {i s : Nat} {n : Int} {f : Nat} (hf : f < 41) : decide (f < manyF (mrg m i s n)) = frs m i s n f := by
  unfold frs manyF mrg
  apply beq_iff
  rw [decide_eq_true_iff, decide_eq_true_iff]
  split <;> omega
theorem mrg_b {m : Mat} (hw : wf m) {i s : Nat} (hi : i < qS m) {n : Int} (hn : 0 ≤ n ∧ n ≤ 40) : -1000000 ≤ mrg m i s n ∧ mrg m i s n ≤ 1000000 := by
  have b1 := qstop_b hw s hi
  have b2 := qgoal_b hw hi
  have b4 := hw.2.2.2.2.2.1.1
  have q1 : 0 ≤ n * (qday m : Int) := Int.mul_nonneg (by omega) (by omega)
  have q2 : n * (qday m : Int) ≤ 40 * 99 := Int.mul_le_mul (by omega) (by omega) (by omega) (by omega)
  unfold mrg
  omega
/-- the class's deeds Z are the model's deeds Y -/
def DC (m : Mat) (Z Y : Nat → Nat → Int) (nd nr : Nat) : Prop := (Z 132 0 = nd ∧ Z 132 1 = nr ∧ Z 132 2 = Y 140 70) ∧ (∀ k : Nat, k < nd → Z 133 k = Y 172 k ∧ Z 134 k = Y 168 k ∧ Z 135 k = mrg m (Y 168 k).toNat (Y 169 k).toNat (Y 170 k) ∧ Z 136 k = Y 171 k) ∧ ∀ r : Nat, r < nr → Z 137 r = Y 175 r ∧ Z 138 r = Y 173 r ∧ Z 139 r = Y 174 r
theorem DC_fr {m : Mat} {Z Z' Y : Nat → Nat → Int} {nd nr : Nat} (h : DC m Z Y nd nr) (e : ∀ a : Nat, 132 ≤ a → a ≤ 139 → Z' a = Z a) : DC m Z' Y nd nr := by
  unfold DC
  rw [e 132 (by omega) (by omega), e 133 (by omega) (by omega), e 134 (by omega) (by omega), e 135 (by omega) (by omega), e 136 (by omega) (by omega), e 137 (by omega) (by omega), e 138 (by omega) (by omega), e 139 (by omega) (by omega)]
  exact h
theorem DC_fr2 {m : Mat} {Z Y Y' : Nat → Nat → Int} {nd nr : Nat} (h : DC m Z Y nd nr) (e0 : Y' 140 70 = Y 140 70) (e : ∀ a : Nat, 168 ≤ a → a ≤ 175 → Y' a = Y a) : DC m Z Y' nd nr := by
  unfold DC
  rw [e0, e 168 (by omega) (by omega), e 169 (by omega) (by omega), e 170 (by omega) (by omega), e 171 (by omega) (by omega), e 172 (by omega) (by omega), e 173 (by omega) (by omega), e 174 (by omega) (by omega), e 175 (by omega) (by omega)]
  exact h
theorem run_and {x : Int64} {lo hi M : Nat} (h : run x lo hi) (hM : M ≤ 41) : run (x &&& mkM M) lo (if hi < M then hi else M) := by
  obtain ⟨⟨h1, h2⟩, h3⟩ := h
  refine ⟨⟨h1, by split <;> omega⟩, fun n hn => ?_⟩
  rw [gb_and, h3 n hn, show gb (mkM M) n = decide (n < M) from gb_mask hM hn]
  apply beq_iff
  rw [Bool.and_eq_true, decide_eq_true_iff, decide_eq_true_iff, decide_eq_true_iff]
  split <;> omega
theorem run_not {x : Int64} {lo hi M : Nat} (h : run x lo hi) (hM : M ≤ 41) : run (x &&& (mkM M ^^^ (-1))) (if lo < M then M else lo) hi := by
  obtain ⟨⟨h1, h2⟩, h3⟩ := h
  refine ⟨⟨by split <;> omega, h2⟩, fun n hn => ?_⟩
  rw [gb_and, h3 n hn, gb_not _ hn, show gb (mkM M) n = decide (n < M) from gb_mask hM hn]
  apply beq_iff
  rw [Bool.and_eq_true, Bool.not_eq_true', decide_eq_true_iff, decide_eq_true_iff, decide_eq_false_iff_not]
  split <;> omega
section
variable {d : Nat} {J : Nat → Nat → Int64} {Z Y : Nat → Nat → Int} {p0 p1 p5 p6 : Nat} {m : Mat} {nd nr : Nat}
theorem h_fears {M : Int} (hM : -1000000 ≤ M ∧ M ≤ 1000000) : Mean (d + 1) 8 [.int (i32 M)] (176, zs Z, J, RP p0 p1 p0 35 p0 p5 p6 97) = some (some (.long (mkM (manyF M))), (176, zs Z, J, RP p0 p1 p0 35 p0 p5 p6 97)) := by
  rw [e_X0_fearsThatStop, k_X0_fearsThatStop_0]
  unfold mkM manyF
  by_cases c : -M < 41
  · rw [if_pos c]
    by_cases c0 : 0 < -M
    · rw [show ((-M).toNat : Int) = -M by omega]
      simp (disch := omega) only [li_0, li_41, i32_neg, i32_lt, if_pos]
    · rw [show ((-M).toNat : Int) = 0 by omega]
      simp (disch := omega) only [li_0, li_41, i32_neg, i32_lt, if_pos, if_neg]
  · rw [if_neg c]
    simp (disch := omega) only [li_0, li_41, i32_neg, i32_lt, if_pos, if_neg]
    rfl
theorem h_sak (hv : DV m Y nd nr) (hc : DC m Z Y nd nr) {k : Nat} (hk : k < nd) {kn : Int} (hkn : -2147483648 ≤ kn ∧ kn < 2147483648) : Mean (d + 1) 7 [.ref 132, .int (i32 (k : Int)), .int (i32 kn)] (176, zs Z, J, RP p0 p1 p0 35 p0 p5 p6 97) = some (some (.int (i32 (sakF Y k kn nr))), (176, zs Z, J, RP p0 p1 p0 35 p0 p5 p6 97)) := by
  obtain ⟨⟨v1, v2, v3, v4, v5⟩, w1, w2⟩ := id hv
  obtain ⟨⟨c1, c2, c3⟩, d1, d2⟩ := hc
  have key := up_eq (fun r => den none (Mean d) (some .int) tQ_X0_stoppedAsKnown (10, [some (.ref 132), some (.int (i32 (k : Int))), some (.int (i32 kn)), some (.int (i32 (sakF Y k kn r))), some (.int (i32 (r : Int)))], [], 176, zs Z, J, RP p0 p1 p0 35 p0 p5 p6 97)) nr (fun r hr => by
    obtain ⟨q1, q2, q3⟩ := d2 r hr
    obtain ⟨u1, u2, u3⟩ := w2 r hr
    rw [k_X0_stoppedAsKnown_10]
    have e : sakF Y k kn (r + 1) = if Y 173 r = (k : Int) ∧ Y 175 r ≤ kn then Y 174 r else sakF Y k kn r := rfl
    by_cases a1 : Y 173 r = (k : Int)
    · by_cases a2 : Y 175 r ≤ kn
      · rw [if_pos ⟨a1, a2⟩] at e
        simp (disch := omega) only [k_X0_stoppedAsKnown_6, k_X0_stoppedAsKnown_19, k_X0_stoppedAsKnown_26, k_X0_stoppedAsKnown_30, k_X0_stoppedAsKnown_37, k_X0_stoppedAsKnown_41, k_X0_stoppedAsKnown_48, k_X0_stoppedAsKnown_49, k_X0_stoppedAsKnown_55, li_0, li_1, li_2, li_3, li_4, li_5, li_6, li_9, li_10, li_40, lm_1, lm_2, lm_3, lm_4, zs_ap, i32_add, i32_sub, i32_mul, i32_neg, i32_lt, i32_le, i32_eq, i32_nat, ckn, pka_r, pka_v, if_pos, if_neg, if_true, if_false, c2, Int.toNat_natCast, q1, q2, q3, e]
        rfl
      · rw [if_neg (fun q => a2 q.2)] at e
        simp (disch := omega) only [k_X0_stoppedAsKnown_6, k_X0_stoppedAsKnown_19, k_X0_stoppedAsKnown_26, k_X0_stoppedAsKnown_30, k_X0_stoppedAsKnown_37, k_X0_stoppedAsKnown_41, k_X0_stoppedAsKnown_48, k_X0_stoppedAsKnown_49, k_X0_stoppedAsKnown_55, li_0, li_1, li_2, li_3, li_4, li_5, li_6, li_9, li_10, li_40, lm_1, lm_2, lm_3, lm_4, zs_ap, i32_add, i32_sub, i32_mul, i32_neg, i32_lt, i32_le, i32_eq, i32_nat, ckn, pka_r, pka_v, if_pos, if_neg, if_true, if_false, c2, Int.toNat_natCast, q1, q2, q3, e]
        rfl
    · rw [if_neg (fun q => a1 q.1)] at e
      simp (disch := omega) only [k_X0_stoppedAsKnown_6, k_X0_stoppedAsKnown_19, k_X0_stoppedAsKnown_26, k_X0_stoppedAsKnown_30, k_X0_stoppedAsKnown_37, k_X0_stoppedAsKnown_41, k_X0_stoppedAsKnown_48, k_X0_stoppedAsKnown_49, k_X0_stoppedAsKnown_55, li_0, li_1, li_2, li_3, li_4, li_5, li_6, li_9, li_10, li_40, lm_1, lm_2, lm_3, lm_4, zs_ap, i32_add, i32_sub, i32_mul, i32_neg, i32_lt, i32_le, i32_eq, i32_nat, ckn, pka_r, pka_v, if_pos, if_neg, if_true, if_false, c2, Int.toNat_natCast, q1, q2, q3, e]
      rfl)
  have z1 : Z 136 k = Y 171 k := (d1 k hk).2.2.2
  rw [e_X0_stoppedAsKnown, k_X0_stoppedAsKnown_0]
  simp (disch := omega) only [k_X0_stoppedAsKnown_6, k_X0_stoppedAsKnown_19, k_X0_stoppedAsKnown_26, k_X0_stoppedAsKnown_30, k_X0_stoppedAsKnown_37, k_X0_stoppedAsKnown_41, k_X0_stoppedAsKnown_48, k_X0_stoppedAsKnown_49, k_X0_stoppedAsKnown_55, li_0, li_1, li_2, li_3, li_4, li_5, li_6, li_9, li_10, li_40, lm_1, lm_2, lm_3, lm_4, zs_ap, i32_add, i32_sub, i32_mul, i32_neg, i32_lt, i32_le, i32_eq, i32_nat, ckn, pka_r, pka_v, if_pos, if_neg, if_true, if_false, Int.toNat_natCast, z1]
  refine Eq.trans key ?_
  rw [k_X0_stoppedAsKnown_10]
  simp (disch := omega) only [k_X0_stoppedAsKnown_6, k_X0_stoppedAsKnown_19, k_X0_stoppedAsKnown_26, k_X0_stoppedAsKnown_30, k_X0_stoppedAsKnown_37, k_X0_stoppedAsKnown_41, k_X0_stoppedAsKnown_48, k_X0_stoppedAsKnown_49, k_X0_stoppedAsKnown_55, li_0, li_1, li_2, li_3, li_4, li_5, li_6, li_9, li_10, li_40, lm_1, lm_2, lm_3, lm_4, zs_ap, i32_add, i32_sub, i32_mul, i32_neg, i32_lt, i32_le, i32_eq, i32_nat, ckn, pka_r, pka_v, if_pos, if_neg, if_true, if_false, c2]
theorem h_fitting (hw : wf m) (hv : DV m Y nd nr) (hc : DC m Z Y nd nr) {i : Nat} (hi : i < qS m) {kn : Int} (hkn : 0 ≤ kn ∧ kn ≤ 999) : ∃ (x : Int64) (lo hi : Nat), run x lo hi ∧ (∀ n : Nat, n < 64 → gb x n = (decide (n < 41) && ftB m Y nd nr i kn n)) ∧ Mean (d + 2) 6 [.ref 132, .int (i32 (i : Int)), .int (i32 kn)] (176, zs Z, J, RP p0 p1 p0 35 p0 p5 p6 97) = some (some (.long x), (176, zs Z, J, RP p0 p1 p0 35 p0 p5 p6 97)) := by
  obtain ⟨⟨v1, v2, v3, v4, v5⟩, w1, w2⟩ := id hv
  obtain ⟨⟨c1, c2, c3⟩, d1, d2⟩ := id hc
  have hS := hw.1
  have hN := hw.2.2.2.2.2.2
  obtain ⟨⟨x, o6, o7⟩, ⟨lo, hi', r1, r2⟩, e⟩ := up_inv (fun (k : Nat) (y : Int64 × Option Value × Option Value) => den none (Mean (d + 1)) (some .long) tQ_X0_fitting (7, [some (.ref 132), some (.int (i32 (i : Int))), some (.int (i32 kn)), some (.long y.1), none, some (.int (i32 (k : Int))), y.2.1, y.2.2], [], 176, zs Z, J, RP p0 p1 p0 35 p0 p5 p6 97)) nd (fun k y => ∃ lo hi : Nat, run y.1 lo hi ∧ ∀ n : Nat, n < 41 → gb y.1 n = !anyN (fun k => !dok m Y nr i kn n k) k) (fun k y hk hy => by
    obtain ⟨x, o6, o7⟩ := y
    obtain ⟨lo, hi', r1, r2⟩ := hy
    simp only at r1 r2
    obtain ⟨q1, q2, q3, q4⟩ := d1 k hk
    obtain ⟨u1, u2, u3, u4, u5⟩ := w1 k hk
    have an : ∀ n : Nat, (!anyN (fun k => !dok m Y nr i kn n k) (k + 1)) = ((!anyN (fun k => !dok m Y nr i kn n k) k) && dok m Y nr i kn n k) := fun n => by
      show (!(anyN (fun k => !dok m Y nr i kn n k) k || !dok m Y nr i kn n k)) = _
      rw [Bool.not_or, Bool.not_not]
    try dsimp only
    by_cases a1 : Y 168 k = (i : Int)
    · by_cases a2 : kn < Y 172 k
      · refine ⟨(x, o6, o7), ⟨lo, hi', r1, fun n hn => ?_⟩, ?_⟩
        · rw [an, show dok m Y nr i kn n k = true from by unfold dok; rw [decide_eq_true a2, Bool.or_true, Bool.true_or], Bool.and_true]
          exact r2 n hn
        · rw [k_X0_fitting_7]
          simp (disch := omega) only [k_X0_fitting_16, k_X0_fitting_23, k_X0_fitting_27, k_X0_fitting_34, k_X0_fitting_38, k_X0_fitting_45, k_X0_fitting_48, k_X0_fitting_58, k_X0_fitting_62, k_X0_fitting_67, k_X0_fitting_73, k_X0_fitting_75, k_X0_fitting_81, li_0, li_1, li_2, li_3, li_4, li_5, li_6, li_9, li_10, li_40, lm_1, lm_2, lm_3, lm_4, zs_ap, i32_add, i32_sub, i32_mul, i32_neg, i32_lt, i32_le, i32_eq, i32_nat, ckn, pka_r, pka_v, if_pos, if_neg, if_true, if_false, c1, Int.toNat_natCast, q1, q2]
          rfl
      · have ei : (Y 168 k).toNat = i := by omega
        rw [ei] at q3
        obtain ⟨M, hM⟩ : ∃ M : Int, M = mrg m i (Y 169 k).toNat (Y 170 k) := ⟨_, rfl⟩
        have hMb : -1000000 ≤ M ∧ M ≤ 1000000 := by rw [hM]; exact mrg_b hw hi (by omega)
        rw [← hM] at q3
        have ff := h_fears (d := d) (J := J) (Z := Z) (p0 := p0) (p1 := p1) (p5 := p5) (p6 := p6) hMb
        have sk := h_sak (d := d) (J := J) (Z := Z) (p0 := p0) (p1 := p1) (p5 := p5) (p6 := p6) hv hc hk (kn := kn) (by omega)
        have sb := sakF_b hv hk (kn := kn) nr (Nat.le_refl _)
        have gm : ∀ n : Nat, n < 41 → gb (mkM (manyF M)) n = frs m i (Y 169 k).toNat (Y 170 k) n := fun n hn => by
          rw [show gb (mkM (manyF M)) n = decide (n < manyF M) from gb_mask (manyF_le M) (by omega), hM]
          exact manyF_frs hn
        have dk : ∀ n : Nat, dok m Y nr i kn n k = (frs m i (Y 169 k).toNat (Y 170 k) n == decide (sakF Y k kn nr = 1)) := fun n => by
          unfold dok
          rw [decide_eq_true a1, decide_eq_false a2, Bool.not_true, Bool.false_or, Bool.false_or]
        by_cases a3 : sakF Y k kn nr = 1
        · refine ⟨(x &&& mkM (manyF M), some (.long (mkM (manyF M))), none), ⟨_, _, run_and r1 (manyF_le M), fun n hn => ?_⟩, ?_⟩
          · dsimp only
            rw [an, gb_and, r2 n hn, gm n hn, dk, decide_eq_true a3]
            cases frs m i (Y 169 k).toNat (Y 170 k) n <;> rfl
          · try dsimp only
            rw [k_X0_fitting_7]
            simp (disch := omega) only [k_X0_fitting_16, k_X0_fitting_23, k_X0_fitting_27, k_X0_fitting_34, k_X0_fitting_38, k_X0_fitting_45, k_X0_fitting_48, k_X0_fitting_58, k_X0_fitting_62, k_X0_fitting_67, k_X0_fitting_73, k_X0_fitting_75, k_X0_fitting_81, li_0, li_1, li_2, li_3, li_4, li_5, li_6, li_9, li_10, li_40, lm_1, lm_2, lm_3, lm_4, zs_ap, i32_add, i32_sub, i32_mul, i32_neg, i32_lt, i32_le, i32_eq, i32_nat, ckn, pka_r, pka_v, if_pos, if_neg, if_true, if_false, c1, Int.toNat_natCast, q1, q2, q3, ff, sk, a3]
            rfl
        · have a4 : sakF Y k kn nr = 0 := by omega
          refine ⟨(x &&& (mkM (manyF M) ^^^ (-1)), some (.long (mkM (manyF M))), none), ⟨_, _, run_not r1 (manyF_le M), fun n hn => ?_⟩, ?_⟩
          · dsimp only
            rw [an, gb_and, r2 n hn, gb_not _ (by omega), gm n hn, dk, decide_eq_false a3]
            cases frs m i (Y 169 k).toNat (Y 170 k) n <;> rfl
          · try dsimp only
            rw [k_X0_fitting_7]
            simp (disch := omega) only [k_X0_fitting_16, k_X0_fitting_23, k_X0_fitting_27, k_X0_fitting_34, k_X0_fitting_38, k_X0_fitting_45, k_X0_fitting_48, k_X0_fitting_58, k_X0_fitting_62, k_X0_fitting_67, k_X0_fitting_73, k_X0_fitting_75, k_X0_fitting_81, li_0, li_1, li_2, li_3, li_4, li_5, li_6, li_9, li_10, li_40, lm_1, lm_2, lm_3, lm_4, zs_ap, i32_add, i32_sub, i32_mul, i32_neg, i32_lt, i32_le, i32_eq, i32_nat, ckn, pka_r, pka_v, if_pos, if_neg, if_true, if_false, c1, Int.toNat_natCast, q1, q2, q3, ff, sk, a4]
            rfl
    · refine ⟨(x, o6, o7), ⟨lo, hi', r1, fun n hn => ?_⟩, ?_⟩
      · rw [an, show dok m Y nr i kn n k = true from by unfold dok; rw [decide_eq_false a1, Bool.not_false, Bool.true_or, Bool.true_or], Bool.and_true]
        exact r2 n hn
      · rw [k_X0_fitting_7]
        simp (disch := omega) only [k_X0_fitting_16, k_X0_fitting_23, k_X0_fitting_27, k_X0_fitting_34, k_X0_fitting_38, k_X0_fitting_45, k_X0_fitting_48, k_X0_fitting_58, k_X0_fitting_62, k_X0_fitting_67, k_X0_fitting_73, k_X0_fitting_75, k_X0_fitting_81, li_0, li_1, li_2, li_3, li_4, li_5, li_6, li_9, li_10, li_40, lm_1, lm_2, lm_3, lm_4, zs_ap, i32_add, i32_sub, i32_mul, i32_neg, i32_lt, i32_le, i32_eq, i32_nat, ckn, pka_r, pka_v, if_pos, if_neg, if_true, if_false, c1, Int.toNat_natCast, q1, q2]
        rfl) (2199023255551, none, none) ⟨0, 41, ⟨⟨by omega, by omega⟩, fun n hn => by
      have : ∀ n : Nat, n < 64 → gb 2199023255551 n = decide (0 ≤ n ∧ n < 41) := by decide
      exact this n hn⟩, fun n hn => by
      have : ∀ n : Nat, n < 41 → gb 2199023255551 n = true := by decide
      exact this n hn⟩
  simp only at r1 r2 e
  refine ⟨x, lo, hi', r1, fun n hn => ?_, ?_⟩
  · by_cases c : n < 41
    · rw [decide_eq_true c, Bool.true_and, r2 n c]
      rfl
    · rw [decide_eq_false c, Bool.false_and, r1.2 n hn, decide_eq_false (by have := r1.1.2; omega)]
  · rw [e_X0_fitting, k_X0_fitting_0, li_0]
    refine Eq.trans e ?_
    rw [k_X0_fitting_7]
    simp (disch := omega) only [k_X0_fitting_16, k_X0_fitting_23, k_X0_fitting_27, k_X0_fitting_34, k_X0_fitting_38, k_X0_fitting_45, k_X0_fitting_48, k_X0_fitting_58, k_X0_fitting_62, k_X0_fitting_67, k_X0_fitting_73, k_X0_fitting_75, k_X0_fitting_81, li_0, li_1, li_2, li_3, li_4, li_5, li_6, li_9, li_10, li_40, lm_1, lm_2, lm_3, lm_4, zs_ap, i32_add, i32_sub, i32_mul, i32_neg, i32_lt, i32_le, i32_eq, i32_nat, ckn, pka_r, pka_v, if_pos, if_neg, if_true, if_false, c1]
end
