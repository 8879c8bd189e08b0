/-! THE MODEL'S stopper, judgedStep -/
def mixh (m : Mat) (own oth i : Nat) (k : Nat) : Nat := if qown m k = i then qhas m own k else qhas m oth k
def qmix (m : Mat) (own oth i : Nat) : Int := qsm m (mixh m own oth i) i (qP m)
theorem qmix_b {m : Mat} (hw : wf m) (own oth : Nat) {i : Nat} (hi : i < qS m) : -59400 ≤ qmix m own oth i ∧ qmix m own oth i ≤ 59400 := by
  have h1 := qsm_b hw (g := mixh m own oth i) (fun k _ => by unfold mixh; split <;> exact qhas_le _ _ _) hi (qP m) (Nat.le_refl _)
  have h2 := hw.2.1
  unfold qmix
  omega
def stM (m : Mat) (now late n w : Nat) : Int := if qone w = qtwo w then qsh m (qbre m) (qone w) (qmix m now late (qone w)) + (n : Int) * qday m else qsh m (qbre m) (qone w) (qmix m now late (qone w)) + (n : Int) * qday m + (qsh m (qbre m) (qtwo w) (qmix m now late (qtwo w)) + (n : Int) * qday m)
def stP (m : Mat) (now late n w : Nat) : Bool := qcnt m w && decide (0 < stM m now late n w)
def jst (m : Mat) (now late n : Nat) : Int := if anyN (stP m now late n) 6 then (qone (fstN (stP m now late n) 6) : Nat) else -1
section
variable {d : Nat} {J : Nat → Nat → Int64} {Z : Nat → Nat → Int} {p0 p1 p2 p3 p4 p5 p6 p7 : Nat} {m : Mat} {b : Nat → Int}
theorem mSum_mix (h : MI m Z) {own oth i : Nat} (ho : own < qN m) (ht : oth < qN m) (hi : i < qS m) : ∀ n : Nat, n ≤ qP m → mSum Z own oth i n = qsm m (mixh m own oth i) i n
  | 0, _ => rfl
  | n + 1, hn => by
    have hr := h.2.1.2.1 n (by omega)
    have hwk := h.1.2.2.1 n (by omega)
    have h1 := h.2.2.2.2.2.1 own ho n (by omega)
    have h2 := h.2.2.2.2.2.1 oth ht n (by omega)
    have h3 := h.2.1.2.2.1 n (by omega) i hi
    show mSum Z own oth i n + mTerm Z own oth i n = qsm m (mixh m own oth i) i n + (qwor m n i * (mixh m own oth i n : Int)).tdiv (qcut m n : Int)
    rw [mSum_mix h ho ht hi n (by omega)]
    congr 1
    unfold mTerm mixh
    rw [show (3 * (n : Int) + (i : Int)).toNat = 3 * n + i by omega, h3, Int.toNat_natCast, hr.1, hr.2.1]
    by_cases c : qown m n = i
    · rw [if_pos (by omega), if_pos c, show (6 * (own : Int) + (n : Int)).toNat = 6 * own + n by omega, h1]
    · rw [if_neg (by omega), if_neg c, show (6 * (oth : Int) + (n : Int)).toNat = 6 * oth + n by omega, h2]
theorem g_stopBy (h : MI m Z) {own oth i : Nat} (ho : own < qN m) (ht : oth < qN m) (hi : i < qS m) : Mean (d + 1) 171 [.ref 140, .int (i32 (own : Int)), .int (i32 (oth : Int)), .int (i32 (i : Int))] (176, zs Z, J, RP p0 p1 p2 p3 p4 p5 p6 p7) = some (some (.int (i32 (qmix m own oth i))), (176, zs Z, J, RP p0 p1 p2 p3 p4 p5 p6 p7)) := by
  have h0 := MI_n h
  rw [s_stopBy d J Z p0 p1 p2 p3 p4 p5 p6 p7 (MR_ok h.1 h.2.1 h.2.2.1) (by omega) (by omega) (by omega), mSum_mix h ho ht hi (qP m) (Nat.le_refl _)]
  rfl
theorem g_shortOf (h : MB m Z) {i : Nat} (hi : i < qS m) (st : Int) : Mean (d + 2) 185 [.ref 140, .int (i32 (i : Int)), .int (i32 st)] (176, zs Z, J, RP p0 p1 p2 p3 p4 p5 p6 p7) = some (some (.int (i32 (qsh m (qbre m) i st))), (176, zs Z, J, RP p0 p1 p2 p3 p4 p5 p6 p7)) := by
  have h0 := MI_n h.1
  rw [s_shortOf d J Z p0 p1 p2 p3 p4 p5 p6 p7 (MI_sm h.1 (MB_MX h)) (by omega), sh_q h.1 (MB_MX h) hi]
theorem g_oneOf {w : Nat} (hw : w < 6) : Mean (d + 1) 182 [.int (i32 (w : Int))] (176, zs Z, J, RP p0 p1 p2 p3 p4 p5 p6 p7) = some (some (.int (i32 ((qone w : Nat) : Int))), (176, zs Z, J, RP p0 p1 p2 p3 p4 p5 p6 p7)) := by
  rw [s_oneOf d (zs Z) J p0 p1 p2 p3 p4 p5 p6 p7 (by omega), one_q hw]
theorem g_twoOf {w : Nat} (hw : w < 6) : Mean (d + 1) 183 [.int (i32 (w : Int))] (176, zs Z, J, RP p0 p1 p2 p3 p4 p5 p6 p7) = some (some (.int (i32 ((qtwo w : Nat) : Int))), (176, zs Z, J, RP p0 p1 p2 p3 p4 p5 p6 p7)) := by
  rw [s_twoOf d (zs Z) J p0 p1 p2 p3 p4 p5 p6 p7 (by omega), two_q hw]
theorem stM_b (hw : wf m) {now late n w : Nat} (hn : n ≤ 40) (hw6 : w < 6) (hc : qcnt m w = true) : (-300000 ≤ stM m now late n w ∧ stM m now late n w ≤ 300000) ∧ (0 ≤ (n : Int) * qday m ∧ (n : Int) * qday m ≤ 4000) := by
  obtain ⟨h1, h2⟩ := qcnt_lt hw6 hw.1.1 hc
  have hS := hw.1
  have hd := hw.2.2.2.2.2.1
  have a1 := qmix_b hw now late h1
  have a2 := qmix_b hw now late h2
  have a3 := qgoal_b hw h1
  have a4 := qgoal_b hw h2
  have a5 := (hw.2.2.2.2.1 (qone w) (by omega)).2
  have a6 := (hw.2.2.2.2.1 (qtwo w) (by omega)).2
  have a7 : 0 ≤ (n : Int) * qday m := Int.mul_nonneg (by omega) (by omega)
  have a8 : (n : Int) * qday m ≤ 40 * 99 := Int.mul_le_mul (by omega) (by omega) (by omega) (by omega)
  unfold stM qsh
  split
  · omega
  · omega
theorem g_stopper (h : MB m Z) {k n dd now late : Nat} (hk : k < 41) (hn : n ≤ 40) (hd : dd < 41) (hnow : Z 167 k = (now : Int)) (hlate : Z 167 (k - dd) = (late : Int)) (h1 : now < qN m) (h2 : late < qN m) : Mean (d + 4) 220 [.ref 140, .int (i32 (k : Int)), .int (i32 (n : Int)), .int (i32 (dd : Int))] (176, zs Z, J, RP p0 p1 p2 p3 p4 p5 p6 p7) = some (some (.int (i32 (jst m now late n))), (176, zs Z, J, RP p0 p1 p2 p3 p4 p5 p6 p7)) := by
  have h0 := MI_n h.1
  have hm := h.1.2.1.1
  have e0 : Mean (d + 4) 220 [.ref 140, .int (i32 (k : Int)), .int (i32 (n : Int)), .int (i32 (dd : Int))] (176, zs Z, J, RP p0 p1 p2 p3 p4 p5 p6 p7) = den none (Mean (d + 3)) (some .int) tQ_X11_stopper (25, [some (.ref 140), some (.int (i32 (k : Int))), some (.int (i32 (n : Int))), some (.int (i32 (dd : Int))), some (.int (i32 (now : Int))), some (.int (i32 (late : Int))), some (.int (i32 ((0 : Nat) : Int))), none, none, none], [], 176, zs Z, J, RP p0 p1 p2 p3 p4 p5 p6 p7) := by
    rw [e_X11_stopper]
    by_cases c : 0 < (k : Int) - (dd : Int)
    · simp (disch := omega) only [k_X11_stopper_0, k_X11_stopper_6, k_X11_stopper_20, k_X11_stopper_32, k_X11_stopper_38, k_X11_stopper_41, k_X11_stopper_44, k_X11_stopper_49, k_X11_stopper_56, k_X11_stopper_71, k_X11_stopper_74, k_X11_stopper_90, k_X11_stopper_105, k_X11_stopper_108, k_X11_stopper_118, k_X11_stopper_123, k_X11_stopper_126, k_X11_stopper_132, li_0, li_1, li_2, li_3, li_4, li_5, li_6, li_9, li_10, li_40, lm_1, lm_2, lm_3, lm_4, zs_ap, i32_add, i32_sub, i32_mul, i32_neg, i32_lt, i32_le, i32_eq, i32_nat, ckn, pka_r, pka_v, if_pos, if_neg, if_true, if_false, Int.toNat_natCast, hnow, show ((k : Int) - (dd : Int)).toNat = k - dd by omega, hlate]
      rfl
    · have e : k - dd = 0 := by omega
      rw [e] at hlate
      simp (disch := omega) only [k_X11_stopper_0, k_X11_stopper_6, k_X11_stopper_20, k_X11_stopper_32, k_X11_stopper_38, k_X11_stopper_41, k_X11_stopper_44, k_X11_stopper_49, k_X11_stopper_56, k_X11_stopper_71, k_X11_stopper_74, k_X11_stopper_90, k_X11_stopper_105, k_X11_stopper_108, k_X11_stopper_118, k_X11_stopper_123, k_X11_stopper_126, k_X11_stopper_132, li_0, li_1, li_2, li_3, li_4, li_5, li_6, li_9, li_10, li_40, lm_1, lm_2, lm_3, lm_4, zs_ap, i32_add, i32_sub, i32_mul, i32_neg, i32_lt, i32_le, i32_eq, i32_nat, ckn, pka_r, pka_v, if_pos, if_neg, if_true, if_false, Int.toNat_natCast, hnow, show Int.toNat 0 = 0 from rfl, hlate]
      rfl
  have key := srchS (fun (w : Nat) (y : Option Value × Option Value × Option Value) => den none (Mean (d + 3)) (some .int) tQ_X11_stopper (25, [some (.ref 140), some (.int (i32 (k : Int))), some (.int (i32 (n : Int))), some (.int (i32 (dd : Int))), some (.int (i32 (now : Int))), some (.int (i32 (late : Int))), some (.int (i32 (w : Int))), y.1, y.2.1, y.2.2], [], 176, zs Z, J, RP p0 p1 p2 p3 p4 p5 p6 p7)) (stP m now late n) 6 (fun w => some (some (.int (i32 ((qone w : Nat) : Int))), (176, zs Z, J, RP p0 p1 p2 p3 p4 p5 p6 p7))) (fun w y hw hp => ?_) (fun w y hw hp => ?_) (none, none, none)
  · unfold jst
    rw [e0]
    by_cases ca : anyN (stP m now late n) 6 = true
    · rw [if_pos ca]
      exact key.1 ca
    · rw [if_neg ca]
      obtain ⟨y, e⟩ := key.2 (by simpa using ca)
      refine e.trans ?_
      rw [k_X11_stopper_25]
      simp (disch := omega) only [k_X11_stopper_0, k_X11_stopper_6, k_X11_stopper_20, k_X11_stopper_32, k_X11_stopper_38, k_X11_stopper_41, k_X11_stopper_44, k_X11_stopper_49, k_X11_stopper_56, k_X11_stopper_71, k_X11_stopper_74, k_X11_stopper_90, k_X11_stopper_105, k_X11_stopper_108, k_X11_stopper_118, k_X11_stopper_123, k_X11_stopper_126, k_X11_stopper_132, li_0, li_1, li_2, li_3, li_4, li_5, li_6, li_9, li_10, li_40, lm_1, lm_2, lm_3, lm_4, zs_ap, i32_add, i32_sub, i32_mul, i32_neg, i32_lt, i32_le, i32_eq, i32_nat, ckn, pka_r, pka_v, if_pos, if_neg, if_true, if_false]
  · unfold stP at hp
    rw [Bool.and_eq_true, decide_eq_true_iff] at hp
    obtain ⟨c1, c2⟩ := qcnt_lt hw h0.1.1 hp.1
    have b1 := stM_b (now := now) (late := late) h.1.1 hn hw hp.1
    have hp2 := hp.2
    rw [k_X11_stopper_25]
    unfold stM at hp2 b1
    by_cases c : qone w = qtwo w
    · rw [if_pos c] at hp2 b1
      simp (disch := omega) only [k_X11_stopper_0, k_X11_stopper_6, k_X11_stopper_20, k_X11_stopper_32, k_X11_stopper_38, k_X11_stopper_41, k_X11_stopper_44, k_X11_stopper_49, k_X11_stopper_56, k_X11_stopper_71, k_X11_stopper_74, k_X11_stopper_90, k_X11_stopper_105, k_X11_stopper_108, k_X11_stopper_118, k_X11_stopper_123, k_X11_stopper_126, k_X11_stopper_132, li_0, li_1, li_2, li_3, li_4, li_5, li_6, li_9, li_10, li_40, lm_1, lm_2, lm_3, lm_4, zs_ap, i32_add, i32_sub, i32_mul, i32_neg, i32_lt, i32_le, i32_eq, i32_nat, ckn, pka_r, pka_v, if_pos, if_neg, if_true, if_false, g_counts h.1 (MB_MX h), hp.1, bBt, g_oneOf, g_twoOf, g_stopBy h.1 h1 h2, g_shortOf h, hm]
    · rw [if_neg c] at hp2 b1
      simp (disch := omega) only [k_X11_stopper_0, k_X11_stopper_6, k_X11_stopper_20, k_X11_stopper_32, k_X11_stopper_38, k_X11_stopper_41, k_X11_stopper_44, k_X11_stopper_49, k_X11_stopper_56, k_X11_stopper_71, k_X11_stopper_74, k_X11_stopper_90, k_X11_stopper_105, k_X11_stopper_108, k_X11_stopper_118, k_X11_stopper_123, k_X11_stopper_126, k_X11_stopper_132, li_0, li_1, li_2, li_3, li_4, li_5, li_6, li_9, li_10, li_40, lm_1, lm_2, lm_3, lm_4, zs_ap, i32_add, i32_sub, i32_mul, i32_neg, i32_lt, i32_le, i32_eq, i32_nat, ckn, pka_r, pka_v, if_pos, if_neg, if_true, if_false, g_counts h.1 (MB_MX h), hp.1, bBt, g_oneOf, g_twoOf, g_stopBy h.1 h1 h2, g_shortOf h, hm]
  · unfold stP at hp
    rw [k_X11_stopper_25]
    cases hc : qcnt m w
    · refine ⟨y, ?_⟩
      simp (disch := omega) only [k_X11_stopper_0, k_X11_stopper_6, k_X11_stopper_20, k_X11_stopper_32, k_X11_stopper_38, k_X11_stopper_41, k_X11_stopper_44, k_X11_stopper_49, k_X11_stopper_56, k_X11_stopper_71, k_X11_stopper_74, k_X11_stopper_90, k_X11_stopper_105, k_X11_stopper_108, k_X11_stopper_118, k_X11_stopper_123, k_X11_stopper_126, k_X11_stopper_132, li_0, li_1, li_2, li_3, li_4, li_5, li_6, li_9, li_10, li_40, lm_1, lm_2, lm_3, lm_4, zs_ap, i32_add, i32_sub, i32_mul, i32_neg, i32_lt, i32_le, i32_eq, i32_nat, ckn, pka_r, pka_v, if_pos, if_neg, if_true, if_false, g_counts h.1 (MB_MX h), hc, bBf]
      rfl
    · rw [hc, Bool.true_and, decide_eq_false_iff_not] at hp
      obtain ⟨c1, c2⟩ := qcnt_lt hw h0.1.1 hc
      have b1 := stM_b (now := now) (late := late) h.1.1 hn hw hc
      unfold stM at hp b1
      refine ⟨(some (.int (i32 ((qone w : Nat) : Int))), some (.int (i32 ((qtwo w : Nat) : Int))), some (.int (i32 (stM m now late n w)))), ?_⟩
      unfold stM
      by_cases c : qone w = qtwo w
      · rw [if_pos c] at hp b1
        rw [if_pos c]
        simp (disch := omega) only [k_X11_stopper_0, k_X11_stopper_6, k_X11_stopper_20, k_X11_stopper_32, k_X11_stopper_38, k_X11_stopper_41, k_X11_stopper_44, k_X11_stopper_49, k_X11_stopper_56, k_X11_stopper_71, k_X11_stopper_74, k_X11_stopper_90, k_X11_stopper_105, k_X11_stopper_108, k_X11_stopper_118, k_X11_stopper_123, k_X11_stopper_126, k_X11_stopper_132, li_0, li_1, li_2, li_3, li_4, li_5, li_6, li_9, li_10, li_40, lm_1, lm_2, lm_3, lm_4, zs_ap, i32_add, i32_sub, i32_mul, i32_neg, i32_lt, i32_le, i32_eq, i32_nat, ckn, pka_r, pka_v, if_pos, if_neg, if_true, if_false, g_counts h.1 (MB_MX h), hc, bBt, g_oneOf, g_twoOf, g_stopBy h.1 h1 h2, g_shortOf h, hm]
        rfl
      · rw [if_neg c] at hp b1
        rw [if_neg c]
        simp (disch := omega) only [k_X11_stopper_0, k_X11_stopper_6, k_X11_stopper_20, k_X11_stopper_32, k_X11_stopper_38, k_X11_stopper_41, k_X11_stopper_44, k_X11_stopper_49, k_X11_stopper_56, k_X11_stopper_71, k_X11_stopper_74, k_X11_stopper_90, k_X11_stopper_105, k_X11_stopper_108, k_X11_stopper_118, k_X11_stopper_123, k_X11_stopper_126, k_X11_stopper_132, li_0, li_1, li_2, li_3, li_4, li_5, li_6, li_9, li_10, li_40, lm_1, lm_2, lm_3, lm_4, zs_ap, i32_add, i32_sub, i32_mul, i32_neg, i32_lt, i32_le, i32_eq, i32_nat, ckn, pka_r, pka_v, if_pos, if_neg, if_true, if_false, g_counts h.1 (MB_MX h), hc, bBt, g_oneOf, g_twoOf, g_stopBy h.1 h1 h2, g_shortOf h, hm]
        rfl
end
