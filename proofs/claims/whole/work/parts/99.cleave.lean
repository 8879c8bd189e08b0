/-! THE CLASS'S Space: stateBehind, mixedState, margins, leavers, losses -/
def lvb (P : Nat → Bool) : Nat → Int32
  | 0 => 0
  | w + 1 => if P w then lvb P w ||| ((1 : Int32) <<< (i32 (w : Int) &&& 31)) else lvb P w
theorem lvb_q {m : Mat} {b : Nat → Int} {s n : Nat} : ∀ w : Nat, qlv m b s n w = lvb (fun w => qcnt m w && qwould m b s w n) w
  | 0 => rfl
  | w + 1 => by
    show (if qcnt m w && qwould m b s w n then _ else _) = (if (fun w => qcnt m w && qwould m b s w n) w then _ else _)
    rw [lvb_q w]
theorem lvb_c {P Q : Nat → Bool} : ∀ n : Nat, (∀ w : Nat, w < n → P w = Q w) → lvb P n = lvb Q n
  | 0, _ => rfl
  | n + 1, h => by
    unfold lvb
    rw [lvb_c n (fun w hw => h w (by omega)), h n (by omega)]
def lvP (m : Mat) (M : Nat → Int) (w : Nat) : Bool := if w < 3 then decide (w < qS m) && decide (M w < 0) else (!decide (qprs m = 0) && decide (qtwo w < qS m)) && decide (M (qone w) + M (qtwo w) < 0)
def inB (M : Nat → Int) (i : Nat) (B : Int32) : Nat → Int32
  | 0 => B
  | j + 1 => if M i + M j < 0 then inB M i B j ||| ((1 : Int32) <<< (i32 ((2 + i + j : Nat) : Int) &&& 31)) else inB M i B j
theorem inB_s (M : Nat → Int) (i : Nat) (B : Int32) (j : Nat) : inB M i B (j + 1) = if M i + M j < 0 then inB M i B j ||| ((1 : Int32) <<< (i32 ((2 + i + j : Nat) : Int) &&& 31)) else inB M i B j := rfl
def sgB (M : Nat → Int) (i : Nat) (B : Int32) : Int32 := if M i < 0 then B ||| ((1 : Int32) <<< (i32 (i : Int) &&& 31)) else B
def ouB (m : Mat) (M : Nat → Int) : Nat → Int32
  | 0 => 0
  | i + 1 => if qprs m = 0 then sgB M i (ouB m M i) else inB M i (sgB M i (ouB m M i)) i
theorem ou_lv {m : Mat} (hw : wf m) (M : Nat → Int) : ouB m M (qS m) = lvb (lvP m M) 6 := by
  have hS := hw.1
  have hc : qS m = 2 ∨ qS m = 3 := by omega
  have q3 : qone 3 = 0 ∧ qtwo 3 = 1 ∧ qone 4 = 0 ∧ qtwo 4 = 2 ∧ qone 5 = 1 ∧ qtwo 5 = 2 := by decide
  obtain ⟨a3, b3, a4, b4, a5, b5⟩ := q3
  have e10 : M 1 + M 0 = M 0 + M 1 := Int.add_comm _ _
  have e20 : M 2 + M 0 = M 0 + M 2 := Int.add_comm _ _
  have e21 : M 2 + M 1 = M 1 + M 2 := Int.add_comm _ _
  by_cases cp : qprs m = 0
  · rcases hc with hc | hc
    · rw [hc]
      simp only [ouB, sgB, lvb, lvP, hc, cp, a3, b3, a4, b4, a5, b5]
      by_cases c0 : M 0 < 0 <;> by_cases c1 : M 1 < 0 <;> simp [c0, c1]
    · rw [hc]
      simp only [ouB, sgB, lvb, lvP, hc, cp, a3, b3, a4, b4, a5, b5]
      by_cases c0 : M 0 < 0 <;> by_cases c1 : M 1 < 0 <;> by_cases c2 : M 2 < 0 <;> simp [c0, c1, c2]
  · rcases hc with hc | hc
    · rw [hc]
      simp only [ouB, sgB, inB, lvb, lvP, hc, cp, a3, b3, a4, b4, a5, b5, e10]
      by_cases c0 : M 0 < 0 <;> by_cases c1 : M 1 < 0 <;> by_cases c3 : M 0 + M 1 < 0 <;> simp [c0, c1, c3] <;> decide
    · rw [hc]
      simp only [ouB, sgB, inB, lvb, lvP, hc, cp, a3, b3, a4, b4, a5, b5, e10, e20, e21]
      by_cases c0 : M 0 < 0 <;> by_cases c1 : M 1 < 0 <;> by_cases c2 : M 2 < 0 <;> by_cases c3 : M 0 + M 1 < 0 <;> by_cases c4 : M 0 + M 2 < 0 <;> by_cases c5 : M 1 + M 2 < 0 <;> simp [c0, c1, c2, c3, c4, c5] <;> decide
def mxs (m : Mat) (i own oth : Nat) : Nat → Int
  | 0 => (oth : Int)
  | k + 1 => if qown m k = i then mxs m i own oth k + ((qhas m own k : Int) - (qhas m oth k : Int)) * (qpl m k : Int) else mxs m i own oth k
theorem mxs_s (m : Mat) (i own oth k : Nat) : mxs m i own oth (k + 1) = if qown m k = i then mxs m i own oth k + ((qhas m own k : Int) - (qhas m oth k : Int)) * (qpl m k : Int) else mxs m i own oth k := rfl
theorem mxs_q {m : Mat} {i own oth : Nat} : ∀ n : Nat, mxs m i own oth n = (oth : Int) - (qdot m (qhas m oth) n : Int) + (qdot m (mixh m own oth i) n : Int)
  | 0 => by
    show (oth : Int) = (oth : Int) - ((0 : Nat) : Int) + ((0 : Nat) : Int)
    omega
  | n + 1 => by
    unfold mxs
    rw [mxs_q n, dot_s, dot_s, Int.natCast_add, Int.natCast_add, Int.natCast_mul, Int.natCast_mul]
    have e : ((mixh m own oth i n : Nat) : Int) = if qown m n = i then (qhas m own n : Int) else (qhas m oth n : Int) := by
      unfold mixh
      split <;> rfl
    rw [e]
    split
    · rw [Int.sub_mul, Int.mul_comm (qhas m own n : Int), Int.mul_comm (qhas m oth n : Int)]
      omega
    · omega
def mxS (m : Mat) (i own oth : Nat) : Nat := qdot m (mixh m own oth i) (qP m)
theorem mixh_le (m : Mat) (own oth i k : Nat) : mixh m own oth i k ≤ qcut m k := by
  unfold mixh
  split <;> exact qhas_le _ _ _
theorem mxs_S {m : Mat} {i own oth : Nat} (ho : oth < qN m) : mxs m i own oth (qP m) = (mxS m i own oth : Int) := by
  rw [mxs_q, dig_all ho]
  unfold mxS
  omega
theorem mxS_lt {m : Mat} {i own oth : Nat} : mxS m i own oth < qN m := qdot_lt _ (fun k _ => mixh_le m own oth i k)
theorem mxS_stop {m : Mat} {i own oth : Nat} : qstop m (mxS m i own oth) i = qmix m own oth i := by
  unfold qstop qmix
  exact qsm_c _ (fun k hk => dig_has _ (fun k _ => mixh_le m own oth i k) k hk)
theorem mxs_b {m : Mat} (hw : wf m) {i own oth : Nat} (ho : oth < qN m) {n : Nat} (hn : n ≤ qP m) : -1000 ≤ mxs m i own oth n ∧ mxs m i own oth n ≤ 1000 := by
  have h1 := qdot_b hw (g := qhas m oth) (fun k _ => qhas_le m oth k) hn
  have h2 := qdot_b hw (g := mixh m own oth i) (fun k _ => mixh_le m own oth i k) hn
  have hN := qpl_b hw (k := qP m) (Nat.le_refl _)
  have hN' : qN m = qpl m (qP m) := rfl
  rw [mxs_q]
  omega
section
variable {d : Nat} {J : Nat → Nat → Int64} {Z : Nat → Nat → Int} {p0 p1 p2 p3 p4 p5 p6 p7 : Nat} {m : Mat}
theorem h_stateBehind (hp : p2 = 5 ∨ p2 = 20) (hw : wf m) (hm : KM m p2 Z) (hk : KW m 35 Z) {s k q : Nat} (hs : s < qN m) (hkP : k < qP m) (hq : q < 100) : Mean (d + 2) 82 [.ref 35, .int (i32 (s : Int)), .int (i32 (k : Int)), .int (i32 (q : Int))] (176, zs Z, J, RP p0 p1 p2 p3 p4 p5 p6 p7) = some (some (.int (i32 (if qmay m s k q then ((s - q * qpl m k : Nat) : Int) else -1))), (176, zs Z, J, RP p0 p1 p2 p3 p4 p5 p6 p7)) := by
  have hP := hw.2.1
  have hN := qpl_b hw (k := qP m) (Nat.le_refl _)
  have hN' : qN m = qpl m (qP m) := rfl
  have pl := h_partsLeft_a (d := d) (J := J) (p0 := p0) (p1 := p1) (p2 := p2) (p3 := p3) (p4 := p4) (p5 := p5) (p6 := p6) (p7 := p7) hp hw hm hk (s := s) (by omega) hkP
  have z4 : Z (p2 + 4) k = (qkept m k : Int) := (hm.2.1 k hkP).2.2.1
  have zu : Z (p2 + 5) k = (qund m k : Int) := (hm.2.1 k hkP).2.2.2
  have z12 : Z p2 12 = (qlump m : Int) := hm.1.2.2.2.1
  have zw : Z 36 k = (qpl m k : Int) := hk.2 k hkP
  have hc := hw.2.2.1 k hkP
  have hle := qhas_le m s k
  have hlump := hw.2.2.2.2.2.1.2.1
  rw [e_X7_stateBehind, k_X7_stateBehind_0_a]
  cases cm : qmay m s k q
  · rw [if_neg Bool.false_ne_true]
    by_cases c1 : q < 1
    · simp (disch := omega) only [k_X7_stateBehind_6_a, k_X7_stateBehind_15_a, k_X7_stateBehind_23_a, k_X7_stateBehind_29_a, k_X7_stateBehind_31_a, k_X7_stateBehind_40_a, k_X7_stateBehind_43_a, k_X7_stateBehind_49_a, k_X7_stateBehind_53_a, k_X7_stateBehind_57_a, k_X7_stateBehind_68_a, k_X7_stateBehind_72_a, k_X7_stateBehind_73_a, k_X7_stateBehind_80_a, k_X7_stateBehind_88_a, k_X7_stateBehind_93_a, k_X7_stateBehind_94_a, li_0, li_1, li_2, li_3, li_4, li_5, li_6, li_9, li_10, li_40, lm_1, lm_2, lm_3, lm_4, zs_ap, i32_add, i32_sub, i32_mul, i32_neg, i32_lt, i32_le, i32_eq, i32_nat, ckn, pka_r, pka_v, if_pos, if_neg, if_true, if_false, pl, z4, Int.toNat_natCast]
    · by_cases c2 : q + qkept m k ≤ qhas m s k
      · by_cases cu : qund m k = 0
        · have : ¬ q ≤ qlump m := fun h => by
            unfold qmay at cm
            rw [if_pos cu, decide_eq_false_iff_not] at cm
            omega
          simp (disch := omega) only [k_X7_stateBehind_6_a, k_X7_stateBehind_15_a, k_X7_stateBehind_23_a, k_X7_stateBehind_29_a, k_X7_stateBehind_31_a, k_X7_stateBehind_40_a, k_X7_stateBehind_43_a, k_X7_stateBehind_49_a, k_X7_stateBehind_53_a, k_X7_stateBehind_57_a, k_X7_stateBehind_68_a, k_X7_stateBehind_72_a, k_X7_stateBehind_73_a, k_X7_stateBehind_80_a, k_X7_stateBehind_88_a, k_X7_stateBehind_93_a, k_X7_stateBehind_94_a, li_0, li_1, li_2, li_3, li_4, li_5, li_6, li_9, li_10, li_40, lm_1, lm_2, lm_3, lm_4, zs_ap, i32_add, i32_sub, i32_mul, i32_neg, i32_lt, i32_le, i32_eq, i32_nat, ckn, pka_r, pka_v, if_pos, if_neg, if_true, if_false, pl, z4, zu, cu, z12, Int.toNat_natCast]
        · have hu1 : qund m k = 1 := by omega
          have : ¬ q + qkept m k = qhas m s k := fun h => by
            unfold qmay at cm
            rw [if_neg cu, decide_eq_false_iff_not] at cm
            omega
          simp (disch := omega) only [k_X7_stateBehind_6_a, k_X7_stateBehind_15_a, k_X7_stateBehind_23_a, k_X7_stateBehind_29_a, k_X7_stateBehind_31_a, k_X7_stateBehind_40_a, k_X7_stateBehind_43_a, k_X7_stateBehind_49_a, k_X7_stateBehind_53_a, k_X7_stateBehind_57_a, k_X7_stateBehind_68_a, k_X7_stateBehind_72_a, k_X7_stateBehind_73_a, k_X7_stateBehind_80_a, k_X7_stateBehind_88_a, k_X7_stateBehind_93_a, k_X7_stateBehind_94_a, li_0, li_1, li_2, li_3, li_4, li_5, li_6, li_9, li_10, li_40, lm_1, lm_2, lm_3, lm_4, zs_ap, i32_add, i32_sub, i32_mul, i32_neg, i32_lt, i32_le, i32_eq, i32_nat, ckn, pka_r, pka_v, if_pos, if_neg, if_true, if_false, pl, z4, zu, hu1, Int.toNat_natCast]
      · simp (disch := omega) only [k_X7_stateBehind_6_a, k_X7_stateBehind_15_a, k_X7_stateBehind_23_a, k_X7_stateBehind_29_a, k_X7_stateBehind_31_a, k_X7_stateBehind_40_a, k_X7_stateBehind_43_a, k_X7_stateBehind_49_a, k_X7_stateBehind_53_a, k_X7_stateBehind_57_a, k_X7_stateBehind_68_a, k_X7_stateBehind_72_a, k_X7_stateBehind_73_a, k_X7_stateBehind_80_a, k_X7_stateBehind_88_a, k_X7_stateBehind_93_a, k_X7_stateBehind_94_a, li_0, li_1, li_2, li_3, li_4, li_5, li_6, li_9, li_10, li_40, lm_1, lm_2, lm_3, lm_4, zs_ap, i32_add, i32_sub, i32_mul, i32_neg, i32_lt, i32_le, i32_eq, i32_nat, ckn, pka_r, pka_v, if_pos, if_neg, if_true, if_false, pl, z4, Int.toNat_natCast]
  · rw [if_pos rfl]
    have hml := may_le cm
    have hsub := sub_le (m := m) (s := s) (k := k) (q := q) (by omega)
    rw [← sub_c hsub]
    by_cases cu : qund m k = 0
    · have : q ≤ qlump m := by
        unfold qmay at cm
        rw [if_pos cu, decide_eq_true_iff] at cm
        omega
      simp (disch := omega) only [k_X7_stateBehind_6_a, k_X7_stateBehind_15_a, k_X7_stateBehind_23_a, k_X7_stateBehind_29_a, k_X7_stateBehind_31_a, k_X7_stateBehind_40_a, k_X7_stateBehind_43_a, k_X7_stateBehind_49_a, k_X7_stateBehind_53_a, k_X7_stateBehind_57_a, k_X7_stateBehind_68_a, k_X7_stateBehind_72_a, k_X7_stateBehind_73_a, k_X7_stateBehind_80_a, k_X7_stateBehind_88_a, k_X7_stateBehind_93_a, k_X7_stateBehind_94_a, li_0, li_1, li_2, li_3, li_4, li_5, li_6, li_9, li_10, li_40, lm_1, lm_2, lm_3, lm_4, zs_ap, i32_add, i32_sub, i32_mul, i32_neg, i32_lt, i32_le, i32_eq, i32_nat, ckn, pka_r, pka_v, if_pos, if_neg, if_true, if_false, pl, z4, zu, cu, z12, zw, Int.toNat_natCast]
    · have hu1 : qund m k = 1 := by omega
      have : q + qkept m k = qhas m s k := by
        unfold qmay at cm
        rw [if_neg cu, decide_eq_true_iff] at cm
        omega
      simp (disch := omega) only [k_X7_stateBehind_6_a, k_X7_stateBehind_15_a, k_X7_stateBehind_23_a, k_X7_stateBehind_29_a, k_X7_stateBehind_31_a, k_X7_stateBehind_40_a, k_X7_stateBehind_43_a, k_X7_stateBehind_49_a, k_X7_stateBehind_53_a, k_X7_stateBehind_57_a, k_X7_stateBehind_68_a, k_X7_stateBehind_72_a, k_X7_stateBehind_73_a, k_X7_stateBehind_80_a, k_X7_stateBehind_88_a, k_X7_stateBehind_93_a, k_X7_stateBehind_94_a, li_0, li_1, li_2, li_3, li_4, li_5, li_6, li_9, li_10, li_40, lm_1, lm_2, lm_3, lm_4, zs_ap, i32_add, i32_sub, i32_mul, i32_neg, i32_lt, i32_le, i32_eq, i32_nat, ckn, pka_r, pka_v, if_pos, if_neg, if_true, if_false, pl, z4, zu, hu1, zw, Int.toNat_natCast]
theorem h_mixed (hp : p2 = 5 ∨ p2 = 20) (hw : wf m) (hm : KM m p2 Z) (hk : KW m 35 Z) {i own oth : Nat} (hi : i < 3) (h1 : own < qN m) (h2 : oth < qN m) : Mean (d + 2) 83 [.ref 35, .int (i32 (i : Int)), .int (i32 (own : Int)), .int (i32 (oth : Int))] (176, zs Z, J, RP p0 p1 p2 p3 p4 p5 p6 p7) = some (some (.int (i32 ((mxS m i own oth : Nat) : Int))), (176, zs Z, J, RP p0 p1 p2 p3 p4 p5 p6 p7)) := by
  have hP := hw.2.1
  have hN := qpl_b hw (k := qP m) (Nat.le_refl _)
  have hN' : qN m = qpl m (qP m) := rfl
  have hS := hw.1
  have z2 : Z p2 2 = (qP m : Int) := hm.1.2.1
  have key := up_eq (fun k => den none (Mean (d + 1)) (some .int) tQ_X7_mixedState (6, [some (.ref 35), some (.int (i32 (i : Int))), some (.int (i32 (own : Int))), some (.int (i32 (oth : Int))), some (.int (i32 (mxs m i own oth k))), some (.int (i32 (k : Int)))], [], 176, zs Z, J, RP p0 p1 p2 p3 p4 p5 p6 p7)) (qP m) (fun k hkP => by
    have zo : Z (p2 + 2) k = (qown m k : Int) := (hm.2.1 k hkP).1
    have zw : Z 36 k = (qpl m k : Int) := hk.2 k hkP
    have ho := (hw.2.2.1 k hkP).1
    have pl1 := h_partsLeft_a (d := d) (J := J) (p0 := p0) (p1 := p1) (p2 := p2) (p3 := p3) (p4 := p4) (p5 := p5) (p6 := p6) (p7 := p7) hp hw hm hk (s := own) (by omega) hkP
    have pl2 := h_partsLeft_a (d := d) (J := J) (p0 := p0) (p1 := p1) (p2 := p2) (p3 := p3) (p4 := p4) (p5 := p5) (p6 := p6) (p7 := p7) hp hw hm hk (s := oth) (by omega) hkP
    try dsimp only
    rw [k_X7_mixedState_6_a (hv_p2 := by omega), mxs_s]
    by_cases co : qown m k = i
    · rw [if_pos co]
      simp (disch := omega) only [k_X7_mixedState_0_a, k_X7_mixedState_18_a, k_X7_mixedState_28_a, k_X7_mixedState_32_a, k_X7_mixedState_41_a, k_X7_mixedState_48_a, k_X7_mixedState_56_a, k_X7_mixedState_60_a, k_X7_mixedState_66_a, li_0, li_1, li_2, li_3, li_4, li_5, li_6, li_9, li_10, li_40, lm_1, lm_2, lm_3, lm_4, zs_ap, i32_add, i32_sub, i32_mul, i32_neg, i32_lt, i32_le, i32_eq, i32_nat, ckn, pka_r, pka_v, if_pos, if_neg, if_true, if_false, z2, zo, co, pl1, pl2, zw, Int.toNat_natCast]
      rfl
    · rw [if_neg co]
      simp (disch := omega) only [k_X7_mixedState_0_a, k_X7_mixedState_18_a, k_X7_mixedState_28_a, k_X7_mixedState_32_a, k_X7_mixedState_41_a, k_X7_mixedState_48_a, k_X7_mixedState_56_a, k_X7_mixedState_60_a, k_X7_mixedState_66_a, li_0, li_1, li_2, li_3, li_4, li_5, li_6, li_9, li_10, li_40, lm_1, lm_2, lm_3, lm_4, zs_ap, i32_add, i32_sub, i32_mul, i32_neg, i32_lt, i32_le, i32_eq, i32_nat, ckn, pka_r, pka_v, if_pos, if_neg, if_true, if_false, z2, zo, Int.toNat_natCast]
      rfl)
  rw [e_X7_mixedState, k_X7_mixedState_0_a]
  refine Eq.trans key ?_
  rw [k_X7_mixedState_6_a (hv_p2 := by omega)]
  simp (disch := omega) only [k_X7_mixedState_0_a, k_X7_mixedState_18_a, k_X7_mixedState_28_a, k_X7_mixedState_32_a, k_X7_mixedState_41_a, k_X7_mixedState_48_a, k_X7_mixedState_56_a, k_X7_mixedState_60_a, k_X7_mixedState_66_a, li_0, li_1, li_2, li_3, li_4, li_5, li_6, li_9, li_10, li_40, lm_1, lm_2, lm_3, lm_4, zs_ap, i32_add, i32_sub, i32_mul, i32_neg, i32_lt, i32_le, i32_eq, i32_nat, ckn, pka_r, pka_v, if_pos, if_neg, if_true, if_false, z2]
  rw [mxs_S h2]
theorem h_margin (hp : p2 = 5 ∨ p2 = 20) (hw : wf m) (hm : KM m p2 Z) (hk : KS m 35 Z) {i s : Nat} (hi : i < qS m) (hs : s < qN m) (n : Int) : Mean (d + 1) 84 [.ref 35, .int (i32 (i : Int)), .int (i32 (s : Int)), .int (i32 n)] (176, zs Z, J, RP p0 p1 p2 p3 p4 p5 p6 p7) = some (some (.int (i32 (qgoal m i - n * (qday m : Int) - qstop m s i))), (176, zs Z, J, RP p0 p1 p2 p3 p4 p5 p6 p7)) := by
  have hS := hw.1
  have hN := qpl_b hw (k := qP m) (Nat.le_refl _)
  have hN' : qN m = qpl m (qP m) := rfl
  obtain ⟨r1, r2⟩ := RPs (p0 := p0) (p1 := p1) (p2 := p2) (p3 := p3) (p4 := p4) (p5 := p5) (p6 := p6) (p7 := p7) (g := 35) (by omega) (show i < 3 by omega)
  have r1' : RP p0 p1 p2 p3 p4 p5 p6 p7 37 i = some (38 + i) := r1
  have r2' : pshn (38 + i) = some (.inl (.int, 400)) := r2
  have zg : Z 41 i = qgoal m i := hk.2.2 i hi
  have zs' : Z (38 + i) s = qstop m s i := hk.2.1 i hi s hs
  have z11 : Z p2 11 = (qday m : Int) := hm.1.2.2.1
  rw [e_X7_marginWithoutBreach, k_X7_marginWithoutBreach_0_a]
  simp (disch := first | omega | assumption) only [k_X7_marginWithoutBreach_6_a, k_X7_marginWithoutBreach_22_a, k_X7_marginWithoutBreach_24_a, li_0, li_1, li_2, li_3, li_4, li_5, li_6, li_9, li_10, li_40, lm_1, lm_2, lm_3, lm_4, zs_ap, i32_add, i32_sub, i32_mul, i32_neg, i32_lt, i32_le, i32_eq, i32_nat, ckn, pka_r, pka_v, if_pos, if_neg, if_true, if_false, zg, z11, r1', va_rf, zs', Int.toNat_natCast]
theorem h_leaversBy (hp : p2 = 5 ∨ p2 = 20) (hw : wf m) (hm : KM m p2 Z) {g1 : Nat} (hg : pshn g1 = some (.inl (.int, 3))) {M : Nat → Int} (hz : ∀ i : Nat, i < qS m → Z g1 i = M i ∧ (-1000000 ≤ M i ∧ M i ≤ 1000000)) : Mean (d + 1) 86 [.ref 35, .ref g1] (176, zs Z, J, RP p0 p1 p2 p3 p4 p5 p6 p7) = some (some (.int (lvb (lvP m M) 6)), (176, zs Z, J, RP p0 p1 p2 p3 p4 p5 p6 p7)) := by
  have hS := hw.1
  have hpr := hw.2.2.2.2.2.1.2.2.2.2
  have z1 : Z p2 1 = (qS m : Int) := hm.1.1
  have z15 : Z p2 15 = (qprs m : Int) := hm.1.2.2.2.2.2.2
  obtain ⟨o4, _, e⟩ := up_inv (fun (i : Nat) (o4 : Option Value) => den none (Mean d) (some .int) tQ_X7_leaversBy (4, [some (.ref 35), some (.ref g1), some (.int (ouB m M i)), some (.int (i32 (i : Int))), o4], [], 176, zs Z, J, RP p0 p1 p2 p3 p4 p5 p6 p7)) (qS m) (fun _ _ => True) (fun i o4 hi _ => by
    have e1 : den none (Mean d) (some .int) tQ_X7_leaversBy (4, [some (.ref 35), some (.ref g1), some (.int (ouB m M i)), some (.int (i32 (i : Int))), o4], [], 176, zs Z, J, RP p0 p1 p2 p3 p4 p5 p6 p7) = den none (Mean d) (some .int) tQ_X7_leaversBy (30, [some (.ref 35), some (.ref g1), some (.int (sgB M i (ouB m M i))), some (.int (i32 (i : Int))), some (.int (i32 ((0 : Nat) : Int)))], [], 176, zs Z, J, RP p0 p1 p2 p3 p4 p5 p6 p7) := by
      have hb := (hz i hi).2
      rw [k_X7_leaversBy_4_a (hv_p2 := by omega)]
      unfold sgB
      by_cases c0 : M i < 0
      · rw [if_pos c0]
        simp (disch := first | omega | assumption) only [k_X7_leaversBy_0_a, k_X7_leaversBy_15_a, k_X7_leaversBy_18_a, k_X7_leaversBy_21_a, k_X7_leaversBy_27_a, k_X7_leaversBy_40_a, k_X7_leaversBy_46_a, k_X7_leaversBy_49_a, k_X7_leaversBy_53_a, k_X7_leaversBy_57_a, k_X7_leaversBy_68_a, k_X7_leaversBy_74_a, k_X7_leaversBy_80_a, li_0, li_1, li_2, li_3, li_4, li_5, li_6, li_9, li_10, li_40, lm_1, lm_2, lm_3, lm_4, zs_ap, i32_add, i32_sub, i32_mul, i32_neg, i32_lt, i32_le, i32_eq, i32_nat, ckn, pka_r, pka_v, if_pos, if_neg, if_true, if_false, z1, (hz i hi).1, Int.toNat_natCast]
        rfl
      · rw [if_neg c0]
        simp (disch := first | omega | assumption) only [k_X7_leaversBy_0_a, k_X7_leaversBy_15_a, k_X7_leaversBy_18_a, k_X7_leaversBy_21_a, k_X7_leaversBy_27_a, k_X7_leaversBy_40_a, k_X7_leaversBy_46_a, k_X7_leaversBy_49_a, k_X7_leaversBy_53_a, k_X7_leaversBy_57_a, k_X7_leaversBy_68_a, k_X7_leaversBy_74_a, k_X7_leaversBy_80_a, li_0, li_1, li_2, li_3, li_4, li_5, li_6, li_9, li_10, li_40, lm_1, lm_2, lm_3, lm_4, zs_ap, i32_add, i32_sub, i32_mul, i32_neg, i32_lt, i32_le, i32_eq, i32_nat, ckn, pka_r, pka_v, if_pos, if_neg, if_true, if_false, z1, (hz i hi).1, Int.toNat_natCast]
        rfl
    by_cases cp : qprs m = 0
    · refine ⟨some (.int (i32 ((0 : Nat) : Int))), trivial, ?_⟩
      try dsimp only
      rw [e1, k_X7_leaversBy_30_a (hv_p2 := by omega), show ouB m M (i + 1) = sgB M i (ouB m M i) from if_pos cp]
      simp (disch := omega) only [k_X7_leaversBy_0_a, k_X7_leaversBy_15_a, k_X7_leaversBy_18_a, k_X7_leaversBy_21_a, k_X7_leaversBy_27_a, k_X7_leaversBy_40_a, k_X7_leaversBy_46_a, k_X7_leaversBy_49_a, k_X7_leaversBy_53_a, k_X7_leaversBy_57_a, k_X7_leaversBy_68_a, k_X7_leaversBy_74_a, k_X7_leaversBy_80_a, li_0, li_1, li_2, li_3, li_4, li_5, li_6, li_9, li_10, li_40, lm_1, lm_2, lm_3, lm_4, zs_ap, i32_add, i32_sub, i32_mul, i32_neg, i32_lt, i32_le, i32_eq, i32_nat, ckn, pka_r, pka_v, if_pos, if_neg, if_true, if_false, z15, cp]
      rfl
    · have hp1 : qprs m = 1 := by omega
      refine ⟨some (.int (i32 (i : Int))), trivial, ?_⟩
      try dsimp only
      rw [e1, show ouB m M (i + 1) = inB M i (sgB M i (ouB m M i)) i from if_neg cp]
      have key := up_eq (fun (j : Nat) => den none (Mean d) (some .int) tQ_X7_leaversBy (30, [some (.ref 35), some (.ref g1), some (.int (inB M i (sgB M i (ouB m M i)) j)), some (.int (i32 (i : Int))), some (.int (i32 (j : Int)))], [], 176, zs Z, J, RP p0 p1 p2 p3 p4 p5 p6 p7)) i (fun j hj => by
        have hb := (hz i hi).2
        have hb2 := (hz j (by omega)).2
        have e2 : i32 2 + i32 (i : Int) + i32 (j : Int) = i32 ((2 + i + j : Nat) : Int) := by rw [i32_add, i32_add]; rfl
        try dsimp only
        rw [k_X7_leaversBy_30_a (hv_p2 := by omega), inB_s]
        by_cases c0 : M i + M j < 0
        · rw [if_pos c0]
          simp (disch := first | omega | assumption) only [k_X7_leaversBy_40_a, k_X7_leaversBy_46_a, k_X7_leaversBy_49_a, k_X7_leaversBy_53_a, k_X7_leaversBy_57_a, k_X7_leaversBy_68_a, zs_ap, z15, hp1, li_0, li_1, li_2, e2, i32_eq, i32_le, i32_lt, i32_nat, ckn, if_neg, if_pos, Int.toNat_natCast, (hz i hi).1, (hz j (by omega)).1, i32_add]
          rfl
        · rw [if_neg c0]
          simp (disch := first | omega | assumption) only [k_X7_leaversBy_40_a, k_X7_leaversBy_46_a, k_X7_leaversBy_49_a, k_X7_leaversBy_53_a, k_X7_leaversBy_57_a, k_X7_leaversBy_68_a, zs_ap, z15, hp1, li_0, li_1, li_2, e2, i32_eq, i32_le, i32_lt, i32_nat, ckn, if_neg, if_pos, Int.toNat_natCast, (hz i hi).1, (hz j (by omega)).1, i32_add]
          rfl)
      refine Eq.trans key ?_
      rw [k_X7_leaversBy_30_a (hv_p2 := by omega)]
      simp (disch := omega) only [k_X7_leaversBy_0_a, k_X7_leaversBy_15_a, k_X7_leaversBy_18_a, k_X7_leaversBy_21_a, k_X7_leaversBy_27_a, k_X7_leaversBy_40_a, k_X7_leaversBy_46_a, k_X7_leaversBy_49_a, k_X7_leaversBy_53_a, k_X7_leaversBy_57_a, k_X7_leaversBy_68_a, k_X7_leaversBy_74_a, k_X7_leaversBy_80_a, li_0, li_1, li_2, li_3, li_4, li_5, li_6, li_9, li_10, li_40, lm_1, lm_2, lm_3, lm_4, zs_ap, i32_add, i32_sub, i32_mul, i32_neg, i32_lt, i32_le, i32_eq, i32_nat, ckn, pka_r, pka_v, if_pos, if_neg, if_true, if_false, z15, hp1]
      rfl) none trivial
  rw [e_X7_leaversBy, k_X7_leaversBy_0_a]
  refine Eq.trans e ?_
  rw [k_X7_leaversBy_4_a (hv_p2 := by omega), ou_lv hw]
  simp (disch := omega) only [k_X7_leaversBy_0_a, k_X7_leaversBy_15_a, k_X7_leaversBy_18_a, k_X7_leaversBy_21_a, k_X7_leaversBy_27_a, k_X7_leaversBy_40_a, k_X7_leaversBy_46_a, k_X7_leaversBy_49_a, k_X7_leaversBy_53_a, k_X7_leaversBy_57_a, k_X7_leaversBy_68_a, k_X7_leaversBy_74_a, k_X7_leaversBy_80_a, li_0, li_1, li_2, li_3, li_4, li_5, li_6, li_9, li_10, li_40, lm_1, lm_2, lm_3, lm_4, zs_ap, i32_add, i32_sub, i32_mul, i32_neg, i32_lt, i32_le, i32_eq, i32_nat, ckn, pka_r, pka_v, if_pos, if_neg, if_true, if_false, z1]
end
