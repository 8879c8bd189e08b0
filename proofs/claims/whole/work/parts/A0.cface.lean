/-! THE CLASS'S FACE: what a matter is -/
theorem lv_q {m : Mat} (hw : wf m) {s n : Nat} {M : Nat → Int} (hM : ∀ i : Nat, i < qS m → M i = qgoal m i - (n : Int) * (qday m : Int) - qstop m s i + qbre m i) : lvb (lvP m M) 6 = qlv m (qbre m) s n 6 := by
  have hS := hw.1
  rw [lvb_q]
  apply lvb_c
  intro w hw6
  unfold lvP qcnt
  by_cases c3 : w < 3
  · simp only [if_pos c3]
    by_cases cS : w < qS m
    · rw [qsh_one c3, hM w cS]
      congr 1
      apply decide_eq_decide.mpr
      omega
    · simp [cS]
  · simp only [if_neg c3]
    by_cases cp : qprs m = 0
    · simp [cp]
    · by_cases cS : qtwo w < qS m
      · have ho : qone w < qtwo w := by
          have : w = 3 ∨ w = 4 ∨ w = 5 := by omega
          rcases this with rfl | rfl | rfl <;> decide
        rw [hM _ cS, hM _ (by omega)]
        congr 1
        unfold qwould qmore qsh
        rw [if_neg c3, if_neg (by omega)]
        apply decide_eq_decide.mpr
        have e : ((2 * n : Nat) : Int) * (qday m : Int) = (n : Int) * (qday m : Int) + (n : Int) * (qday m : Int) := by
          rw [show ((2 * n : Nat) : Int) = (n : Int) + (n : Int) by omega, Int.add_mul]
        rw [e]
        omega
      · simp [cS]
/-- the class holds a matter -/
def KI (m : Mat) (p : Nat) (Z : Nat → Nat → Int) : Prop := wf m ∧ hv2 p ∧ KM m p Z ∧ KS m 35 Z
theorem gls_s (m : Mat) (k i : Nat) : gls m k (i + 1) = if i = qown m k then gls m k i else if gls m k i < qstop m (gto m k) i - qstop m (qbeg m) i then qstop m (gto m k) i - qstop m (qbeg m) i else gls m k i := rfl
theorem ggr_s (m : Mat) (k : Nat) : ggr m (k + 1) = if (ggr m k).1 = -1 ∨ (ggr m k).2 < gls m k (qS m) then ((k : Int), gls m k (qS m)) else ggr m k := rfl
theorem ggr_2 (m : Mat) : ∀ k : Nat, ((ggr m k).1 = -1 ∧ (ggr m k).2 = -100000) ∨ ∃ j : Nat, j < k ∧ (ggr m k).1 = (j : Int) ∧ (ggr m k).2 = gls m j (qS m)
  | 0 => Or.inl ⟨rfl, rfl⟩
  | k + 1 => by
    rw [ggr_s]
    split
    · exact Or.inr ⟨k, by omega, rfl, rfl⟩
    · rcases ggr_2 m k with h | ⟨j, h1, h2⟩
      · exact Or.inl h
      · exact Or.inr ⟨j, by omega, h2⟩
section
variable {d : Nat} {J : Nat → Nat → Int64} {Z : Nat → Nat → Int} {p0 p1 p5 p6 : Nat} {m : Mat}
theorem h_corner (h : KI m p0 Z) {a : Int} (ha : -2147483648 ≤ a ∧ a < 2147483648) : Mean (d + 1) 112 [.ref 0, .int (i32 a)] (176, zs Z, J, RP p0 p1 p0 35 p0 p5 p6 97) = some (some (.int (i32 (aCorner m a))), (176, zs Z, J, RP p0 p1 p0 35 p0 p5 p6 97)) := by
  obtain ⟨hw, hp, hm, hk⟩ := h
  have z2 := hk.1.1.2.1
  have z3 := hk.1.1.2.2
  rw [e_X10_corner, k_X10_corner_0]
  unfold aCorner
  by_cases c0 : a = 0
  · rw [if_pos c0]
    simp (disch := omega) only [k_X10_corner_4, k_X10_corner_12, k_X10_corner_17, k_X10_corner_27, k_X10_corner_28, li_0, li_1, li_2, li_3, li_4, li_5, li_6, li_9, li_10, li_40, lm_1, lm_2, lm_3, lm_4, zs_ap, i32_add, i32_sub, i32_mul, i32_neg, i32_lt, i32_le, i32_eq, i32_nat, ckn, pka_r, pka_v, if_pos, if_neg, if_true, if_false, z2]
  · rw [if_neg c0]
    by_cases c1 : a = 1
    · rw [if_pos c1]
      simp (disch := omega) only [k_X10_corner_4, k_X10_corner_12, k_X10_corner_17, k_X10_corner_27, k_X10_corner_28, li_0, li_1, li_2, li_3, li_4, li_5, li_6, li_9, li_10, li_40, lm_1, lm_2, lm_3, lm_4, zs_ap, i32_add, i32_sub, i32_mul, i32_neg, i32_lt, i32_le, i32_eq, i32_nat, ckn, pka_r, pka_v, if_pos, if_neg, if_true, if_false, z3]
    · rw [if_neg c1]
      simp (disch := omega) only [k_X10_corner_4, k_X10_corner_12, k_X10_corner_17, k_X10_corner_27, k_X10_corner_28, li_0, li_1, li_2, li_3, li_4, li_5, li_6, li_9, li_10, li_40, lm_1, lm_2, lm_3, lm_4, zs_ap, i32_add, i32_sub, i32_mul, i32_neg, i32_lt, i32_le, i32_eq, i32_nat, ckn, pka_r, pka_v, if_pos, if_neg, if_true, if_false]
theorem h_parts (h : KI m p0 Z) {s k : Int} (hs : -2147483648 ≤ s ∧ s < 2147483648) (hk' : -2147483648 ≤ k ∧ k < 2147483648) : Mean (d + 2) 113 [.ref 0, .int (i32 s), .int (i32 k)] (176, zs Z, J, RP p0 p1 p0 35 p0 p5 p6 97) = some (some (.int (i32 (aParts m s k))), (176, zs Z, J, RP p0 p1 p0 35 p0 p5 p6 97)) := by
  obtain ⟨hw, hp, hm, hk⟩ := h
  have hN := qpl_b hw (k := qP m) (Nat.le_refl _)
  have hN' : qN m = qpl m (qP m) := rfl
  have hP := hw.2.1
  have a1 := h_hasState_a (d := d) (J := J) (p0 := p0) (p1 := p1) (p2 := p0) (p3 := 35) (p4 := p0) (p5 := p5) (p6 := p6) (p7 := 97) (N := qN m) (by omega) hk.1.1.1 hs
  have a2 := h_hasPiece (d := d) (J := J) (Z := Z) (p0 := p0) (p1 := p1) (p2 := p0) (p3 := 35) (p4 := p0) (p5 := p5) (p6 := p6) (p7 := 97) (h := p0) (by omega) hP hm.1.2.1 hk'
  rw [e_X10_parts, k_X10_parts_0]
  unfold aParts
  by_cases c1 : 0 ≤ s ∧ s < qN m
  · by_cases c2 : 0 ≤ k ∧ k < qP m
    · rw [if_pos ⟨c1, c2⟩]
      have a3 := h_partsLeft_a (d := d) (J := J) (p0 := p0) (p1 := p1) (p2 := p0) (p3 := 35) (p4 := p0) (p5 := p5) (p6 := p6) (p7 := 97) hp hw hm hk.1 (s := s.toNat) (k := k.toNat) (by omega) (by omega)
      rw [show ((s.toNat : Nat) : Int) = s by omega, show ((k.toNat : Nat) : Int) = k by omega] at a3
      simp (disch := omega) only [k_X10_parts_8, k_X10_parts_11, k_X10_parts_19, k_X10_parts_22, k_X10_parts_31, k_X10_parts_34, k_X10_parts_36, li_0, li_1, li_2, li_3, li_4, li_5, li_6, li_9, li_10, li_40, lm_1, lm_2, lm_3, lm_4, zs_ap, i32_add, i32_sub, i32_mul, i32_neg, i32_lt, i32_le, i32_eq, i32_nat, ckn, pka_r, pka_v, if_pos, if_neg, if_true, if_false, a1, bI_t c1, a2, bI_t c2, a3]
    · rw [if_neg (fun q => c2 q.2)]
      simp (disch := omega) only [k_X10_parts_8, k_X10_parts_11, k_X10_parts_19, k_X10_parts_22, k_X10_parts_31, k_X10_parts_34, k_X10_parts_36, li_0, li_1, li_2, li_3, li_4, li_5, li_6, li_9, li_10, li_40, lm_1, lm_2, lm_3, lm_4, zs_ap, i32_add, i32_sub, i32_mul, i32_neg, i32_lt, i32_le, i32_eq, i32_nat, ckn, pka_r, pka_v, if_pos, if_neg, if_true, if_false, a1, bI_t c1, a2, bI_f c2]
  · rw [if_neg (fun q => c1 q.1)]
    simp (disch := omega) only [k_X10_parts_8, k_X10_parts_11, k_X10_parts_19, k_X10_parts_22, k_X10_parts_31, k_X10_parts_34, k_X10_parts_36, li_0, li_1, li_2, li_3, li_4, li_5, li_6, li_9, li_10, li_40, lm_1, lm_2, lm_3, lm_4, zs_ap, i32_add, i32_sub, i32_mul, i32_neg, i32_lt, i32_le, i32_eq, i32_nat, ckn, pka_r, pka_v, if_pos, if_neg, if_true, if_false, a1, bI_f c1]
theorem h_stop (h : KI m p0 Z) {s k : Int} (hs : -2147483648 ≤ s ∧ s < 2147483648) (hk' : -2147483648 ≤ k ∧ k < 2147483648) : Mean (d + 2) 114 [.ref 0, .int (i32 s), .int (i32 k)] (176, zs Z, J, RP p0 p1 p0 35 p0 p5 p6 97) = some (some (.int (i32 (aStop m s k))), (176, zs Z, J, RP p0 p1 p0 35 p0 p5 p6 97)) := by
  obtain ⟨hw, hp, hm, hk⟩ := h
  have hN := qpl_b hw (k := qP m) (Nat.le_refl _)
  have hN' : qN m = qpl m (qP m) := rfl
  have hS := hw.1
  have a1 := h_hasState_a (d := d) (J := J) (p0 := p0) (p1 := p1) (p2 := p0) (p3 := 35) (p4 := p0) (p5 := p5) (p6 := p6) (p7 := 97) (N := qN m) (by omega) hk.1.1.1 hs
  have a2 := h_hasSide (d := d) (J := J) (Z := Z) (p0 := p0) (p1 := p1) (p2 := p0) (p3 := 35) (p4 := p0) (p5 := p5) (p6 := p6) (p7 := 97) (h := p0) (by omega) hS.2 hm.1.1 hk'
  rw [e_X10_stop, k_X10_stop_0]
  unfold aStop
  by_cases c1 : 0 ≤ s ∧ s < qN m
  · by_cases c2 : 0 ≤ k ∧ k < qS m
    · rw [if_pos ⟨c1, c2⟩]
      obtain ⟨r1, r2⟩ := RPs (p0 := p0) (p1 := p1) (p2 := p0) (p3 := 35) (p4 := p0) (p5 := p5) (p6 := p6) (p7 := 97) (g := 35) (by omega) (show k.toNat < 3 by omega)
      have r1' : RP p0 p1 p0 35 p0 p5 p6 97 37 k.toNat = some (38 + k.toNat) := r1
      have r2' : pshn (38 + k.toNat) = some (.inl (.int, 400)) := r2
      have zs' : Z (38 + k.toNat) s.toNat = qstop m s.toNat k.toNat := hk.2.1 k.toNat (by omega) s.toNat (by omega)
      simp (disch := first | omega | assumption) only [k_X10_stop_8, k_X10_stop_11, k_X10_stop_19, k_X10_stop_22, k_X10_stop_31, k_X10_stop_33, k_X10_stop_36, k_X10_stop_38, li_0, li_1, li_2, li_3, li_4, li_5, li_6, li_9, li_10, li_40, lm_1, lm_2, lm_3, lm_4, zs_ap, i32_add, i32_sub, i32_mul, i32_neg, i32_lt, i32_le, i32_eq, i32_nat, ckn, pka_r, pka_v, if_pos, if_neg, if_true, if_false, a1, bI_t c1, a2, bI_t c2, r1', va_rf, zs']
    · rw [if_neg (fun q => c2 q.2)]
      simp (disch := omega) only [k_X10_stop_8, k_X10_stop_11, k_X10_stop_19, k_X10_stop_22, k_X10_stop_31, k_X10_stop_33, k_X10_stop_36, k_X10_stop_38, li_0, li_1, li_2, li_3, li_4, li_5, li_6, li_9, li_10, li_40, lm_1, lm_2, lm_3, lm_4, zs_ap, i32_add, i32_sub, i32_mul, i32_neg, i32_lt, i32_le, i32_eq, i32_nat, ckn, pka_r, pka_v, if_pos, if_neg, if_true, if_false, a1, bI_t c1, a2, bI_f c2, lm_100000]
  · rw [if_neg (fun q => c1 q.1)]
    simp (disch := omega) only [k_X10_stop_8, k_X10_stop_11, k_X10_stop_19, k_X10_stop_22, k_X10_stop_31, k_X10_stop_33, k_X10_stop_36, k_X10_stop_38, li_0, li_1, li_2, li_3, li_4, li_5, li_6, li_9, li_10, li_40, lm_1, lm_2, lm_3, lm_4, zs_ap, i32_add, i32_sub, i32_mul, i32_neg, i32_lt, i32_le, i32_eq, i32_nat, ckn, pka_r, pka_v, if_pos, if_neg, if_true, if_false, a1, bI_f c1, lm_100000]
theorem h_goal (h : KI m p0 Z) {k : Int} (hk' : -2147483648 ≤ k ∧ k < 2147483648) : Mean (d + 2) 115 [.ref 0, .int (i32 k)] (176, zs Z, J, RP p0 p1 p0 35 p0 p5 p6 97) = some (some (.int (i32 (aGoal m k))), (176, zs Z, J, RP p0 p1 p0 35 p0 p5 p6 97)) := by
  obtain ⟨hw, hp, hm, hk⟩ := h
  have hS := hw.1
  have a2 := h_hasSide (d := d) (J := J) (Z := Z) (p0 := p0) (p1 := p1) (p2 := p0) (p3 := 35) (p4 := p0) (p5 := p5) (p6 := p6) (p7 := 97) (h := p0) (by omega) hS.2 hm.1.1 hk'
  rw [e_X10_goal, k_X10_goal_0 (hv_p0 := by omega)]
  unfold aGoal
  by_cases c2 : 0 ≤ k ∧ k < qS m
  · rw [if_pos c2]
    have zg : Z 41 k.toNat = qgoal m k.toNat := hk.2.2 k.toNat (by omega)
    simp (disch := omega) only [k_X10_goal_8, k_X10_goal_11, k_X10_goal_20, k_X10_goal_23, k_X10_goal_25, li_0, li_1, li_2, li_3, li_4, li_5, li_6, li_9, li_10, li_40, lm_1, lm_2, lm_3, lm_4, zs_ap, i32_add, i32_sub, i32_mul, i32_neg, i32_lt, i32_le, i32_eq, i32_nat, ckn, pka_r, pka_v, if_pos, if_neg, if_true, if_false, a2, bI_t c2, zg]
  · rw [if_neg c2]
    simp (disch := omega) only [k_X10_goal_8, k_X10_goal_11, k_X10_goal_20, k_X10_goal_23, k_X10_goal_25, li_0, li_1, li_2, li_3, li_4, li_5, li_6, li_9, li_10, li_40, lm_1, lm_2, lm_3, lm_4, zs_ap, i32_add, i32_sub, i32_mul, i32_neg, i32_lt, i32_le, i32_eq, i32_nat, ckn, pka_r, pka_v, if_pos, if_neg, if_true, if_false, a2, bI_f c2, lm_100000]
theorem h_gift (h : KI m p0 Z) {s k q : Int} (hs : -2147483648 ≤ s ∧ s < 2147483648) (hk' : -2147483648 ≤ k ∧ k < 2147483648) (hq : -2147483648 ≤ q ∧ q < 2147483648) : Mean (d + 3) 116 [.ref 0, .int (i32 s), .int (i32 k), .int (i32 q)] (176, zs Z, J, RP p0 p1 p0 35 p0 p5 p6 97) = some (some (.int (i32 (aGift m s k q))), (176, zs Z, J, RP p0 p1 p0 35 p0 p5 p6 97)) := by
  obtain ⟨hw, hp, hm, hk⟩ := h
  have hN := qpl_b hw (k := qP m) (Nat.le_refl _)
  have hN' : qN m = qpl m (qP m) := rfl
  have hP := hw.2.1
  have a1 := h_hasState_a (d := d + 1) (J := J) (p0 := p0) (p1 := p1) (p2 := p0) (p3 := 35) (p4 := p0) (p5 := p5) (p6 := p6) (p7 := 97) (N := qN m) (by omega) hk.1.1.1 hs
  have a2 := h_hasPiece (d := d + 1) (J := J) (Z := Z) (p0 := p0) (p1 := p1) (p2 := p0) (p3 := 35) (p4 := p0) (p5 := p5) (p6 := p6) (p7 := 97) (h := p0) (by omega) hP hm.1.2.1 hk'
  have a3 := h_within (d := d + 1) (J := J) (Z := Z) (p0 := p0) (p1 := p1) (p2 := p0) (p3 := 35) (p4 := p0) (p5 := p5) (p6 := p6) (p7 := 97) hq (lo := 1) (hi := 9) (by omega) (by omega)
  rw [e_X10_gift, k_X10_gift_0]
  unfold aGift
  by_cases c1 : 0 ≤ s ∧ s < qN m
  · by_cases c2 : 0 ≤ k ∧ k < qP m
    · by_cases c3 : 1 ≤ q ∧ q ≤ 9
      · rw [if_pos ⟨⟨c1, c2⟩, c3⟩]
        have a4 := h_stateBehind (d := d) (J := J) (p0 := p0) (p1 := p1) (p2 := p0) (p3 := 35) (p4 := p0) (p5 := p5) (p6 := p6) (p7 := 97) hp hw hm hk.1 (s := s.toNat) (k := k.toNat) (q := q.toNat) (by omega) (by omega) (by omega)
        rw [show ((s.toNat : Nat) : Int) = s by omega, show ((k.toNat : Nat) : Int) = k by omega, show ((q.toNat : Nat) : Int) = q by omega] at a4
        have e : (if qmay m s.toNat k.toNat q.toNat = true then ((s.toNat - q.toNat * qpl m k.toNat : Nat) : Int) else -1) = (if qmay m s.toNat k.toNat q.toNat = true then s - q * ((qpl m k.toNat : Nat) : Int) else -1) := by
          cases cm : qmay m s.toNat k.toNat q.toNat
          · rfl
          · rw [if_pos rfl, if_pos rfl]
            have hml := may_le cm
            rw [← sub_c (sub_le (m := m) (s := s.toNat) (k := k.toNat) (q := q.toNat) (by omega)), show ((s.toNat : Nat) : Int) = s by omega, show ((q.toNat : Nat) : Int) = q by omega]
        rw [e] at a4
        simp (disch := omega) only [k_X10_gift_8, k_X10_gift_11, k_X10_gift_19, k_X10_gift_22, k_X10_gift_29, k_X10_gift_32, k_X10_gift_35, k_X10_gift_45, li_0, li_1, li_2, li_3, li_4, li_5, li_6, li_9, li_10, li_40, lm_1, lm_2, lm_3, lm_4, zs_ap, i32_add, i32_sub, i32_mul, i32_neg, i32_lt, i32_le, i32_eq, i32_nat, ckn, pka_r, pka_v, if_pos, if_neg, if_true, if_false, a1, bI_t c1, a2, bI_t c2, a3, bI_t c3, a4]
      · rw [if_neg (fun q => c3 q.2)]
        simp (disch := omega) only [k_X10_gift_8, k_X10_gift_11, k_X10_gift_19, k_X10_gift_22, k_X10_gift_29, k_X10_gift_32, k_X10_gift_35, k_X10_gift_45, li_0, li_1, li_2, li_3, li_4, li_5, li_6, li_9, li_10, li_40, lm_1, lm_2, lm_3, lm_4, zs_ap, i32_add, i32_sub, i32_mul, i32_neg, i32_lt, i32_le, i32_eq, i32_nat, ckn, pka_r, pka_v, if_pos, if_neg, if_true, if_false, a1, bI_t c1, a2, bI_t c2, a3, bI_f c3]
    · rw [if_neg (fun q => c2 q.1.2)]
      simp (disch := omega) only [k_X10_gift_8, k_X10_gift_11, k_X10_gift_19, k_X10_gift_22, k_X10_gift_29, k_X10_gift_32, k_X10_gift_35, k_X10_gift_45, li_0, li_1, li_2, li_3, li_4, li_5, li_6, li_9, li_10, li_40, lm_1, lm_2, lm_3, lm_4, zs_ap, i32_add, i32_sub, i32_mul, i32_neg, i32_lt, i32_le, i32_eq, i32_nat, ckn, pka_r, pka_v, if_pos, if_neg, if_true, if_false, a1, bI_t c1, a2, bI_f c2]
  · rw [if_neg (fun q => c1 q.1.1)]
    simp (disch := omega) only [k_X10_gift_8, k_X10_gift_11, k_X10_gift_19, k_X10_gift_22, k_X10_gift_29, k_X10_gift_32, k_X10_gift_35, k_X10_gift_45, li_0, li_1, li_2, li_3, li_4, li_5, li_6, li_9, li_10, li_40, lm_1, lm_2, lm_3, lm_4, zs_ap, i32_add, i32_sub, i32_mul, i32_neg, i32_lt, i32_le, i32_eq, i32_nat, ckn, pka_r, pka_v, if_pos, if_neg, if_true, if_false, a1, bI_f c1]
theorem h_leavers (h : KI m p0 Z) {s n : Nat} (hs : s < qN m) (hn : n ≤ 40) : ∃ Z' : Nat → Nat → Int, (∀ a : Nat, a ≠ 42 → Z' a = Z a) ∧ Mean (d + 2) 85 [.ref 35, .int (i32 (s : Int)), .int (i32 (n : Int))] (176, zs Z, J, RP p0 p1 p0 35 p0 p5 p6 97) = some (some (.int (qlv m (qbre m) s n 6)), (176, zs Z', J, RP p0 p1 p0 35 p0 p5 p6 97)) := by
  obtain ⟨hw, hp, hm, hk⟩ := h
  have hS := hw.1
  have hP := hw.2.1
  have hday := hw.2.2.2.2.2.1.1
  obtain ⟨Z', ⟨v1, v2⟩, e⟩ := up_inv (fun (i : Nat) (Z : Nat → Nat → Int) => den none (Mean (d + 1)) (some .int) tQ_X7_leavers (2, [some (.ref 35), some (.int (i32 (s : Int))), some (.int (i32 (n : Int))), some (.int (i32 (i : Int)))], [], 176, zs Z, J, RP p0 p1 p0 35 p0 p5 p6 97)) (qS m) (fun i Z' => (∀ a : Nat, a ≠ 42 → Z' a = Z a) ∧ ∀ j : Nat, j < i → Z' 42 j = qgoal m j - (n : Int) * (qday m : Int) - qstop m s j + qbre m j) (fun i Z' hi hv => by
    obtain ⟨v1, v2⟩ := hv
    have hm1 : KM m p0 Z' := KM_fr hP hm (fun a h1 h2 => v1 a (by omega))
    have hk1 : KS m 35 Z' := KS_fr hS.2 hk (fun a h1 h2 => v1 a (by omega))
    have mg := h_margin (d := d) (J := J) (p0 := p0) (p1 := p1) (p2 := p0) (p3 := 35) (p4 := p0) (p5 := p5) (p6 := p6) (p7 := 97) hp hw hm1 hk1 hi hs (n : Int)
    have z1 : Z' p0 1 = (qS m : Int) := hm1.1.1
    have zb : Z' (p0 + 14) i = qbre m i := (hm1.2.2.2 i (by omega)).2
    refine ⟨u2 Z' 42 i (qgoal m i - (n : Int) * (qday m : Int) - qstop m s i + qbre m i), ⟨fun a ha => (u2_ne ha).trans (v1 a ha), fun j hj => ?_⟩, ?_⟩
    · by_cases cj : j = i
      · rw [cj, u2s]
      · rw [u2f cj]
        exact v2 j (by omega)
    · show den none (Mean (d + 1)) (some .int) tQ_X7_leavers (2, _, [], 176, zs Z', J, _) = _
      rw [k_X7_leavers_2_a (hv_p2 := by omega)]
      simp (disch := omega) only [k_X7_leavers_0_a, k_X7_leavers_13_a, k_X7_leavers_25_a, k_X7_leavers_34_a, k_X7_leavers_36_a, k_X7_leavers_42_a, k_X7_leavers_50_a, li_0, li_1, li_2, li_3, li_4, li_5, li_6, li_9, li_10, li_40, lm_1, lm_2, lm_3, lm_4, zs_ap, i32_add, i32_sub, i32_mul, i32_neg, i32_lt, i32_le, i32_eq, i32_nat, ckn, pka_r, pka_v, if_pos, if_neg, if_true, if_false, z1, mg, zb, Int.toNat_natCast, zs_u2]
      rfl) Z ⟨fun _ _ => rfl, fun j hj => by omega⟩
  have hm1 : KM m p0 Z' := KM_fr hP hm (fun a h1 h2 => v1 a (by omega))
  have z1 : Z' p0 1 = (qS m : Int) := hm1.1.1
  have lb := h_leaversBy (d := d) (J := J) (p0 := p0) (p1 := p1) (p2 := p0) (p3 := 35) (p4 := p0) (p5 := p5) (p6 := p6) (p7 := 97) hp hw hm1 (g1 := 42) rfl (M := fun i => qgoal m i - (n : Int) * (qday m : Int) - qstop m s i + qbre m i) (fun i hi => by
    refine ⟨v2 i hi, ?_⟩
    have h1 := qgoal_b hw hi
    have h2 := qstop_b hw s hi
    have h3 := (hw.2.2.2.2.1 i (by omega)).2
    have h4 := mul_b (a := (n : Int)) (b := (qday m : Int)) (A := 40) (B := 99) (by omega) (by omega) (by omega) (by omega) (by omega)
    omega)
  rw [lv_q hw (n := n) (s := s) (fun i hi => rfl)] at lb
  refine ⟨Z', v1, ?_⟩
  rw [e_X7_leavers, k_X7_leavers_0_a]
  refine Eq.trans e ?_
  show den none (Mean (d + 1)) (some .int) tQ_X7_leavers (2, _, [], 176, zs Z', J, _) = _
  rw [k_X7_leavers_2_a (hv_p2 := by omega)]
  simp (disch := omega) only [k_X7_leavers_0_a, k_X7_leavers_13_a, k_X7_leavers_25_a, k_X7_leavers_34_a, k_X7_leavers_36_a, k_X7_leavers_42_a, k_X7_leavers_50_a, li_0, li_1, li_2, li_3, li_4, li_5, li_6, li_9, li_10, li_40, lm_1, lm_2, lm_3, lm_4, zs_ap, i32_add, i32_sub, i32_mul, i32_neg, i32_lt, i32_le, i32_eq, i32_nat, ckn, pka_r, pka_v, if_pos, if_neg, if_true, if_false, z1, lb]
theorem h_leave (h : KI m p0 Z) {s n : Int} (hs : -2147483648 ≤ s ∧ s < 2147483648) (hn : -2147483648 ≤ n ∧ n < 2147483648) : ∃ Z' : Nat → Nat → Int, (∀ a : Nat, a ≠ 42 → Z' a = Z a) ∧ Mean (d + 3) 117 [.ref 0, .int (i32 s), .int (i32 n)] (176, zs Z, J, RP p0 p1 p0 35 p0 p5 p6 97) = some (some (.int (if (0 ≤ s ∧ s < qN m) ∧ (0 ≤ n ∧ n ≤ 40) then qlv m (qbre m) s.toNat n.toNat 6 else -2)), (176, zs Z', J, RP p0 p1 p0 35 p0 p5 p6 97)) := by
  have hw := h.1
  have hN := qpl_b hw (k := qP m) (Nat.le_refl _)
  have hN' : qN m = qpl m (qP m) := rfl
  have a1 := h_hasState_a (d := d + 1) (J := J) (p0 := p0) (p1 := p1) (p2 := p0) (p3 := 35) (p4 := p0) (p5 := p5) (p6 := p6) (p7 := 97) (N := qN m) (by omega) h.2.2.2.1.1.1 hs
  have a3 := h_within (d := d + 1) (J := J) (Z := Z) (p0 := p0) (p1 := p1) (p2 := p0) (p3 := 35) (p4 := p0) (p5 := p5) (p6 := p6) (p7 := 97) hn (lo := 0) (hi := 40) (by omega) (by omega)
  by_cases c1 : 0 ≤ s ∧ s < qN m
  · by_cases c2 : 0 ≤ n ∧ n ≤ 40
    · obtain ⟨Z', b1, b2⟩ := h_leavers (d := d) (J := J) (p1 := p1) (p5 := p5) (p6 := p6) h (s := s.toNat) (n := n.toNat) (by omega) (by omega)
      rw [show ((s.toNat : Nat) : Int) = s by omega, show ((n.toNat : Nat) : Int) = n by omega] at b2
      refine ⟨Z', b1, ?_⟩
      rw [if_pos ⟨c1, c2⟩, e_X10_leave, k_X10_leave_0]
      simp (disch := omega) only [k_X10_leave_8, k_X10_leave_11, k_X10_leave_18, k_X10_leave_21, k_X10_leave_24, k_X10_leave_33, li_0, li_1, li_2, li_3, li_4, li_5, li_6, li_9, li_10, li_40, lm_1, lm_2, lm_3, lm_4, zs_ap, i32_add, i32_sub, i32_mul, i32_neg, i32_lt, i32_le, i32_eq, i32_nat, ckn, pka_r, pka_v, if_pos, if_neg, if_true, if_false, a1, bI_t c1, a3, bI_t c2, b2]
    · refine ⟨Z, fun _ _ => rfl, ?_⟩
      rw [if_neg (fun q => c2 q.2), e_X10_leave, k_X10_leave_0]
      simp (disch := omega) only [k_X10_leave_8, k_X10_leave_11, k_X10_leave_18, k_X10_leave_21, k_X10_leave_24, k_X10_leave_33, li_0, li_1, li_2, li_3, li_4, li_5, li_6, li_9, li_10, li_40, lm_1, lm_2, lm_3, lm_4, zs_ap, i32_add, i32_sub, i32_mul, i32_neg, i32_lt, i32_le, i32_eq, i32_nat, ckn, pka_r, pka_v, if_pos, if_neg, if_true, if_false, a1, bI_t c1, a3, bI_f c2]
  · refine ⟨Z, fun _ _ => rfl, ?_⟩
    rw [if_neg (fun q => c1 q.1), e_X10_leave, k_X10_leave_0]
    simp (disch := omega) only [k_X10_leave_8, k_X10_leave_11, k_X10_leave_18, k_X10_leave_21, k_X10_leave_24, k_X10_leave_33, li_0, li_1, li_2, li_3, li_4, li_5, li_6, li_9, li_10, li_40, lm_1, lm_2, lm_3, lm_4, zs_ap, i32_add, i32_sub, i32_mul, i32_neg, i32_lt, i32_le, i32_eq, i32_nat, ckn, pka_r, pka_v, if_pos, if_neg, if_true, if_false, a1, bI_f c1]
theorem h_loss (h : KI m p0 Z) {k : Nat} (hkP : k < qP m) : Mean (d + 1) 88 [.ref 35, .int (i32 (k : Int))] (176, zs Z, J, RP p0 p1 p0 35 p0 p5 p6 97) = some (some (.int (i32 (gls m k (qS m)))), (176, zs Z, J, RP p0 p1 p0 35 p0 p5 p6 97)) := by
  obtain ⟨hw, hp, hm, hk⟩ := h
  have hS := hw.1
  have hP := hw.2.1
  have hN := qpl_b hw (k := qP m) (Nat.le_refl _)
  have hN' : qN m = qpl m (qP m) := rfl
  have hbeg := qbeg_lt m
  have z1 : Z p0 1 = (qS m : Int) := hm.1.1
  have zo : Z (p0 + 2) k = (qown m k : Int) := (hm.2.1 k hkP).1
  have z3 : Z (p0 + 3) k = (qcut m k : Int) := (hm.2.1 k hkP).2.1
  have z4 : Z (p0 + 4) k = (qkept m k : Int) := (hm.2.1 k hkP).2.2.1
  have zu : Z (p0 + 5) k = (qund m k : Int) := (hm.2.1 k hkP).2.2.2
  have zw : Z 36 k = (qpl m k : Int) := hk.1.2 k hkP
  have zb : Z 35 2 = (qbeg m : Int) := hk.1.1.2.1
  have hc := hw.2.2.1 k hkP
  have gm := gmany_ok hw hkP
  have hsub := sub_le (m := m) (s := qbeg m) (k := k) (q := gmany m k) (by have := may_le gm.1; omega)
  have hto : ((qbeg m : Nat) : Int) - ((gmany m k : Nat) : Int) * ((qpl m k : Nat) : Int) = ((gto m k : Nat) : Int) := sub_c hsub
  have htl : gto m k < qN m := by unfold gto; omega
  have e0 : Mean (d + 1) 88 [.ref 35, .int (i32 (k : Int))] (176, zs Z, J, RP p0 p1 p0 35 p0 p5 p6 97) = den none (Mean d) (some .int) tQ_X7_lossByFirstGift (57, [some (.ref 35), some (.int (i32 (k : Int))), some (.int (i32 ((gmany m k : Nat) : Int))), some (.int (i32 ((gto m k : Nat) : Int))), some (.int (i32 (gls m k 0))), some (.int (i32 ((0 : Nat) : Int)))], [], 176, zs Z, J, RP p0 p1 p0 35 p0 p5 p6 97) := by
    rw [e_X7_lossByFirstGift, k_X7_lossByFirstGift_0_a (hv_p2 := by omega)]
    by_cases cu : qund m k = 0
    · have eg : gmany m k = 1 := if_pos cu
      rw [eg] at hto ⊢
      simp (disch := omega) only [k_X7_lossByFirstGift_9_a, k_X7_lossByFirstGift_12_a, k_X7_lossByFirstGift_21_a, k_X7_lossByFirstGift_30_a, k_X7_lossByFirstGift_34_a, k_X7_lossByFirstGift_35_a, k_X7_lossByFirstGift_47_a, k_X7_lossByFirstGift_69_a, k_X7_lossByFirstGift_80_a, k_X7_lossByFirstGift_83_a, k_X7_lossByFirstGift_92_a, k_X7_lossByFirstGift_94_a, k_X7_lossByFirstGift_101_a, k_X7_lossByFirstGift_106_a, k_X7_lossByFirstGift_112_a, k_X7_lossByFirstGift_118_a, li_0, li_1, li_2, li_3, li_4, li_5, li_6, li_9, li_10, li_40, lm_1, lm_2, lm_3, lm_4, zs_ap, i32_add, i32_sub, i32_mul, i32_neg, i32_lt, i32_le, i32_eq, i32_nat, ckn, pka_r, pka_v, if_pos, if_neg, if_true, if_false, zu, cu, zw, zb, Int.toNat_natCast, lm_100000]
      rw [show ((qbeg m : Nat) : Int) - 1 * ((qpl m k : Nat) : Int) = ((gto m k : Nat) : Int) from hto]
      rfl
    · have hu1 : qund m k = 1 := by omega
      have eg : gmany m k = qcut m k - qkept m k := if_neg cu
      rw [← hto, eg, show ((qcut m k - qkept m k : Nat) : Int) = (qcut m k : Int) - (qkept m k : Int) by omega]
      simp (disch := omega) only [k_X7_lossByFirstGift_9_a, k_X7_lossByFirstGift_12_a, k_X7_lossByFirstGift_21_a, k_X7_lossByFirstGift_30_a, k_X7_lossByFirstGift_34_a, k_X7_lossByFirstGift_35_a, k_X7_lossByFirstGift_47_a, k_X7_lossByFirstGift_69_a, k_X7_lossByFirstGift_80_a, k_X7_lossByFirstGift_83_a, k_X7_lossByFirstGift_92_a, k_X7_lossByFirstGift_94_a, k_X7_lossByFirstGift_101_a, k_X7_lossByFirstGift_106_a, k_X7_lossByFirstGift_112_a, k_X7_lossByFirstGift_118_a, li_0, li_1, li_2, li_3, li_4, li_5, li_6, li_9, li_10, li_40, lm_1, lm_2, lm_3, lm_4, zs_ap, i32_add, i32_sub, i32_mul, i32_neg, i32_lt, i32_le, i32_eq, i32_nat, ckn, pka_r, pka_v, if_pos, if_neg, if_true, if_false, zu, hu1, zw, zb, z3, z4, Int.toNat_natCast, lm_100000]
      rfl
  have key := up_eq (fun (i : Nat) => den none (Mean d) (some .int) tQ_X7_lossByFirstGift (57, [some (.ref 35), some (.int (i32 (k : Int))), some (.int (i32 ((gmany m k : Nat) : Int))), some (.int (i32 ((gto m k : Nat) : Int))), some (.int (i32 (gls m k i))), some (.int (i32 (i : Int)))], [], 176, zs Z, J, RP p0 p1 p0 35 p0 p5 p6 97)) (qS m) (fun i hi => by
    obtain ⟨r1, r2⟩ := RPs (p0 := p0) (p1 := p1) (p2 := p0) (p3 := 35) (p4 := p0) (p5 := p5) (p6 := p6) (p7 := 97) (g := 35) (by omega) (show i < 3 by omega)
    have r1' : RP p0 p1 p0 35 p0 p5 p6 97 37 i = some (38 + i) := r1
    have r2' : pshn (38 + i) = some (.inl (.int, 400)) := r2
    have s1 : Z (38 + i) (gto m k) = qstop m (gto m k) i := hk.2.1 i hi _ htl
    have s2 : Z (38 + i) (qbeg m) = qstop m (qbeg m) i := hk.2.1 i hi _ hbeg
    have b1 := gls_b hw (k := k) i (by omega)
    have b2 := qstop_b hw (gto m k) hi
    have b3 := qstop_b hw (qbeg m) hi
    try dsimp only
    rw [gls_s, k_X7_lossByFirstGift_57_a (hv_p2 := by omega)]
    by_cases co : i = qown m k
    · rw [if_pos co]
      simp (disch := omega) only [k_X7_lossByFirstGift_0_a, k_X7_lossByFirstGift_9_a, k_X7_lossByFirstGift_12_a, k_X7_lossByFirstGift_21_a, k_X7_lossByFirstGift_30_a, k_X7_lossByFirstGift_34_a, k_X7_lossByFirstGift_35_a, k_X7_lossByFirstGift_47_a, k_X7_lossByFirstGift_69_a, k_X7_lossByFirstGift_80_a, k_X7_lossByFirstGift_83_a, k_X7_lossByFirstGift_92_a, k_X7_lossByFirstGift_94_a, k_X7_lossByFirstGift_101_a, k_X7_lossByFirstGift_106_a, k_X7_lossByFirstGift_112_a, k_X7_lossByFirstGift_118_a, li_0, li_1, li_2, li_3, li_4, li_5, li_6, li_9, li_10, li_40, lm_1, lm_2, lm_3, lm_4, zs_ap, i32_add, i32_sub, i32_mul, i32_neg, i32_lt, i32_le, i32_eq, i32_nat, ckn, pka_r, pka_v, if_pos, if_neg, if_true, if_false, z1, zo, co, Int.toNat_natCast]
      rfl
    · rw [if_neg co]
      have hne : ¬ (i : Int) = (qown m k : Int) := by omega
      simp (disch := first | omega | assumption) only [k_X7_lossByFirstGift_69_a, k_X7_lossByFirstGift_80_a, k_X7_lossByFirstGift_83_a, k_X7_lossByFirstGift_92_a, k_X7_lossByFirstGift_94_a, k_X7_lossByFirstGift_101_a, k_X7_lossByFirstGift_106_a, k_X7_lossByFirstGift_112_a, li_0, li_1, li_2, li_3, li_4, li_5, li_6, li_9, li_10, li_40, lm_1, lm_2, lm_3, lm_4, zs_ap, i32_add, i32_sub, i32_mul, i32_neg, i32_le, i32_eq, i32_nat, ckn, i32_lt, if_neg, if_pos, z1, zo, Int.toNat_natCast, r1', va_rf, s1, s2, zb]
      by_cases cl : gls m k i < qstop m (gto m k) i - qstop m (qbeg m) i
      · rw [if_pos cl, if_pos cl]
        rfl
      · rw [if_neg cl, if_neg cl]
        rfl)
  rw [e0]
  refine Eq.trans key ?_
  rw [k_X7_lossByFirstGift_57_a (hv_p2 := by omega)]
  simp (disch := omega) only [k_X7_lossByFirstGift_0_a, k_X7_lossByFirstGift_9_a, k_X7_lossByFirstGift_12_a, k_X7_lossByFirstGift_21_a, k_X7_lossByFirstGift_30_a, k_X7_lossByFirstGift_34_a, k_X7_lossByFirstGift_35_a, k_X7_lossByFirstGift_47_a, k_X7_lossByFirstGift_69_a, k_X7_lossByFirstGift_80_a, k_X7_lossByFirstGift_83_a, k_X7_lossByFirstGift_92_a, k_X7_lossByFirstGift_94_a, k_X7_lossByFirstGift_101_a, k_X7_lossByFirstGift_106_a, k_X7_lossByFirstGift_112_a, k_X7_lossByFirstGift_118_a, li_0, li_1, li_2, li_3, li_4, li_5, li_6, li_9, li_10, li_40, lm_1, lm_2, lm_3, lm_4, zs_ap, i32_add, i32_sub, i32_mul, i32_neg, i32_lt, i32_le, i32_eq, i32_nat, ckn, pka_r, pka_v, if_pos, if_neg, if_true, if_false, z1]
end
