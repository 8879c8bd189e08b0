/-! THE MODEL'S SMALL ANSWERS, of a matter -/
theorem bI_t {p : Prop} [Decidable p] (h : p) : bI p = 1 := if_pos h
theorem bI_f {p : Prop} [Decidable p] (h : ¬ p) : bI p = 0 := if_neg h
theorem bBt : bB true = 1 := rfl
theorem bBf : bB false = 0 := rfl
def qmay (m : Mat) (s k q : Nat) : Bool := if qund m k = 0 then decide ((1 ≤ q ∧ q ≤ qlump m) ∧ q + qkept m k ≤ qhas m s k) else decide (0 < q ∧ q + qkept m k = qhas m s k)
/-- the model's store of a matter, in order -/
def MI (m : Mat) (Z : Nat → Nat → Int) : Prop := wf m ∧ MR m Z ∧ mJk Z ∧ MT m Z
def aCorner (m : Mat) (a : Int) : Int := if a = 0 then qbeg m else if a = 1 then qfin m else -1
def aParts (m : Mat) (s k : Int) : Int := if (0 ≤ s ∧ s < qN m) ∧ (0 ≤ k ∧ k < qP m) then qhas m s.toNat k.toNat else -2
def aStop (m : Mat) (s i : Int) : Int := if (0 ≤ s ∧ s < qN m) ∧ (0 ≤ i ∧ i < qS m) then qstop m s.toNat i.toNat else -100000
def aGoal (m : Mat) (i : Int) : Int := if 0 ≤ i ∧ i < qS m then qgoal m i.toNat else -100000
def aGift (m : Mat) (s k q : Int) : Int := if ((0 ≤ s ∧ s < qN m) ∧ (0 ≤ k ∧ k < qP m)) ∧ (1 ≤ q ∧ q ≤ 9) then (if qmay m s.toNat k.toNat q.toNat then s - q * qpl m k.toNat else -1) else -2
def aTold (m : Mat) (a : Int) : Int := if 10 ≤ a ∧ a < 10 + qS m then qpea m (a - 10).toNat else if 20 ≤ a ∧ a < 20 + qS m then qbre m (a - 20).toNat else if a = 0 then qS m else if a = 1 then qP m else if a = 2 then qday m else if a = 3 then qlump m else if a = 4 then qmode m else if a = 5 then qfst m else if a = 6 then qprs m else if a = 7 then qN m else -1
def aPiece (m : Mat) (k a : Int) : Int := if 10 ≤ a ∧ a ≤ 12 then (if (0 ≤ k ∧ k < qP m) ∧ a < 10 + qS m then qwor m k.toNat (a - 10).toNat else -2000) else if 0 ≤ k ∧ k < qP m then (if a = 0 then qown m k.toNat else if a = 1 then qcut m k.toNat else if a = 2 then qkept m k.toNat else if a = 3 then qund m k.toNat else -1) else -1
section
variable {d : Nat} {J : Nat → Nat → Int64} {Z : Nat → Nat → Int} {p0 p1 p2 p3 p4 p5 p6 p7 : Nat} {m : Mat}
theorem MI_n (h : MI m Z) : (2 ≤ qS m ∧ qS m ≤ 3) ∧ qP m ≤ 6 ∧ (1 ≤ qN m ∧ qN m ≤ 400) ∧ Z 140 10 = qS m ∧ Z 140 11 = qP m ∧ Z 140 49 = qN m ∧ Z 140 50 = qbeg m ∧ Z 140 51 = qfin m ∧ qbeg m < qN m ∧ qfin m < qN m := by
  obtain ⟨hw, hr, hj, ht⟩ := h
  exact ⟨hw.1, hw.2.1, ⟨qpl_pos m _, hw.2.2.2.2.2.2⟩, hr.1.1, hr.1.2.1, ht.1.1, ht.1.2.1, ht.1.2.2, qbeg_lt m, qfin_lt hw⟩
theorem mMay_q (h : MI m Z) {s k q : Nat} (hs : s < qN m) (hk : k < qP m) : mMay Z s k q = qmay m s k q := by
  obtain ⟨hw, hr, hj, ht⟩ := h
  have h1 := hr.2.1 k hk
  have h2 := ht.2.2.1 s hs k hk
  have h3 := hr.1.2.2.2.1
  unfold mMay qmay
  rw [show ((k : Nat) : Int).toNat = k by omega, show (6 * (s : Int) + (k : Int)).toNat = 6 * s + k by omega, h1.2.2.2, h1.2.2.1, h2, h3]
  by_cases c : qund m k = 0
  · rw [if_pos (by omega), if_pos c]
    exact decide_eq_decide.mpr (by omega)
  · rw [if_neg (by omega), if_neg c]
    exact decide_eq_decide.mpr (by omega)
theorem g_mayGive (h : MI m Z) {s k q : Nat} (hs : s < qN m) (hk : k < qP m) (hq : q < 100) : Mean (d + 2) 180 [.ref 140, .int (i32 (s : Int)), .int (i32 (k : Int)), .int (i32 (q : Int))] (176, zs Z, J, RP p0 p1 p2 p3 p4 p5 p6 p7) = some (some (.int (i32 (bB (qmay m s k q)))), (176, zs Z, J, RP p0 p1 p2 p3 p4 p5 p6 p7)) := by
  have h0 := MI_n h
  obtain ⟨hw, hr, hj, ht⟩ := h
  have h1 := hr.2.1 k hk
  have h2 := ht.2.2.1 s hs k hk
  have h3 := hr.1.2.2.2.1
  have h4 := hw.2.2.1 k hk
  have h5 := hw.2.2.2.2.2.1
  have h6 := qhas_le m s k
  rw [s_mayGive d J Z p0 p1 p2 p3 p4 p5 p6 p7 (by omega) (by omega) (by omega) (by rw [show (6 * (s : Int) + (k : Int)).toNat = 6 * s + k by omega]; omega) (by rw [show ((k : Nat) : Int).toNat = k by omega]; omega) (by rw [show ((k : Nat) : Int).toNat = k by omega]; omega) (by omega), mMay_q ⟨hw, hr, hj, ht⟩ hs hk]
theorem mGoal_q (h : MI m Z) {i : Nat} (hi : i < qS m) : mGoal Z i = qgoal m i := by
  have h0 := MI_n h
  obtain ⟨hw, hr, hj, ht⟩ := h
  unfold mGoal qgoal
  rw [ht.1.2.2, show (3 * ((qfin m : Nat) : Int) + (i : Int)).toNat = 3 * qfin m + i by omega, show ((i : Nat) : Int).toNat = i by omega, ht.2.2.2 _ (by omega) i hi, (hr.2.2.2 i (by omega)).1]
theorem g_goalOf (h : MI m Z) {i : Nat} (hi : i < qS m) : Mean (d + 1) 175 [.ref 140, .int (i32 (i : Int))] (176, zs Z, J, RP p0 p1 p2 p3 p4 p5 p6 p7) = some (some (.int (i32 (qgoal m i))), (176, zs Z, J, RP p0 p1 p2 p3 p4 p5 p6 p7)) := by
  have h0 := MI_n h
  rw [s_goalOf d J Z p0 p1 p2 p3 p4 p5 p6 p7 (by omega) (by omega), mGoal_q h hi]
theorem g_corner (h : MI m Z) {a : Int} (ha : -2147483648 ≤ a ∧ a < 2147483648) : Mean (d + 1) 176 [.ref 140, .int (i32 a)] (176, zs Z, J, RP p0 p1 p2 p3 p4 p5 p6 p7) = some (some (.int (i32 (aCorner m a))), (176, zs Z, J, RP p0 p1 p2 p3 p4 p5 p6 p7)) := by
  have h0 := MI_n h
  rw [e_X11_corner]
  unfold aCorner
  by_cases c1 : a = 0
  · simp (disch := omega) only [k_X11_corner_0, k_X11_corner_4, k_X11_corner_11, k_X11_corner_16, k_X11_corner_23, k_X11_corner_24, li_0, li_1, li_2, li_3, li_4, li_5, li_6, li_9, li_10, li_40, lm_1, lm_2, lm_3, lm_4, zs_ap, i32_add, i32_sub, i32_mul, i32_neg, i32_lt, i32_le, i32_eq, i32_nat, ckn, pka_r, pka_v, if_pos, if_neg, if_true, if_false, h0]
  · by_cases c2 : a = 1
    · simp (disch := omega) only [k_X11_corner_0, k_X11_corner_4, k_X11_corner_11, k_X11_corner_16, k_X11_corner_23, k_X11_corner_24, li_0, li_1, li_2, li_3, li_4, li_5, li_6, li_9, li_10, li_40, lm_1, lm_2, lm_3, lm_4, zs_ap, i32_add, i32_sub, i32_mul, i32_neg, i32_lt, i32_le, i32_eq, i32_nat, ckn, pka_r, pka_v, if_pos, if_neg, if_true, if_false, h0]
    · simp (disch := omega) only [k_X11_corner_0, k_X11_corner_4, k_X11_corner_11, k_X11_corner_16, k_X11_corner_23, k_X11_corner_24, li_0, li_1, li_2, li_3, li_4, li_5, li_6, li_9, li_10, li_40, lm_1, lm_2, lm_3, lm_4, zs_ap, i32_add, i32_sub, i32_mul, i32_neg, i32_lt, i32_le, i32_eq, i32_nat, ckn, pka_r, pka_v, if_pos, if_neg, if_true, if_false, h0]
theorem g_parts (h : MI m Z) {s k : Int} (hs : -2147483648 ≤ s ∧ s < 2147483648) (hk : -2147483648 ≤ k ∧ k < 2147483648) : Mean (d + 3) 177 [.ref 140, .int (i32 s), .int (i32 k)] (176, zs Z, J, RP p0 p1 p2 p3 p4 p5 p6 p7) = some (some (.int (i32 (aParts m s k))), (176, zs Z, J, RP p0 p1 p2 p3 p4 p5 p6 p7)) := by
  have h0 := MI_n h
  rw [e_X11_parts]
  unfold aParts
  by_cases c1 : 0 ≤ s ∧ s < qN m
  · by_cases c2 : 0 ≤ k ∧ k < qP m
    · have e := h.2.2.2.2.2.1 s.toNat (by omega) k.toNat (by omega)
      simp (disch := omega) only [k_X11_parts_0, k_X11_parts_5, k_X11_parts_8, k_X11_parts_13, k_X11_parts_16, k_X11_parts_27, k_X11_parts_30, k_X11_parts_32, li_0, li_1, li_2, li_3, li_4, li_5, li_6, li_9, li_10, li_40, lm_1, lm_2, lm_3, lm_4, zs_ap, i32_add, i32_sub, i32_mul, i32_neg, i32_lt, i32_le, i32_eq, i32_nat, ckn, pka_r, pka_v, if_pos, if_neg, if_true, if_false, s_isState, s_isPiece, bI_t, bI_f, show (6 * s + k).toNat = 6 * s.toNat + k.toNat by omega, e]
    · simp (disch := omega) only [k_X11_parts_0, k_X11_parts_5, k_X11_parts_8, k_X11_parts_13, k_X11_parts_16, k_X11_parts_27, k_X11_parts_30, k_X11_parts_32, li_0, li_1, li_2, li_3, li_4, li_5, li_6, li_9, li_10, li_40, lm_1, lm_2, lm_3, lm_4, zs_ap, i32_add, i32_sub, i32_mul, i32_neg, i32_lt, i32_le, i32_eq, i32_nat, ckn, pka_r, pka_v, if_pos, if_neg, if_true, if_false, s_isState, s_isPiece, bI_t, bI_f]
  · simp (disch := omega) only [k_X11_parts_0, k_X11_parts_5, k_X11_parts_8, k_X11_parts_13, k_X11_parts_16, k_X11_parts_27, k_X11_parts_30, k_X11_parts_32, li_0, li_1, li_2, li_3, li_4, li_5, li_6, li_9, li_10, li_40, lm_1, lm_2, lm_3, lm_4, zs_ap, i32_add, i32_sub, i32_mul, i32_neg, i32_lt, i32_le, i32_eq, i32_nat, ckn, pka_r, pka_v, if_pos, if_neg, if_true, if_false, s_isState, s_isPiece, bI_t, bI_f]
theorem g_stop (h : MI m Z) {s k : Int} (hs : -2147483648 ≤ s ∧ s < 2147483648) (hk : -2147483648 ≤ k ∧ k < 2147483648) : Mean (d + 3) 178 [.ref 140, .int (i32 s), .int (i32 k)] (176, zs Z, J, RP p0 p1 p2 p3 p4 p5 p6 p7) = some (some (.int (i32 (aStop m s k))), (176, zs Z, J, RP p0 p1 p2 p3 p4 p5 p6 p7)) := by
  have h0 := MI_n h
  rw [e_X11_stop]
  unfold aStop
  by_cases c1 : 0 ≤ s ∧ s < qN m
  · by_cases c2 : 0 ≤ k ∧ k < qS m
    · have e := h.2.2.2.2.2.2 s.toNat (by omega) k.toNat (by omega)
      simp (disch := omega) only [k_X11_stop_0, k_X11_stop_5, k_X11_stop_8, k_X11_stop_13, k_X11_stop_16, k_X11_stop_26, k_X11_stop_29, k_X11_stop_32, li_0, li_1, li_2, li_3, li_4, li_5, li_6, li_9, li_10, li_40, lm_1, lm_2, lm_3, lm_4, zs_ap, i32_add, i32_sub, i32_mul, i32_neg, i32_lt, i32_le, i32_eq, i32_nat, ckn, pka_r, pka_v, if_pos, if_neg, if_true, if_false, s_isState, s_isSide, bI_t, bI_f, show (3 * s + k).toNat = 3 * s.toNat + k.toNat by omega, e]
    · simp (disch := omega) only [k_X11_stop_0, k_X11_stop_5, k_X11_stop_8, k_X11_stop_13, k_X11_stop_16, k_X11_stop_26, k_X11_stop_29, k_X11_stop_32, li_0, li_1, li_2, li_3, li_4, li_5, li_6, li_9, li_10, li_40, lm_1, lm_2, lm_3, lm_4, zs_ap, i32_add, i32_sub, i32_mul, i32_neg, i32_lt, i32_le, i32_eq, i32_nat, ckn, pka_r, pka_v, if_pos, if_neg, if_true, if_false, s_isState, s_isSide, bI_t, bI_f, lm_100000]
  · simp (disch := omega) only [k_X11_stop_0, k_X11_stop_5, k_X11_stop_8, k_X11_stop_13, k_X11_stop_16, k_X11_stop_26, k_X11_stop_29, k_X11_stop_32, li_0, li_1, li_2, li_3, li_4, li_5, li_6, li_9, li_10, li_40, lm_1, lm_2, lm_3, lm_4, zs_ap, i32_add, i32_sub, i32_mul, i32_neg, i32_lt, i32_le, i32_eq, i32_nat, ckn, pka_r, pka_v, if_pos, if_neg, if_true, if_false, s_isState, s_isSide, bI_t, bI_f, lm_100000]
theorem g_goal (h : MI m Z) {k : Int} (hk : -2147483648 ≤ k ∧ k < 2147483648) : Mean (d + 3) 179 [.ref 140, .int (i32 k)] (176, zs Z, J, RP p0 p1 p2 p3 p4 p5 p6 p7) = some (some (.int (i32 (aGoal m k))), (176, zs Z, J, RP p0 p1 p2 p3 p4 p5 p6 p7)) := by
  have h0 := MI_n h
  rw [e_X11_goal]
  unfold aGoal
  by_cases c2 : 0 ≤ k ∧ k < qS m
  · obtain ⟨i, rfl⟩ : ∃ i : Nat, k = i := ⟨k.toNat, by omega⟩
    simp (disch := omega) only [k_X11_goal_0, k_X11_goal_5, k_X11_goal_8, k_X11_goal_13, k_X11_goal_16, k_X11_goal_19, li_0, li_1, li_2, li_3, li_4, li_5, li_6, li_9, li_10, li_40, lm_1, lm_2, lm_3, lm_4, zs_ap, i32_add, i32_sub, i32_mul, i32_neg, i32_lt, i32_le, i32_eq, i32_nat, ckn, pka_r, pka_v, if_pos, if_neg, if_true, if_false, s_isSide, bI_t, bI_f, g_goalOf h, Int.toNat_natCast]
  · simp (disch := omega) only [k_X11_goal_0, k_X11_goal_5, k_X11_goal_8, k_X11_goal_13, k_X11_goal_16, k_X11_goal_19, li_0, li_1, li_2, li_3, li_4, li_5, li_6, li_9, li_10, li_40, lm_1, lm_2, lm_3, lm_4, zs_ap, i32_add, i32_sub, i32_mul, i32_neg, i32_lt, i32_le, i32_eq, i32_nat, ckn, pka_r, pka_v, if_pos, if_neg, if_true, if_false, s_isSide, bI_t, bI_f, lm_100000]
theorem g_gift (h : MI m Z) {s k q : Int} (hs : -2147483648 ≤ s ∧ s < 2147483648) (hk : -2147483648 ≤ k ∧ k < 2147483648) (hq : -2147483648 ≤ q ∧ q < 2147483648) : Mean (d + 3) 181 [.ref 140, .int (i32 s), .int (i32 k), .int (i32 q)] (176, zs Z, J, RP p0 p1 p2 p3 p4 p5 p6 p7) = some (some (.int (i32 (aGift m s k q))), (176, zs Z, J, RP p0 p1 p2 p3 p4 p5 p6 p7)) := by
  have h0 := MI_n h
  rw [e_X11_gift]
  unfold aGift
  by_cases c1 : 0 ≤ s ∧ s < qN m
  · by_cases c2 : 0 ≤ k ∧ k < qP m
    · by_cases c3 : 1 ≤ q ∧ q ≤ 9
      · obtain ⟨s, rfl⟩ : ∃ i : Nat, s = i := ⟨s.toNat, by omega⟩
        obtain ⟨k, rfl⟩ : ∃ i : Nat, k = i := ⟨k.toNat, by omega⟩
        obtain ⟨q, rfl⟩ : ∃ i : Nat, q = i := ⟨q.toNat, by omega⟩
        have e := h.2.2.2.2.1 k (by omega)
        rw [if_pos ⟨⟨c1, c2⟩, c3⟩]
        cases hb : qmay m s k q
        · simp (disch := omega) only [k_X11_gift_0, k_X11_gift_5, k_X11_gift_8, k_X11_gift_13, k_X11_gift_16, k_X11_gift_25, k_X11_gift_28, k_X11_gift_31, k_X11_gift_38, k_X11_gift_41, k_X11_gift_49, k_X11_gift_54, k_X11_gift_55, li_0, li_1, li_2, li_3, li_4, li_5, li_6, li_9, li_10, li_40, lm_1, lm_2, lm_3, lm_4, zs_ap, i32_add, i32_sub, i32_mul, i32_neg, i32_lt, i32_le, i32_eq, i32_nat, ckn, pka_r, pka_v, if_pos, if_neg, if_true, if_false, s_isState, s_isPiece, i32_to64, lj_1, lj_9, s_inZ, bI_t, bI_f, g_mayGive h, hb, bBf, Int.toNat_natCast]
          simp
        · simp (disch := omega) only [k_X11_gift_0, k_X11_gift_5, k_X11_gift_8, k_X11_gift_13, k_X11_gift_16, k_X11_gift_25, k_X11_gift_28, k_X11_gift_31, k_X11_gift_38, k_X11_gift_41, k_X11_gift_49, k_X11_gift_54, k_X11_gift_55, li_0, li_1, li_2, li_3, li_4, li_5, li_6, li_9, li_10, li_40, lm_1, lm_2, lm_3, lm_4, zs_ap, i32_add, i32_sub, i32_mul, i32_neg, i32_lt, i32_le, i32_eq, i32_nat, ckn, pka_r, pka_v, if_pos, if_neg, if_true, if_false, s_isState, s_isPiece, i32_to64, lj_1, lj_9, s_inZ, bI_t, bI_f, g_mayGive h, hb, bBt, Int.toNat_natCast, e]
      · simp (disch := omega) only [k_X11_gift_0, k_X11_gift_5, k_X11_gift_8, k_X11_gift_13, k_X11_gift_16, k_X11_gift_25, k_X11_gift_28, k_X11_gift_31, k_X11_gift_38, k_X11_gift_41, k_X11_gift_49, k_X11_gift_54, k_X11_gift_55, li_0, li_1, li_2, li_3, li_4, li_5, li_6, li_9, li_10, li_40, lm_1, lm_2, lm_3, lm_4, zs_ap, i32_add, i32_sub, i32_mul, i32_neg, i32_lt, i32_le, i32_eq, i32_nat, ckn, pka_r, pka_v, if_pos, if_neg, if_true, if_false, s_isState, s_isPiece, i32_to64, lj_1, lj_9, s_inZ, bI_t, bI_f]
    · simp (disch := omega) only [k_X11_gift_0, k_X11_gift_5, k_X11_gift_8, k_X11_gift_13, k_X11_gift_16, k_X11_gift_25, k_X11_gift_28, k_X11_gift_31, k_X11_gift_38, k_X11_gift_41, k_X11_gift_49, k_X11_gift_54, k_X11_gift_55, li_0, li_1, li_2, li_3, li_4, li_5, li_6, li_9, li_10, li_40, lm_1, lm_2, lm_3, lm_4, zs_ap, i32_add, i32_sub, i32_mul, i32_neg, i32_lt, i32_le, i32_eq, i32_nat, ckn, pka_r, pka_v, if_pos, if_neg, if_true, if_false, s_isState, s_isPiece, bI_t, bI_f]
  · simp (disch := omega) only [k_X11_gift_0, k_X11_gift_5, k_X11_gift_8, k_X11_gift_13, k_X11_gift_16, k_X11_gift_25, k_X11_gift_28, k_X11_gift_31, k_X11_gift_38, k_X11_gift_41, k_X11_gift_49, k_X11_gift_54, k_X11_gift_55, li_0, li_1, li_2, li_3, li_4, li_5, li_6, li_9, li_10, li_40, lm_1, lm_2, lm_3, lm_4, zs_ap, i32_add, i32_sub, i32_mul, i32_neg, i32_lt, i32_le, i32_eq, i32_nat, ckn, pka_r, pka_v, if_pos, if_neg, if_true, if_false, s_isState, s_isPiece, bI_t, bI_f]
end
