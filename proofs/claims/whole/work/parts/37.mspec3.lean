/-! THE MODEL'S METHODS, 3: who would stop -/
def mOne (w : Int) : Int := if w = 5 then 1 else if w < 3 then w else 0
def mTwo (w : Int) : Int := if w < 3 then w else if w = 3 then 1 else 2
theorem mOne_r {w : Int} (h : 0 ≤ w ∧ w < 6) : 0 ≤ mOne w ∧ mOne w < 3 := by unfold mOne; split <;> (try split) <;> omega
theorem mTwo_r {w : Int} (h : 0 ≤ w ∧ w < 6) : 0 ≤ mTwo w ∧ mTwo w < 3 := by unfold mTwo; split <;> (try split) <;> omega
def mCnt (Z : Nat → Nat → Int) (w : Int) : Bool := if w < 3 then decide (w < Z 140 10) else (!decide (Z 140 24 = 0)) && decide (mTwo w < Z 140 10)
def mShort (Z : Nat → Nat → Int) (i st : Int) : Int := st - Z 147 i.toNat - Z 161 i.toNat - mGoal Z i
def mMore (Z : Nat → Nat → Int) (s w : Int) : Int := if mOne w = mTwo w then mShort Z (mOne w) (Z 160 (3 * s + mOne w).toNat) else mShort Z (mOne w) (Z 160 (3 * s + mOne w).toNat) + mShort Z (mTwo w) (Z 160 (3 * s + mTwo w).toNat)
def mWould (Z : Nat → Nat → Int) (s w n : Int) : Bool := decide (0 < mMore Z s w + (if w < 3 then n else 2 * n) * Z 140 12)
/-- the numbers that stopping stands on are small -/
def mSm (Z : Nat → Nat → Int) : Prop := (∀ j : Nat, j < 1200 → -200000 ≤ Z 160 j ∧ Z 160 j ≤ 200000) ∧ (∀ j : Nat, j < 3 → (-2000 ≤ Z 146 j ∧ Z 146 j ≤ 2000) ∧ (-2000 ≤ Z 147 j ∧ Z 147 j ≤ 2000) ∧ (-200000 ≤ Z 161 j ∧ Z 161 j ≤ 200000)) ∧ (0 ≤ Z 140 12 ∧ Z 140 12 ≤ 99) ∧ (0 ≤ Z 140 51 ∧ Z 140 51 < 400) ∧ (2 ≤ Z 140 10 ∧ Z 140 10 ≤ 3) ∧ (0 ≤ Z 140 24 ∧ Z 140 24 ≤ 1)
theorem mGoal_b {Z : Nat → Nat → Int} (h : mSm Z) {i : Int} (hi : 0 ≤ i ∧ i < 3) : -202000 ≤ mGoal Z i ∧ mGoal Z i ≤ 202000 := by
  have h4 := h.2.2.2.1
  have h1 := h.1 (3 * Z 140 51 + i).toNat (by omega)
  have h2 := (h.2.1 i.toNat (by omega)).1
  unfold mGoal
  omega
theorem mShort_b {Z : Nat → Nat → Int} (h : mSm Z) {i st : Int} (hi : 0 ≤ i ∧ i < 3) (hs : -200000 ≤ st ∧ st ≤ 200000) : -700000 ≤ mShort Z i st ∧ mShort Z i st ≤ 700000 := by
  have h1 := mGoal_b h hi
  have h2 := h.2.1 i.toNat (by omega)
  unfold mShort
  omega
theorem mMore_b {Z : Nat → Nat → Int} (h : mSm Z) {s w : Int} (hs : 0 ≤ s ∧ s < 400) (hw : 0 ≤ w ∧ w < 6) : -1400000 ≤ mMore Z s w ∧ mMore Z s w ≤ 1400000 := by
  have h1 := mOne_r hw
  have h2 := mTwo_r hw
  have h3 := mShort_b h h1 (h.1 (3 * s + mOne w).toNat (by omega))
  have h4 := mShort_b h h2 (h.1 (3 * s + mTwo w).toNat (by omega))
  unfold mMore
  split <;> omega
theorem bB_0 (b : Bool) : (i32 (bB b) = 0) = (b = false) := by
  cases b
  · exact (eq_true rfl).trans (eq_true rfl).symm
  · rw [show i32 (bB true) = i32 1 from rfl, i1z]; simp
theorem bB_dec (p : Prop) [Decidable p] : bB (decide p) = bI p := by
  unfold bB bI
  by_cases h : p <;> simp [h]
section
variable (d : Nat) (I : Nat → Nat → Int32) (J : Nat → Nat → Int64) (Z : Nat → Nat → Int) (p0 p1 p2 p3 p4 p5 p6 p7 : Nat)
theorem s_oneOf {w : Int} (hw : 0 ≤ w ∧ w < 6) : Mean (d + 1) 182 [.int (i32 w)] (176, I, J, RP p0 p1 p2 p3 p4 p5 p6 p7) = some (some (.int (i32 (mOne w))), (176, I, J, RP p0 p1 p2 p3 p4 p5 p6 p7)) := by
  rw [e_X11_oneOf]
  simp (disch := omega) only [k_X11_oneOf_0, k_X11_oneOf_5, k_X11_oneOf_9, k_X11_oneOf_14, k_X11_oneOf_18, k_X11_oneOf_19, li_0, li_1, li_2, li_3, li_4, li_5, li_6, li_9, li_10, li_40, lm_1, lm_2, lm_3, lm_4, i32_eq, i32_le]
  unfold mOne
  by_cases c1 : w = 5
  · rw [if_pos c1, if_pos c1]
  · rw [if_neg c1, if_neg c1]
    by_cases c2 : w < 3
    · rw [if_neg (by omega), if_pos c2]
    · rw [if_pos (by omega), if_neg c2]
theorem s_twoOf {w : Int} (hw : 0 ≤ w ∧ w < 6) : Mean (d + 1) 183 [.int (i32 w)] (176, I, J, RP p0 p1 p2 p3 p4 p5 p6 p7) = some (some (.int (i32 (mTwo w))), (176, I, J, RP p0 p1 p2 p3 p4 p5 p6 p7)) := by
  rw [e_X11_twoOf]
  simp (disch := omega) only [k_X11_twoOf_0, k_X11_twoOf_5, k_X11_twoOf_9, k_X11_twoOf_14, k_X11_twoOf_18, k_X11_twoOf_19, li_0, li_1, li_2, li_3, li_4, li_5, li_6, li_9, li_10, li_40, lm_1, lm_2, lm_3, lm_4, i32_eq, i32_le]
  unfold mTwo
  by_cases c2 : w < 3
  · rw [if_neg (by omega), if_pos c2]
  · rw [if_pos (by omega), if_neg c2]
    by_cases c1 : w = 3
    · rw [if_pos c1, if_pos c1]
    · rw [if_neg c1, if_neg c1]
theorem s_counts (h : mSm Z) {w : Int} (hw : 0 ≤ w ∧ w < 6) : Mean (d + 2) 184 [.ref 140, .int (i32 w)] (176, zs Z, J, RP p0 p1 p2 p3 p4 p5 p6 p7) = some (some (.int (i32 (bB (mCnt Z w)))), (176, zs Z, J, RP p0 p1 p2 p3 p4 p5 p6 p7)) := by
  have h1 := h.2.2.2.2.1
  have h2 := h.2.2.2.2.2
  have h3 := mTwo_r hw
  rw [e_X11_counts]
  simp (disch := omega) only [k_X11_counts_0, k_X11_counts_5, k_X11_counts_13, k_X11_counts_17, k_X11_counts_21, k_X11_counts_28, k_X11_counts_32, k_X11_counts_39, k_X11_counts_43, k_X11_counts_44, zs_ap, li_0, li_1, li_2, li_3, li_4, li_5, li_6, li_9, li_10, li_40, lm_1, lm_2, lm_3, lm_4, i32_eq, i32_le, s_twoOf, pka_r]
  unfold mCnt bB
  by_cases c1 : w < 3
  · rw [if_neg (by omega), if_pos c1]
    by_cases c2 : w < Z 140 10
    · rw [if_neg (by omega)]; simp [c2]
    · rw [if_pos (by omega)]; simp [c2]
  · rw [if_pos (by omega), if_neg c1]
    by_cases c2 : Z 140 24 = 0
    · rw [if_pos c2]; simp [c2]
    · rw [if_neg c2]
      by_cases c3 : mTwo w < Z 140 10
      · rw [if_neg (by omega)]; simp [c2, c3]
      · rw [if_pos (by omega)]; simp [c2, c3]
theorem s_shortOf (h : mSm Z) {i st : Int} (hi : 0 ≤ i ∧ i < 3) : Mean (d + 2) 185 [.ref 140, .int (i32 i), .int (i32 st)] (176, zs Z, J, RP p0 p1 p2 p3 p4 p5 p6 p7) = some (some (.int (i32 (mShort Z i st))), (176, zs Z, J, RP p0 p1 p2 p3 p4 p5 p6 p7)) := by
  have h1 := h.2.2.2.1
  rw [e_X11_shortOf]
  simp (disch := omega) only [k_X11_shortOf_0, k_X11_shortOf_7, k_X11_shortOf_14, k_X11_shortOf_20, li_0, li_1, li_2, li_3, li_4, li_5, li_6, li_9, li_10, li_40, lm_1, lm_2, lm_3, lm_4, zs_ap, i32_add, i32_sub, i32_mul, i32_neg, i32_lt, i32_nat, ckn, s_goalOf, pka_r]
  rfl
theorem s_more (h : mSm Z) {s w : Int} (hs : 0 ≤ s ∧ s < 400) (hw : 0 ≤ w ∧ w < 6) : Mean (d + 3) 186 [.ref 140, .int (i32 s), .int (i32 w)] (176, zs Z, J, RP p0 p1 p2 p3 p4 p5 p6 p7) = some (some (.int (i32 (mMore Z s w))), (176, zs Z, J, RP p0 p1 p2 p3 p4 p5 p6 p7)) := by
  have h1 := mOne_r hw
  have h2 := mTwo_r hw
  rw [e_X11_more]
  simp (disch := omega) only [k_X11_more_0, k_X11_more_4, k_X11_more_9, k_X11_more_23, k_X11_more_26, k_X11_more_34, k_X11_more_39, k_X11_more_55, k_X11_more_58, k_X11_more_59, s_oneOf, s_twoOf, pka_r, li_0, li_1, li_2, li_3, li_4, li_5, li_6, li_9, li_10, li_40, lm_1, lm_2, lm_3, lm_4, zs_ap, i32_add, i32_sub, i32_mul, i32_neg, i32_lt, i32_nat, ckn, s_shortOf _ _ _ _ _ _ _ _ _ _ _ h, i32_eq]
  unfold mMore
  by_cases c : mOne w = mTwo w
  · rw [if_pos c, if_pos c]
  · rw [if_neg c, if_neg c]
theorem s_wouldStop (h : mSm Z) {s w n : Int} (hs : 0 ≤ s ∧ s < 400) (hw : 0 ≤ w ∧ w < 6) (hn : 0 ≤ n ∧ n ≤ 40) : Mean (d + 4) 187 [.ref 140, .int (i32 s), .int (i32 w), .int (i32 n)] (176, zs Z, J, RP p0 p1 p2 p3 p4 p5 p6 p7) = some (some (.int (i32 (bB (mWould Z s w n)))), (176, zs Z, J, RP p0 p1 p2 p3 p4 p5 p6 p7)) := by
  have h1 := mMore_b h hs hw
  have h2 := h.2.2.1
  have hm := mul_b (a := n) (b := Z 140 12) (A := 40) (B := 99) (by omega) (by omega) h2.1 h2.2 (by omega)
  have hm2 := mul_b (a := 2 * n) (b := Z 140 12) (A := 80) (B := 99) (by omega) (by omega) h2.1 h2.2 (by omega)
  rw [e_X11_wouldStop]
  simp (disch := omega) only [k_X11_wouldStop_0, k_X11_wouldStop_6, k_X11_wouldStop_11, k_X11_wouldStop_15, k_X11_wouldStop_18, k_X11_wouldStop_27, k_X11_wouldStop_31, k_X11_wouldStop_32, s_more _ _ _ _ _ _ _ _ _ _ _ h, pka_r, li_0, li_1, li_2, li_3, li_4, li_5, li_6, li_9, li_10, li_40, lm_1, lm_2, lm_3, lm_4, zs_ap, i32_add, i32_sub, i32_mul, i32_neg, i32_le]
  unfold mWould bB
  by_cases c : w < 3
  · rw [if_neg (by omega)]
    simp only [c, if_true]
    by_cases c2 : 0 < mMore Z s w + n * Z 140 12
    · rw [if_neg (by omega)]; simp [c2]
    · rw [if_pos (by omega)]; simp [c2]
  · rw [if_pos (by omega)]
    simp only [c, if_false]
    by_cases c2 : 0 < mMore Z s w + 2 * n * Z 140 12
    · rw [if_neg (by omega)]; simp [c2]
    · rw [if_pos (by omega)]; simp [c2]
end
