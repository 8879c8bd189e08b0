/-! THE MODEL'S METHODS, 2: a stop's worth -/
theorem i32_div {a b : Int} (ha : -2147483648 < a ∧ a < 2147483648) (hb : -2147483648 ≤ b ∧ b < 2147483648) : i32 a / i32 b = i32 (a.tdiv b) := by
  have e : Int32.minValue.toInt = -2147483648 := by decide
  have e2 : Int32.maxValue.toInt = 2147483647 := by decide
  exact (Int32.ofInt_tdiv (by rw [e]; omega) (by rw [e2]; omega) (by rw [e]; omega) (by rw [e2]; omega)).symm
/-- one piece's part of what a side has -/
def mTerm (Z : Nat → Nat → Int) (own oth i k : Int) : Int := (Z 145 (3 * k + i).toNat * Z 159 (6 * (if Z 142 k.toNat = i then own else oth) + k).toNat).tdiv (Z 143 k.toNat)
def mSum (Z : Nat → Nat → Int) (own oth i : Int) : Nat → Int
  | 0 => 0
  | n + 1 => mSum Z own oth i n + mTerm Z own oth i n
/-- what a told matter is, as the model holds it -/
def mOK (Z : Nat → Nat → Int) (P : Nat) : Prop := Z 140 11 = P ∧ P ≤ 6 ∧ (2 ≤ Z 140 10 ∧ Z 140 10 ≤ 3) ∧ (∀ j : Nat, j < 18 → -2000 ≤ Z 145 j ∧ Z 145 j ≤ 2000) ∧ (∀ j : Nat, j < 2400 → 0 ≤ Z 159 j ∧ Z 159 j ≤ 9) ∧ (∀ k : Nat, k < 6 → 0 ≤ Z 142 k ∧ Z 142 k ≤ 2) ∧ ∀ k : Nat, k < P → 1 ≤ Z 143 k ∧ Z 143 k ≤ 9
theorem tdiv_b {a b c : Int} (h1 : -c ≤ a) (h2 : a ≤ c) (hb : 1 ≤ b) : -c ≤ a.tdiv b ∧ a.tdiv b ≤ c := by
  rcases Int.le_total 0 a with h | h
  · have h3 := Int.tdiv_nonneg h (by omega : (0 : Int) ≤ b)
    have h4 : a.tdiv b ≤ a := Int.tdiv_le_self b h
    omega
  · have e : a.tdiv b = -((-a).tdiv b) := by rw [Int.neg_tdiv, Int.neg_neg]
    have h3 := Int.tdiv_nonneg (show (0 : Int) ≤ -a by omega) (by omega : (0 : Int) ≤ b)
    have h4 : (-a).tdiv b ≤ -a := Int.tdiv_le_self b (by omega)
    omega
theorem mul_b {a b A B : Int} (h1 : -A ≤ a) (h2 : a ≤ A) (h3 : 0 ≤ b) (h4 : b ≤ B) (hA : 0 ≤ A) : -(A * B) ≤ a * b ∧ a * b ≤ A * B := by
  have h5 : a * b ≤ A * b := Int.mul_le_mul_of_nonneg_right h2 h3
  have h6 : A * b ≤ A * B := Int.mul_le_mul_of_nonneg_left h4 hA
  have h7 : -A * b ≤ a * b := Int.mul_le_mul_of_nonneg_right h1 h3
  have h8 : -A * b = -(A * b) := Int.neg_mul A b
  omega
section
variable (d : Nat) (J : Nat → Nat → Int64) (Z : Nat → Nat → Int) (p0 p1 p2 p3 p4 p5 p6 p7 : Nat)
theorem mTerm_b {P : Nat} (h : mOK Z P) {own oth i : Int} {k : Nat} (ho : 0 ≤ own ∧ own < 400) (ht : 0 ≤ oth ∧ oth < 400) (hi : 0 ≤ i ∧ i < 3) (hk : k < P) : -18000 ≤ mTerm Z own oth i k ∧ mTerm Z own oth i k ≤ 18000 := by
  obtain ⟨h1, h2, h3, h4, h5, h6, h7⟩ := h
  unfold mTerm
  have hp := h7 k hk
  have hkk : (k : Int).toNat = k := by omega
  rw [hkk]
  have hw := h4 (3 * (k : Int) + i).toNat (by omega)
  have hh := h5 (6 * (if Z 142 k = i then own else oth) + (k : Int)).toNat (by split <;> omega)
  have hm := mul_b hw.1 hw.2 hh.1 hh.2 (by omega)
  exact tdiv_b (by omega) (by omega) hp.1
theorem mSum_b {P : Nat} (h : mOK Z P) {own oth i : Int} (ho : 0 ≤ own ∧ own < 400) (ht : 0 ≤ oth ∧ oth < 400) (hi : 0 ≤ i ∧ i < 3) : ∀ n : Nat, n ≤ P → -18000 * n ≤ mSum Z own oth i n ∧ mSum Z own oth i n ≤ 18000 * n
  | 0, _ => by simp [mSum]
  | n + 1, hn => by
    have h1 := mSum_b h ho ht hi n (by omega)
    have h2 := mTerm_b Z h ho ht hi (k := n) (by omega)
    simp only [mSum]
    omega
theorem l_stopBy (C : pC) {P : Nat} (h : mOK Z P) {own oth i : Int} (ho : 0 ≤ own ∧ own < 400) (ht : 0 ≤ oth ∧ oth < 400) (hi : 0 ≤ i ∧ i < 3) : ∀ (j k : Nat), k + j = P →
    den none C (some .int) tQ_X11_stopBy (6, [some (.ref 140), some (.int (i32 own)), some (.int (i32 oth)), some (.int (i32 i)), some (.int (i32 (mSum Z own oth i k))), some (.int (i32 (k : Int)))], [], 176, zs Z, J, RP p0 p1 p2 p3 p4 p5 p6 p7) = some (some (.int (i32 (mSum Z own oth i P))), (176, zs Z, J, RP p0 p1 p2 p3 p4 p5 p6 p7)) := by
  intro j
  induction j with
  | zero =>
    intro k hk
    have hk' : k = P := by omega
    subst hk'
    have h1 := h.1
    have h2 := h.2.1
    rw [k_X11_stopBy_6]
    simp (disch := omega) only [zs_ap, h1, i32_le]
    rw [if_pos (Int.le_refl _), k_X11_stopBy_73]
  | succ j ih =>
    intro k hk
    have hkP : k < P := by omega
    have h1 := h.1
    have h2 := h.2.1
    have hp := h.2.2.2.2.2.2 k hkP
    have hsd := h.2.2.2.2.2.1 k (by omega)
    have hw := h.2.2.2.1 (3 * (k : Int) + i).toNat (by omega)
    have ho' := h.2.2.2.2.1 (6 * own + (k : Int)).toNat (by omega)
    have ht' := h.2.2.2.2.1 (6 * oth + (k : Int)).toNat (by omega)
    have hm1 := mul_b hw.1 hw.2 ho'.1 ho'.2 (by omega)
    have hm2 := mul_b hw.1 hw.2 ht'.1 ht'.2 (by omega)
    have hkk : (k : Int).toNat = k := by omega
    have hstep := ih (k + 1) (by omega)
    rw [k_X11_stopBy_6]
    simp (disch := omega) only [zs_ap, h1, i32_le]
    rw [if_neg (by omega), k_X11_stopBy_15]
    simp (disch := omega) only [li_0, li_1, li_2, li_3, li_4, li_5, li_6, li_9, li_10, li_40, lm_1, lm_2, lm_3, lm_4, zs_ap, i32_add, i32_sub, i32_mul, i32_neg, i32_lt, i32_nat, ckn, k_X11_stopBy_28, hkk, k_X11_stopBy_41, i32_eq]
    by_cases hc : Z 142 k = i
    · rw [if_pos hc]
      simp (disch := omega) only [k_X11_stopBy_45, k_X11_stopBy_50, li_0, li_1, li_2, li_3, li_4, li_5, li_6, li_9, li_10, li_40, lm_1, lm_2, lm_3, lm_4, zs_ap, i32_add, i32_sub, i32_mul, i32_neg, i32_lt, i32_eq, i32_nat, ckn, hkk, k_X11_stopBy_55, k_X11_stopBy_63, i32_div, k_X11_stopBy_64]
      have e : mSum Z own oth i k + (Z 145 (3 * (k : Int) + i).toNat * Z 159 (6 * own + (k : Int)).toNat).tdiv (Z 143 k) = mSum Z own oth i (k + 1) := by
        simp only [mSum, mTerm, hkk, hc, if_true]
      rw [e]
      exact hstep
    · rw [if_neg hc]
      simp (disch := omega) only [k_X11_stopBy_49, k_X11_stopBy_50, li_0, li_1, li_2, li_3, li_4, li_5, li_6, li_9, li_10, li_40, lm_1, lm_2, lm_3, lm_4, zs_ap, i32_add, i32_sub, i32_mul, i32_neg, i32_lt, i32_eq, i32_nat, ckn, hkk, k_X11_stopBy_55, k_X11_stopBy_63, i32_div, k_X11_stopBy_64]
      have e : mSum Z own oth i k + (Z 145 (3 * (k : Int) + i).toNat * Z 159 (6 * oth + (k : Int)).toNat).tdiv (Z 143 k) = mSum Z own oth i (k + 1) := by
        simp only [mSum, mTerm, hkk, hc, if_false]
      rw [e]
      exact hstep
theorem s_stopBy {P : Nat} (h : mOK Z P) {own oth i : Int} (ho : 0 ≤ own ∧ own < 400) (ht : 0 ≤ oth ∧ oth < 400) (hi : 0 ≤ i ∧ i < 3) : Mean (d + 1) 171 [.ref 140, .int (i32 own), .int (i32 oth), .int (i32 i)] (176, zs Z, J, RP p0 p1 p2 p3 p4 p5 p6 p7) = some (some (.int (i32 (mSum Z own oth i P))), (176, zs Z, J, RP p0 p1 p2 p3 p4 p5 p6 p7)) := by
  rw [e_X11_stopBy, k_X11_stopBy_0]
  exact l_stopBy J Z p0 p1 p2 p3 p4 p5 p6 p7 _ h ho ht hi P 0 (by omega)
end
