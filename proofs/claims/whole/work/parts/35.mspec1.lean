/-! THE MODEL'S METHODS: what each answers -/
def zs (Z : Nat → Nat → Int) : Nat → Nat → Int32 := fun a b => i32 (Z a b)
theorem zs_ap (Z : Nat → Nat → Int) (a b : Nat) : zs Z a b = i32 (Z a b) := rfl
theorem zs_u2 (Z : Nat → Nat → Int) (h k : Nat) (v : Int) : u2 (zs Z) h k (i32 v) = zs (u2 Z h k v) := by
  funext a b
  by_cases h1 : a = h <;> by_cases h2 : b = k <;> simp [u2, zs, h1, h2]
theorem ckn {α : Type} {c : Prop} [Decidable c] {x : Option α} (h : ¬ c) : (if c then none else x) = x := if_neg h
theorem ckp {α : Type} {c : Prop} [Decidable c] {x : Option α} (h : c) : (if c then x else none) = x := if_pos h
theorem i10 : (i32 1 = i32 0) = False := eq_false (by decide)
theorem i01 : (i32 0 = i32 1) = False := eq_false (by decide)
theorem i1z : (i32 1 = 0) = False := eq_false (by decide)
theorem i0z : (i32 0 = 0) = True := eq_true (by decide)
/-- a truth as the machine has it -/
def bI (p : Prop) [Decidable p] : Int := if p then 1 else 0
theorem bI_r (p : Prop) [Decidable p] : 0 ≤ bI p ∧ bI p ≤ 1 := by unfold bI; split <;> omega
theorem bI_0 (p : Prop) [Decidable p] : (i32 (bI p) = 0) = ¬ p := by
  unfold bI
  by_cases h : p
  · rw [if_pos h, i1z]; simp [h]
  · rw [if_neg h, i0z]; simp [h]
theorem bI_01 (p : Prop) [Decidable p] : i32 (bI p) = 0 ∨ i32 (bI p) = 1 := by
  unfold bI
  by_cases h : p
  · rw [if_pos h]; exact Or.inr rfl
  · rw [if_neg h]; exact Or.inl rfl
section
variable (d : Nat) (I : Nat → Nat → Int32) (J : Nat → Nat → Int64) (Z : Nat → Nat → Int) (p0 p1 p2 p3 p4 p5 p6 p7 : Nat)
theorem s_in (a b c : Int64) : Mean (d + 1) 139 [.long a, .long b, .long c] (176, I, J, RP p0 p1 p2 p3 p4 p5 p6 p7) = some (some (.int (if b ≤ a ∧ a ≤ c then 1 else 0)), (176, I, J, RP p0 p1 p2 p3 p4 p5 p6 p7)) := by
  rw [e_X11_in, k_X11_in_0]
  simp only [cmp_lt, cmp_gt, k_X11_in_17, k_X11_in_6, k_X11_in_13, k_X11_in_18]
  by_cases h1 : a < b
  · have h2 : ¬ b ≤ a := Int64.not_le.mpr h1
    simp [h1, h2]
  · have h2 : b ≤ a := Int64.not_lt.mp h1
    by_cases h3 : c < a
    · have h4 : ¬ a ≤ c := Int64.not_le.mpr h3
      simp [h1, h3, h4]
    · have h4 : a ≤ c := Int64.not_lt.mp h3
      simp [h1, h2, h3, h4]
theorem s_inZ {a b c : Int} (ha : -4000000000 ≤ a ∧ a < 4000000000) (hb : -4000000000 ≤ b ∧ b < 4000000000) (hc : -4000000000 ≤ c ∧ c < 4000000000) : Mean (d + 1) 139 [.long (i64 a), .long (i64 b), .long (i64 c)] (176, I, J, RP p0 p1 p2 p3 p4 p5 p6 p7) = some (some (.int (i32 (bI (b ≤ a ∧ a ≤ c)))), (176, I, J, RP p0 p1 p2 p3 p4 p5 p6 p7)) := by
  rw [s_in]
  have e1 : (i64 b ≤ i64 a) = (b ≤ a) := by rw [Int64.le_iff_toInt_le, i64_toInt (by omega) (by omega), i64_toInt (by omega) (by omega)]
  have e2 : (i64 a ≤ i64 c) = (a ≤ c) := by rw [Int64.le_iff_toInt_le, i64_toInt (by omega) (by omega), i64_toInt (by omega) (by omega)]
  simp only [e1, e2]
  unfold bI
  split <;> rfl
theorem s_isState {s : Int} (hs : -2147483648 ≤ s ∧ s < 2147483648) (hz : -2147483648 ≤ Z 140 49 ∧ Z 140 49 < 2147483648) : Mean (d + 2) 172 [.ref 140, .int (i32 s)] (176, zs Z, J, RP p0 p1 p2 p3 p4 p5 p6 p7) = some (some (.int (i32 (bI (0 ≤ s ∧ s ≤ Z 140 49 - 1)))), (176, zs Z, J, RP p0 p1 p2 p3 p4 p5 p6 p7)) := by
  rw [e_X11_isState, k_X11_isState_0]
  simp (disch := omega) only [zs_ap, i32_to64, lj_0, lj_1, i64_sub, s_inZ, pka_r, k_X11_isState_13]
  unfold bI
  split <;> rfl
theorem s_isSide {s : Int} (hs : -2147483648 ≤ s ∧ s < 2147483648) (hz : -2147483648 ≤ Z 140 10 ∧ Z 140 10 < 2147483648) : Mean (d + 2) 173 [.ref 140, .int (i32 s)] (176, zs Z, J, RP p0 p1 p2 p3 p4 p5 p6 p7) = some (some (.int (i32 (bI (0 ≤ s ∧ s ≤ Z 140 10 - 1)))), (176, zs Z, J, RP p0 p1 p2 p3 p4 p5 p6 p7)) := by
  rw [e_X11_isSide, k_X11_isSide_0]
  simp (disch := omega) only [zs_ap, i32_to64, lj_0, lj_1, i64_sub, s_inZ, pka_r, k_X11_isSide_13, ckp (bI_01 _)]
theorem s_isPiece {s : Int} (hs : -2147483648 ≤ s ∧ s < 2147483648) (hz : -2147483648 ≤ Z 140 11 ∧ Z 140 11 < 2147483648) : Mean (d + 2) 174 [.ref 140, .int (i32 s)] (176, zs Z, J, RP p0 p1 p2 p3 p4 p5 p6 p7) = some (some (.int (i32 (bI (0 ≤ s ∧ s ≤ Z 140 11 - 1)))), (176, zs Z, J, RP p0 p1 p2 p3 p4 p5 p6 p7)) := by
  rw [e_X11_isPiece, k_X11_isPiece_0]
  simp (disch := omega) only [zs_ap, i32_to64, lj_0, lj_1, i64_sub, s_inZ, pka_r, k_X11_isPiece_13, ckp (bI_01 _)]
def mGoal (Z : Nat → Nat → Int) (i : Int) : Int := Z 160 (3 * Z 140 51 + i).toNat + Z 146 i.toNat
theorem s_goalOf {i : Int} (hi : 0 ≤ i ∧ i < 3) (hf : 0 ≤ Z 140 51 ∧ Z 140 51 < 400) : Mean (d + 1) 175 [.ref 140, .int (i32 i)] (176, zs Z, J, RP p0 p1 p2 p3 p4 p5 p6 p7) = some (some (.int (i32 (mGoal Z i))), (176, zs Z, J, RP p0 p1 p2 p3 p4 p5 p6 p7)) := by
  rw [e_X11_goalOf, k_X11_goalOf_0]
  simp (disch := omega) only [li_0, li_1, li_2, li_3, li_4, li_5, li_6, li_9, li_10, li_40, lm_1, lm_2, lm_3, lm_4, zs_ap, i32_add, i32_sub, i32_mul, i32_neg, i32_lt, i32_nat, ckn, k_X11_goalOf_13, k_X11_goalOf_19]
  rfl
def mMay (Z : Nat → Nat → Int) (s k q : Int) : Bool := if Z 148 k.toNat = 0 then decide ((1 ≤ q ∧ q ≤ Z 140 13) ∧ q ≤ Z 159 (6 * s + k).toNat - Z 144 k.toNat) else decide (0 < q ∧ q = Z 159 (6 * s + k).toNat - Z 144 k.toNat)
def bB (b : Bool) : Int := bif b then 1 else 0
theorem bB_01 (b : Bool) : i32 (bB b) = 0 ∨ i32 (bB b) = 1 := by cases b; exact Or.inl rfl; exact Or.inr rfl
theorem s_mayGive {s k q : Int} (hs : 0 ≤ s ∧ s < 400) (hk : 0 ≤ k ∧ k < 6) (hq : -2147483648 ≤ q ∧ q < 2147483648) (h1 : -1000 ≤ Z 159 (6 * s + k).toNat ∧ Z 159 (6 * s + k).toNat < 1000) (h2 : -1000 ≤ Z 144 k.toNat ∧ Z 144 k.toNat < 1000) (h3 : -2147483648 ≤ Z 148 k.toNat ∧ Z 148 k.toNat < 2147483648) (h4 : -1000 ≤ Z 140 13 ∧ Z 140 13 < 1000) :
    Mean (d + 2) 180 [.ref 140, .int (i32 s), .int (i32 k), .int (i32 q)] (176, zs Z, J, RP p0 p1 p2 p3 p4 p5 p6 p7) = some (some (.int (i32 (bB (mMay Z s k q)))), (176, zs Z, J, RP p0 p1 p2 p3 p4 p5 p6 p7)) := by
  rw [e_X11_mayGive, k_X11_mayGive_0]
  simp (disch := omega) only [k_X11_mayGive_0, k_X11_mayGive_11, k_X11_mayGive_17, k_X11_mayGive_26, k_X11_mayGive_29, k_X11_mayGive_33, k_X11_mayGive_39, k_X11_mayGive_43, k_X11_mayGive_47, k_X11_mayGive_58, k_X11_mayGive_61, k_X11_mayGive_67, k_X11_mayGive_71, k_X11_mayGive_72, li_0, li_1, li_2, li_3, li_4, li_5, li_6, li_9, li_10, li_40, lm_1, lm_2, lm_3, lm_4, zs_ap, i32_add, i32_sub, i32_mul, i32_neg, i32_lt, i32_le, i32_eq, i32_nat, ckn, i32_to64, lj_1, s_inZ, pka_r]
  unfold mMay bI bB
  by_cases c1 : Z 148 k.toNat = 0
  · by_cases c2 : 1 ≤ q ∧ q ≤ Z 140 13
    · by_cases c3 : q ≤ Z 159 (6 * s + k).toNat - Z 144 k.toNat
      · simp [c1, c2, c3, i10, show ¬ (Z 159 (6 * s + k).toNat - Z 144 k.toNat < q) by omega]
      · simp [c1, c2, c3, i10, show (Z 159 (6 * s + k).toNat - Z 144 k.toNat < q) by omega]
    · simp [c1, c2, i10]
  · by_cases c2 : 0 < q
    · by_cases c3 : q = Z 159 (6 * s + k).toNat - Z 144 k.toNat
      · simp [c1, c2, eq_true c3, show ¬ (q ≤ 0) by omega]
      · simp [c1, c2, c3, show ¬ (q ≤ 0) by omega]
    · simp [c1, c2, show (q ≤ 0) by omega]
end
