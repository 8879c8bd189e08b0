/-! NUMBERS: the machine's ints and longs as whole numbers -/
abbrev i32 (a : Int) : Int32 := Int32.ofInt a
abbrev i64 (a : Int) : Int64 := Int64.ofInt a
def R32 (a : Int) : Prop := -2147483648 ≤ a ∧ a < 2147483648
theorem i32_toInt {a : Int} (h1 : -2147483648 ≤ a) (h2 : a < 2147483648) : (i32 a).toInt = a := Int32.toInt_ofInt_of_le h1 h2
theorem i64_toInt {a : Int} (h1 : -9223372036854775808 ≤ a) (h2 : a < 9223372036854775808) : (i64 a).toInt = a := Int64.toInt_ofInt_of_le h1 h2
theorem i32_add (a b : Int) : i32 a + i32 b = i32 (a + b) := (Int32.ofInt_add a b).symm
theorem i32_sub (a b : Int) : i32 a - i32 b = i32 (a - b) := (Int32.ofInt_sub a b).symm
theorem i32_mul (a b : Int) : i32 a * i32 b = i32 (a * b) := (Int32.ofInt_mul a b).symm
theorem i32_neg (a : Int) : - i32 a = i32 (- a) := (Int32.ofInt_neg a).symm
theorem i64_add (a b : Int) : i64 a + i64 b = i64 (a + b) := (Int64.ofInt_add a b).symm
theorem i64_sub (a b : Int) : i64 a - i64 b = i64 (a - b) := (Int64.ofInt_sub a b).symm
theorem i32_lt {a b : Int} (h1 : -2147483648 ≤ a ∧ a < 2147483648) (h2 : -2147483648 ≤ b ∧ b < 2147483648) : (i32 a < i32 b) = (a < b) := by
  rw [Int32.lt_iff_toInt_lt, i32_toInt h1.1 h1.2, i32_toInt h2.1 h2.2]
theorem i32_le {a b : Int} (h1 : -2147483648 ≤ a ∧ a < 2147483648) (h2 : -2147483648 ≤ b ∧ b < 2147483648) : (i32 a ≤ i32 b) = (a ≤ b) := by
  rw [Int32.le_iff_toInt_le, i32_toInt h1.1 h1.2, i32_toInt h2.1 h2.2]
theorem i32_eq {a b : Int} (h1 : -2147483648 ≤ a ∧ a < 2147483648) (h2 : -2147483648 ≤ b ∧ b < 2147483648) : (i32 a = i32 b) = (a = b) := by
  rw [← Int32.toInt_inj, i32_toInt h1.1 h1.2, i32_toInt h2.1 h2.2]
theorem i64_lt {a b : Int} (h1 : -9223372036854775808 ≤ a ∧ a < 9223372036854775808) (h2 : -9223372036854775808 ≤ b ∧ b < 9223372036854775808) : (i64 a < i64 b) = (a < b) := by
  rw [Int64.lt_iff_toInt_lt, i64_toInt h1.1 h1.2, i64_toInt h2.1 h2.2]
theorem i64_eq {a b : Int} (h1 : -9223372036854775808 ≤ a ∧ a < 9223372036854775808) (h2 : -9223372036854775808 ≤ b ∧ b < 9223372036854775808) : (i64 a = i64 b) = (a = b) := by
  rw [← Int64.toInt_inj, i64_toInt h1.1 h1.2, i64_toInt h2.1 h2.2]
theorem i32_nat {a : Int} (h1 : -2147483648 ≤ a ∧ a < 2147483648) : (i32 a).toNatClampNeg = a.toNat := by
  show (i32 a).toInt.toNat = _
  rw [i32_toInt h1.1 h1.2]
theorem i32_of (x : Int32) : x = i32 x.toInt := (Int32.ofInt_toInt x).symm
theorem r32_of (x : Int32) : -2147483648 ≤ x.toInt ∧ x.toInt < 2147483648 := by
  have h1 := Int32.le_toInt x
  have h2 := Int32.toInt_lt x
  omega
theorem i32_to64 {a : Int} (h1 : -2147483648 ≤ a ∧ a < 2147483648) : (i32 a).toInt64 = i64 a := by
  apply Int64.toInt_inj.mp
  rw [Int32.toInt_toInt64, i32_toInt h1.1 h1.2, i64_toInt (by omega) (by omega)]
theorem cmp_lt {x y : Int64} : (lg_cmp x y < 0) = (x < y) := by
  unfold lg_cmp
  by_cases h1 : y < x
  · have h3 : ¬ x < y := fun q => Int64.lt_asymm h1 q
    simp [h1, h3]
  · by_cases h2 : x = y
    · subst h2
      simp [h1]
    · have h3 : x < y := by
        rw [Int64.lt_iff_toInt_lt] at h1 ⊢
        have : ¬ x.toInt = y.toInt := fun q => h2 (Int64.toInt_inj.mp q)
        omega
      simp [h1, h2, h3]
theorem cmp_gt {x y : Int64} : (0 < lg_cmp x y) = (y < x) := by
  unfold lg_cmp
  by_cases h1 : y < x
  · simp [h1]
  · by_cases h2 : x = y <;> simp [h1, h2]
theorem cmp_eq {x y : Int64} : (lg_cmp x y = 0) = (x = y) := by
  unfold lg_cmp
  by_cases h1 : y < x
  · have h2 : ¬ x = y := fun q => by rw [q] at h1; exact Int64.lt_irrefl h1
    simp [h1, h2]
  · by_cases h2 : x = y <;> simp [h1, h2]
theorem li_0 : (0 : Int32) = i32 0 := rfl
theorem li_1 : (1 : Int32) = i32 1 := rfl
theorem li_2 : (2 : Int32) = i32 2 := rfl
theorem li_3 : (3 : Int32) = i32 3 := rfl
theorem li_4 : (4 : Int32) = i32 4 := rfl
theorem li_5 : (5 : Int32) = i32 5 := rfl
theorem li_6 : (6 : Int32) = i32 6 := rfl
theorem li_7 : (7 : Int32) = i32 7 := rfl
theorem li_8 : (8 : Int32) = i32 8 := rfl
theorem li_9 : (9 : Int32) = i32 9 := rfl
theorem li_10 : (10 : Int32) = i32 10 := rfl
theorem li_11 : (11 : Int32) = i32 11 := rfl
theorem li_12 : (12 : Int32) = i32 12 := rfl
theorem li_13 : (13 : Int32) = i32 13 := rfl
theorem li_14 : (14 : Int32) = i32 14 := rfl
theorem li_15 : (15 : Int32) = i32 15 := rfl
theorem li_16 : (16 : Int32) = i32 16 := rfl
theorem li_20 : (20 : Int32) = i32 20 := rfl
theorem li_24 : (24 : Int32) = i32 24 := rfl
theorem li_40 : (40 : Int32) = i32 40 := rfl
theorem li_41 : (41 : Int32) = i32 41 := rfl
theorem li_48 : (48 : Int32) = i32 48 := rfl
theorem li_60 : (60 : Int32) = i32 60 := rfl
theorem li_90 : (90 : Int32) = i32 90 := rfl
theorem li_97 : (97 : Int32) = i32 97 := rfl
theorem li_99 : (99 : Int32) = i32 99 := rfl
theorem li_100 : (100 : Int32) = i32 100 := rfl
theorem li_255 : (255 : Int32) = i32 255 := rfl
theorem li_400 : (400 : Int32) = i32 400 := rfl
theorem li_999 : (999 : Int32) = i32 999 := rfl
theorem li_2000 : (2000 : Int32) = i32 2000 := rfl
theorem li_700 : (700 : Int32) = i32 700 := rfl
theorem lm_1 : (-1 : Int32) = i32 (-1) := rfl
theorem lm_2 : (-2 : Int32) = i32 (-2) := rfl
theorem lm_3 : (-3 : Int32) = i32 (-3) := rfl
theorem lm_4 : (-4 : Int32) = i32 (-4) := rfl
theorem lm_2000 : (-2000 : Int32) = i32 (-2000) := rfl
theorem lm_100000 : (-100000 : Int32) = i32 (-100000) := rfl
theorem lj_0 : (0 : Int64) = i64 0 := rfl
theorem lj_1 : (1 : Int64) = i64 1 := rfl
theorem lj_2 : (2 : Int64) = i64 2 := rfl
theorem lj_9 : (9 : Int64) = i64 9 := rfl
theorem lj_10 : (10 : Int64) = i64 10 := rfl
theorem lj_19 : (19 : Int64) = i64 19 := rfl
theorem lj_20 : (20 : Int64) = i64 20 := rfl
theorem lj_40 : (40 : Int64) = i64 40 := rfl
theorem lj_12 : (12 : Int64) = i64 12 := rfl
theorem lj_99 : (99 : Int64) = i64 99 := rfl
theorem lj_999 : (999 : Int64) = i64 999 := rfl
