/-! THE CLASS: Arrays.fill, THE TAPE -/
theorem ci3 : Int32.ofNat 3 = i32 3 := rfl
def fl3 {α : Type} (g : Nat → Nat → α) (a : Nat) (v : α) : Nat → Nat → α := u2 (u2 (u2 g a 0 v) a 1 v) a 2 v
section
variable {d : Nat} {I : Nat → Nat → Int32} {J : Nat → Nat → Int64} {Z : Nat → Nat → Int} {p0 p1 p2 p3 p4 p5 p6 p7 : Nat}
theorem h_fillI {g : Nat} (hg : pshn g = some (.inl (.int, 3))) (v : Int) : Mean (d + 1) 237 [.ref g, .int (i32 v)] (176, zs Z, J, RP p0 p1 p2 p3 p4 p5 p6 p7) = some (none, (176, zs (fl3 Z g v), J, RP p0 p1 p2 p3 p4 p5 p6 p7)) := by
  rw [e_J_fillI, k_J_fillI_0 _ _ _ _ _ _ _ _ _ _ _ _ _ _ _ hg, k_J_fillI_4, ci3, k_J_fillI_5]
  simp (disch := omega) only [k_J_fillI_0, k_J_fillI_4, k_J_fillI_10, k_J_fillI_14, k_J_fillI_20, li_0, li_1, li_2, li_3, li_4, li_5, li_6, li_9, li_10, li_40, lm_1, lm_2, lm_3, lm_4, zs_ap, i32_add, i32_sub, i32_mul, i32_neg, i32_lt, i32_le, i32_eq, i32_nat, ckn, pka_r, pka_v, if_pos, if_neg, if_true, if_false, k_J_fillI_10 _ _ _ _ _ _ _ _ _ _ _ _ _ _ _ hg, zs_u2]
  rw [k_J_fillI_5]
  simp (disch := omega) only [k_J_fillI_0, k_J_fillI_4, k_J_fillI_10, k_J_fillI_14, k_J_fillI_20, li_0, li_1, li_2, li_3, li_4, li_5, li_6, li_9, li_10, li_40, lm_1, lm_2, lm_3, lm_4, zs_ap, i32_add, i32_sub, i32_mul, i32_neg, i32_lt, i32_le, i32_eq, i32_nat, ckn, pka_r, pka_v, if_pos, if_neg, if_true, if_false, k_J_fillI_10 _ _ _ _ _ _ _ _ _ _ _ _ _ _ _ hg, zs_u2]
  rw [k_J_fillI_5]
  simp (disch := omega) only [k_J_fillI_0, k_J_fillI_4, k_J_fillI_10, k_J_fillI_14, k_J_fillI_20, li_0, li_1, li_2, li_3, li_4, li_5, li_6, li_9, li_10, li_40, lm_1, lm_2, lm_3, lm_4, zs_ap, i32_add, i32_sub, i32_mul, i32_neg, i32_lt, i32_le, i32_eq, i32_nat, ckn, pka_r, pka_v, if_pos, if_neg, if_true, if_false, k_J_fillI_10 _ _ _ _ _ _ _ _ _ _ _ _ _ _ _ hg, zs_u2]
  rw [k_J_fillI_5]
  simp (disch := omega) only [k_J_fillI_0, k_J_fillI_4, k_J_fillI_10, k_J_fillI_14, k_J_fillI_20, li_0, li_1, li_2, li_3, li_4, li_5, li_6, li_9, li_10, li_40, lm_1, lm_2, lm_3, lm_4, zs_ap, i32_add, i32_sub, i32_mul, i32_neg, i32_lt, i32_le, i32_eq, i32_nat, ckn, pka_r, pka_v, if_pos, if_neg, if_true, if_false, zs_u2]
  rfl
theorem h_fillJ {g : Nat} (hg : pshn g = some (.inl (.long, 3))) (v : Int64) : Mean (d + 1) 238 [.ref g, .long v] (176, zs Z, J, RP p0 p1 p2 p3 p4 p5 p6 p7) = some (none, (176, zs Z, fl3 J g v, RP p0 p1 p2 p3 p4 p5 p6 p7)) := by
  rw [e_J_fillJ, k_J_fillJ_0 _ _ _ _ _ _ _ _ _ _ _ _ _ _ _ hg, k_J_fillJ_4, ci3, k_J_fillJ_6]
  simp (disch := omega) only [k_J_fillJ_0, k_J_fillJ_4, k_J_fillJ_12, k_J_fillJ_16, k_J_fillJ_22, li_0, li_1, li_2, li_3, li_4, li_5, li_6, li_9, li_10, li_40, lm_1, lm_2, lm_3, lm_4, zs_ap, i32_add, i32_sub, i32_mul, i32_neg, i32_lt, i32_le, i32_eq, i32_nat, ckn, pka_r, pka_v, if_pos, if_neg, if_true, if_false, k_J_fillJ_12 _ _ _ _ _ _ _ _ _ _ _ _ _ _ _ hg]
  rw [k_J_fillJ_6]
  simp (disch := omega) only [k_J_fillJ_0, k_J_fillJ_4, k_J_fillJ_12, k_J_fillJ_16, k_J_fillJ_22, li_0, li_1, li_2, li_3, li_4, li_5, li_6, li_9, li_10, li_40, lm_1, lm_2, lm_3, lm_4, zs_ap, i32_add, i32_sub, i32_mul, i32_neg, i32_lt, i32_le, i32_eq, i32_nat, ckn, pka_r, pka_v, if_pos, if_neg, if_true, if_false, k_J_fillJ_12 _ _ _ _ _ _ _ _ _ _ _ _ _ _ _ hg]
  rw [k_J_fillJ_6]
  simp (disch := omega) only [k_J_fillJ_0, k_J_fillJ_4, k_J_fillJ_12, k_J_fillJ_16, k_J_fillJ_22, li_0, li_1, li_2, li_3, li_4, li_5, li_6, li_9, li_10, li_40, lm_1, lm_2, lm_3, lm_4, zs_ap, i32_add, i32_sub, i32_mul, i32_neg, i32_lt, i32_le, i32_eq, i32_nat, ckn, pka_r, pka_v, if_pos, if_neg, if_true, if_false, k_J_fillJ_12 _ _ _ _ _ _ _ _ _ _ _ _ _ _ _ hg]
  rw [k_J_fillJ_6]
  simp (disch := omega) only [k_J_fillJ_0, k_J_fillJ_4, k_J_fillJ_12, k_J_fillJ_16, k_J_fillJ_22, li_0, li_1, li_2, li_3, li_4, li_5, li_6, li_9, li_10, li_40, lm_1, lm_2, lm_3, lm_4, zs_ap, i32_add, i32_sub, i32_mul, i32_neg, i32_lt, i32_le, i32_eq, i32_nat, ckn, pka_r, pka_v, if_pos, if_neg, if_true, if_false]
  rfl
end
/-- the byte that comes of an int, from a shift on -/
def byv (v : Int32) (sh : Int) : Int := ((v >>> (i32 sh &&& 31)).toInt8.toInt32).toInt
theorem byv_nar (v : Int32) (sh : Int) : vp_nar .byte ((v >>> (i32 sh &&& 31)).toInt8.toInt32) = i32 (byv v sh) := (pk_vb _).trans (i32_of _)
theorem byv_b (v : Int32) (sh : Int) : -128 ≤ byv v sh ∧ byv v sh ≤ 127 := by
  unfold byv
  rw [Int8.toInt_toInt32]
  have h1 := Int8.le_toInt (v >>> (i32 sh &&& 31)).toInt8
  have h2 := Int8.toInt_lt (v >>> (i32 sh &&& 31)).toInt8
  omega
def wr1 (g : Nat → Int) (n : Nat) (v : Int) : Nat → Int := fun x => if x = n then v else g x
def wr4 (g : Nat → Int) (n : Nat) (v : Int32) : Nat → Int := wr1 (wr1 (wr1 (wr1 g n (byv v 24)) (n + 1) (byv v 16)) (n + 2) (byv v 8)) (n + 3) (byv v 0)
def wr20 (g : Nat → Int) (n : Nat) (a b c e f : Int32) : Nat → Int := wr4 (wr4 (wr4 (wr4 (wr4 g n a) (n + 4) b) (n + 8) c) (n + 12) e) (n + 16) f
theorem wr1_b {g : Nat → Int} {n : Nat} {v : Int} (hg : ∀ x : Nat, -128 ≤ g x ∧ g x ≤ 127) (hv : -128 ≤ v ∧ v ≤ 127) : ∀ x : Nat, -128 ≤ wr1 g n v x ∧ wr1 g n v x ≤ 127 := fun x => by
  unfold wr1
  split
  · exact hv
  · exact hg x
theorem wr4_b {g : Nat → Int} {n : Nat} {v : Int32} (hg : ∀ x : Nat, -128 ≤ g x ∧ g x ≤ 127) : ∀ x : Nat, -128 ≤ wr4 g n v x ∧ wr4 g n v x ≤ 127 :=
  wr1_b (wr1_b (wr1_b (wr1_b hg (byv_b v 24)) (byv_b v 16)) (byv_b v 8)) (byv_b v 0)
theorem wr20_b {g : Nat → Int} {n : Nat} {a b c e f : Int32} (hg : ∀ x : Nat, -128 ≤ g x ∧ g x ≤ 127) : ∀ x : Nat, -128 ≤ wr20 g n a b c e f x ∧ wr20 g n a b c e f x ≤ 127 := wr4_b (wr4_b (wr4_b (wr4_b (wr4_b hg))))
/-- the store with a tape written on -/
def tZ (Z : Nat → Nat → Int) (c t : Nat) (g : Nat → Int) (n : Int) : Nat → Nat → Int := fun a j => if a = t then g j else if a = c ∧ j = 1 then n else Z a j
theorem tZ_t {Z : Nat → Nat → Int} {c t : Nat} {g : Nat → Int} {n : Int} : tZ Z c t g n t = g := by funext j; simp [tZ]
theorem tZ_1 {Z : Nat → Nat → Int} {c t : Nat} {g : Nat → Int} {n : Int} (h : c ≠ t) : tZ Z c t g n c 1 = n := by simp [tZ, h]
theorem tZ_o {Z : Nat → Nat → Int} {c t : Nat} {g : Nat → Int} {n : Int} {a : Nat} (h : a ≠ c) (h2 : a ≠ t) : tZ Z c t g n a = Z a := by funext j; simp [tZ, h, h2]
theorem tZ_f {Z : Nat → Nat → Int} {c t : Nat} {g : Nat → Int} {n : Int} {j : Nat} (h : j ≠ 1) (h2 : c ≠ t) : tZ Z c t g n c j = Z c j := by simp [tZ, h, h2]
theorem tZ_w {Z : Nat → Nat → Int} {c t n : Nat} {v : Int32} (hct : c ≠ t) : u2 (u2 (u2 (u2 (u2 (u2 (u2 (u2 Z t n (byv v 24)) c 1 ((n : Int) + 1)) t (n + 1) (byv v 16)) c 1 ((n : Int) + 1 + 1)) t (n + 2) (byv v 8)) c 1 ((n : Int) + 1 + 1 + 1)) t (n + 3) (byv v 0)) c 1 ((n : Int) + 1 + 1 + 1 + 1) = tZ Z c t (wr4 (Z t) n v) ((n : Int) + 4) := by
  funext a j
  unfold tZ wr4 wr1 u2
  by_cases h1 : a = t
  · have h2 : ¬ t = c := fun e => hct e.symm
    simp only [h1, h2, if_true, if_false]
  · by_cases h2 : a = c
    · by_cases h3 : j = 1
      · simp only [h1, h2, h3, if_true, if_false, hct, and_self]
        omega
      · simp only [h1, h2, h3, if_true, if_false, hct, and_false]
    · simp only [h1, h2, if_true, if_false, false_and]
theorem tZ_tZ {Z : Nat → Nat → Int} {c t : Nat} {g g' : Nat → Int} {n n' : Int} : tZ (tZ Z c t g n) c t g' n' = tZ Z c t g' n' := by
  funext a j
  unfold tZ
  by_cases h1 : a = t
  · simp only [h1, if_true]
  · by_cases h2 : a = c ∧ j = 1
    · simp only [h1, h2, if_true, if_false, and_self]
    · simp only [h1, h2, if_true, if_false]
theorem li_m8 : (-8 : Int32) = i32 (-8) := rfl
theorem li_680 : (680 : Int32) = i32 680 := rfl
section
variable {d : Nat} {J : Nat → Nat → Int64} {Z : Nat → Nat → Int} {p0 p1 p2 p3 p4 p5 p6 p7 : Nat}
theorem h_appendFour {n : Nat} (hn : n ≤ 696) (h1 : Z 1 1 = (n : Int)) (v : Int32) : Mean (d + 1) 91 [.ref 1, .int v] (176, zs Z, J, RP p0 p1 p2 p3 p4 p5 p6 p7) = some (none, (176, zs (tZ Z 1 2 (wr4 (Z 2) n v) ((n : Int) + 4)), J, RP p0 p1 p2 p3 p4 p5 p6 p7)) := by
  rw [e_X8_appendFour, k_X8_appendFour_0]
  have e0 : ((n : Int)).toNat = n := by omega
  have e1 : ((n : Int) + 1).toNat = n + 1 := by omega
  have e2 : ((n : Int) + 1 + 1).toNat = n + 2 := by omega
  have e3 : ((n : Int) + 1 + 1 + 1).toNat = n + 3 := by omega
  have c1 : (24 : Int) + -8 = 16 := rfl
  have c2 : (16 : Int) + -8 = 8 := rfl
  have c3 : (8 : Int) + -8 = 0 := rfl
  have c4 : (0 : Int) + -8 = -8 := rfl
  rw [k_X8_appendFour_3, li_24]
  simp (disch := omega) only [k_X8_appendFour_0, k_X8_appendFour_7, k_X8_appendFour_17, k_X8_appendFour_30, k_X8_appendFour_46, li_0, li_1, li_2, li_3, li_4, li_5, li_6, li_9, li_10, li_40, lm_1, lm_2, lm_3, lm_4, zs_ap, i32_add, i32_sub, i32_mul, i32_neg, i32_lt, i32_le, i32_eq, i32_nat, ckn, pka_r, pka_v, if_pos, if_neg, if_true, if_false, li_24, li_m8, li_700, byv_nar, zs_u2, h1, u2s, u2a, c1, c2, c3, c4, e0, e1, e2, e3]
  rw [k_X8_appendFour_3]
  simp (disch := omega) only [k_X8_appendFour_0, k_X8_appendFour_7, k_X8_appendFour_17, k_X8_appendFour_30, k_X8_appendFour_46, li_0, li_1, li_2, li_3, li_4, li_5, li_6, li_9, li_10, li_40, lm_1, lm_2, lm_3, lm_4, zs_ap, i32_add, i32_sub, i32_mul, i32_neg, i32_lt, i32_le, i32_eq, i32_nat, ckn, pka_r, pka_v, if_pos, if_neg, if_true, if_false, li_24, li_m8, li_700, byv_nar, zs_u2, h1, u2s, u2a, c1, c2, c3, c4, e0, e1, e2, e3]
  rw [k_X8_appendFour_3]
  simp (disch := omega) only [k_X8_appendFour_0, k_X8_appendFour_7, k_X8_appendFour_17, k_X8_appendFour_30, k_X8_appendFour_46, li_0, li_1, li_2, li_3, li_4, li_5, li_6, li_9, li_10, li_40, lm_1, lm_2, lm_3, lm_4, zs_ap, i32_add, i32_sub, i32_mul, i32_neg, i32_lt, i32_le, i32_eq, i32_nat, ckn, pka_r, pka_v, if_pos, if_neg, if_true, if_false, li_24, li_m8, li_700, byv_nar, zs_u2, h1, u2s, u2a, c1, c2, c3, c4, e0, e1, e2, e3]
  rw [k_X8_appendFour_3]
  simp (disch := omega) only [k_X8_appendFour_0, k_X8_appendFour_7, k_X8_appendFour_17, k_X8_appendFour_30, k_X8_appendFour_46, li_0, li_1, li_2, li_3, li_4, li_5, li_6, li_9, li_10, li_40, lm_1, lm_2, lm_3, lm_4, zs_ap, i32_add, i32_sub, i32_mul, i32_neg, i32_lt, i32_le, i32_eq, i32_nat, ckn, pka_r, pka_v, if_pos, if_neg, if_true, if_false, li_24, li_m8, li_700, byv_nar, zs_u2, h1, u2s, u2a, c1, c2, c3, c4, e0, e1, e2, e3]
  rw [k_X8_appendFour_3]
  simp (disch := omega) only [k_X8_appendFour_0, k_X8_appendFour_7, k_X8_appendFour_17, k_X8_appendFour_30, k_X8_appendFour_46, li_0, li_1, li_2, li_3, li_4, li_5, li_6, li_9, li_10, li_40, lm_1, lm_2, lm_3, lm_4, zs_ap, i32_add, i32_sub, i32_mul, i32_neg, i32_lt, i32_le, i32_eq, i32_nat, ckn, pka_r, pka_v, if_pos, if_neg, if_true, if_false, li_24, li_m8, li_700, byv_nar, zs_u2, h1, u2s, u2a, c1, c2, c3, c4, e0, e1, e2, e3]
  rw [tZ_w (by decide)]
theorem m_putFour {n : Nat} (hn : n ≤ 696) (h1 : Z 140 1 = (n : Int)) (v : Int32) : Mean (d + 1) 164 [.ref 140, .int v] (176, zs Z, J, RP p0 p1 p2 p3 p4 p5 p6 p7) = some (none, (176, zs (tZ Z 140 141 (wr4 (Z 141) n v) ((n : Int) + 4)), J, RP p0 p1 p2 p3 p4 p5 p6 p7)) := by
  rw [e_X11_putFour, k_X11_putFour_0]
  have e0 : ((n : Int)).toNat = n := by omega
  have e1 : ((n : Int) + 1).toNat = n + 1 := by omega
  have e2 : ((n : Int) + 1 + 1).toNat = n + 2 := by omega
  have e3 : ((n : Int) + 1 + 1 + 1).toNat = n + 3 := by omega
  have c1 : (24 : Int) + -8 = 16 := rfl
  have c2 : (16 : Int) + -8 = 8 := rfl
  have c3 : (8 : Int) + -8 = 0 := rfl
  have c4 : (0 : Int) + -8 = -8 := rfl
  rw [k_X11_putFour_3, li_24]
  simp (disch := omega) only [k_X11_putFour_0, k_X11_putFour_7, k_X11_putFour_20, k_X11_putFour_36, li_0, li_1, li_2, li_3, li_4, li_5, li_6, li_9, li_10, li_40, lm_1, lm_2, lm_3, lm_4, zs_ap, i32_add, i32_sub, i32_mul, i32_neg, i32_lt, i32_le, i32_eq, i32_nat, ckn, pka_r, pka_v, if_pos, if_neg, if_true, if_false, li_24, li_m8, li_700, byv_nar, zs_u2, h1, u2s, u2a, c1, c2, c3, c4, e0, e1, e2, e3]
  rw [k_X11_putFour_3]
  simp (disch := omega) only [k_X11_putFour_0, k_X11_putFour_7, k_X11_putFour_20, k_X11_putFour_36, li_0, li_1, li_2, li_3, li_4, li_5, li_6, li_9, li_10, li_40, lm_1, lm_2, lm_3, lm_4, zs_ap, i32_add, i32_sub, i32_mul, i32_neg, i32_lt, i32_le, i32_eq, i32_nat, ckn, pka_r, pka_v, if_pos, if_neg, if_true, if_false, li_24, li_m8, li_700, byv_nar, zs_u2, h1, u2s, u2a, c1, c2, c3, c4, e0, e1, e2, e3]
  rw [k_X11_putFour_3]
  simp (disch := omega) only [k_X11_putFour_0, k_X11_putFour_7, k_X11_putFour_20, k_X11_putFour_36, li_0, li_1, li_2, li_3, li_4, li_5, li_6, li_9, li_10, li_40, lm_1, lm_2, lm_3, lm_4, zs_ap, i32_add, i32_sub, i32_mul, i32_neg, i32_lt, i32_le, i32_eq, i32_nat, ckn, pka_r, pka_v, if_pos, if_neg, if_true, if_false, li_24, li_m8, li_700, byv_nar, zs_u2, h1, u2s, u2a, c1, c2, c3, c4, e0, e1, e2, e3]
  rw [k_X11_putFour_3]
  simp (disch := omega) only [k_X11_putFour_0, k_X11_putFour_7, k_X11_putFour_20, k_X11_putFour_36, li_0, li_1, li_2, li_3, li_4, li_5, li_6, li_9, li_10, li_40, lm_1, lm_2, lm_3, lm_4, zs_ap, i32_add, i32_sub, i32_mul, i32_neg, i32_lt, i32_le, i32_eq, i32_nat, ckn, pka_r, pka_v, if_pos, if_neg, if_true, if_false, li_24, li_m8, li_700, byv_nar, zs_u2, h1, u2s, u2a, c1, c2, c3, c4, e0, e1, e2, e3]
  rw [k_X11_putFour_3]
  simp (disch := omega) only [k_X11_putFour_0, k_X11_putFour_7, k_X11_putFour_20, k_X11_putFour_36, li_0, li_1, li_2, li_3, li_4, li_5, li_6, li_9, li_10, li_40, lm_1, lm_2, lm_3, lm_4, zs_ap, i32_add, i32_sub, i32_mul, i32_neg, i32_lt, i32_le, i32_eq, i32_nat, ckn, pka_r, pka_v, if_pos, if_neg, if_true, if_false, li_24, li_m8, li_700, byv_nar, zs_u2, h1, u2s, u2a, c1, c2, c3, c4, e0, e1, e2, e3]
  rw [tZ_w (by decide)]
theorem h_feed {n : Nat} (hn : n ≤ 700) (h1 : Z 1 1 = (n : Int)) (a b c e f : Int32) : Mean (d + 3) 106 [.ref 0, .int a, .int b, .int c, .int e, .int f] (176, zs Z, J, RP p0 p1 p2 p3 p4 p5 p6 p7) = if n ≤ 680 then some (some (.int (i32 ((n : Int) + 20))), (176, zs (tZ Z 1 2 (wr20 (Z 2) n a b c e f) ((n : Int) + 20)), J, RP p0 p1 p2 p3 p4 p5 p6 p7)) else some (some (.int (i32 (-3))), (176, zs Z, J, RP p0 p1 p2 p3 p4 p5 p6 p7)) := by
  rw [e_X10_feed, k_X10_feed_0, e_X8_append, k_X8_append_0]
  by_cases h : n ≤ 680
  · rw [if_pos h]
    have q1 := h_appendFour (d := d) (J := J) (p0 := p0) (p1 := p1) (p2 := p2) (p3 := p3) (p4 := p4) (p5 := p5) (p6 := p6) (p7 := p7) (by omega) h1 a
    have f1 : tZ Z 1 2 (wr4 (Z 2) n a) ((n : Int) + 4) 1 1 = ((n + 4 : Nat) : Int) := by rw [tZ_1 (by decide)]; omega
    have q2 := h_appendFour (d := d) (J := J) (p0 := p0) (p1 := p1) (p2 := p2) (p3 := p3) (p4 := p4) (p5 := p5) (p6 := p6) (p7 := p7) (by omega) f1 b
    rw [tZ_t, tZ_tZ] at q2
    have f2 : tZ Z 1 2 (wr4 (wr4 (Z 2) n a) (n + 4) b) (((n + 4 : Nat) : Int) + 4) 1 1 = ((n + 8 : Nat) : Int) := by rw [tZ_1 (by decide)]; omega
    have q3 := h_appendFour (d := d) (J := J) (p0 := p0) (p1 := p1) (p2 := p2) (p3 := p3) (p4 := p4) (p5 := p5) (p6 := p6) (p7 := p7) (by omega) f2 c
    rw [tZ_t, tZ_tZ] at q3
    have f3 : tZ Z 1 2 (wr4 (wr4 (wr4 (Z 2) n a) (n + 4) b) (n + 8) c) (((n + 8 : Nat) : Int) + 4) 1 1 = ((n + 12 : Nat) : Int) := by rw [tZ_1 (by decide)]; omega
    have q4 := h_appendFour (d := d) (J := J) (p0 := p0) (p1 := p1) (p2 := p2) (p3 := p3) (p4 := p4) (p5 := p5) (p6 := p6) (p7 := p7) (by omega) f3 e
    rw [tZ_t, tZ_tZ] at q4
    have f4 : tZ Z 1 2 (wr4 (wr4 (wr4 (wr4 (Z 2) n a) (n + 4) b) (n + 8) c) (n + 12) e) (((n + 12 : Nat) : Int) + 4) 1 1 = ((n + 16 : Nat) : Int) := by rw [tZ_1 (by decide)]; omega
    have q5 := h_appendFour (d := d) (J := J) (p0 := p0) (p1 := p1) (p2 := p2) (p3 := p3) (p4 := p4) (p5 := p5) (p6 := p6) (p7 := p7) (by omega) f4 f
    rw [tZ_t, tZ_tZ, show ((n + 16 : Nat) : Int) + 4 = (n : Int) + 20 by omega] at q5
    simp (disch := omega) only [k_X8_append_10, k_X8_append_12, k_X8_append_17, k_X8_append_22, k_X8_append_27, k_X8_append_33, k_X8_append_39, li_0, li_1, li_2, li_3, li_4, li_5, li_6, li_9, li_10, li_40, lm_1, lm_2, lm_3, lm_4, zs_ap, i32_add, i32_sub, i32_mul, i32_neg, i32_lt, i32_le, i32_eq, i32_nat, ckn, pka_r, pka_v, if_pos, if_neg, if_true, if_false, k_X10_feed_14, k_X10_feed_17, k_X10_feed_27, k_X10_feed_29, q1, q2, q3, q4, q5, h1, li_680, tZ_1, or_true, true_or]
    rfl
  · rw [if_neg h]
    simp (disch := omega) only [k_X8_append_10, k_X8_append_12, k_X8_append_17, k_X8_append_22, k_X8_append_27, k_X8_append_33, k_X8_append_39, li_0, li_1, li_2, li_3, li_4, li_5, li_6, li_9, li_10, li_40, lm_1, lm_2, lm_3, lm_4, zs_ap, i32_add, i32_sub, i32_mul, i32_neg, i32_lt, i32_le, i32_eq, i32_nat, ckn, pka_r, pka_v, if_pos, if_neg, if_true, if_false, k_X10_feed_14, k_X10_feed_17, k_X10_feed_27, k_X10_feed_29, h1, li_680]
theorem m_feed {n : Nat} (hn : n ≤ 700) (h1 : Z 140 1 = (n : Int)) (a b c e f : Int32) : Mean (d + 2) 163 [.ref 140, .int a, .int b, .int c, .int e, .int f] (176, zs Z, J, RP p0 p1 p2 p3 p4 p5 p6 p7) = if n ≤ 680 then some (some (.int (i32 ((n : Int) + 20))), (176, zs (tZ Z 140 141 (wr20 (Z 141) n a b c e f) ((n : Int) + 20)), J, RP p0 p1 p2 p3 p4 p5 p6 p7)) else some (some (.int (i32 (-3))), (176, zs Z, J, RP p0 p1 p2 p3 p4 p5 p6 p7)) := by
  rw [e_X11_feed, k_X11_feed_0]
  by_cases h : n ≤ 680
  · rw [if_pos h]
    have q1 := m_putFour (d := d) (J := J) (p0 := p0) (p1 := p1) (p2 := p2) (p3 := p3) (p4 := p4) (p5 := p5) (p6 := p6) (p7 := p7) (by omega) h1 a
    have f1 : tZ Z 140 141 (wr4 (Z 141) n a) ((n : Int) + 4) 140 1 = ((n + 4 : Nat) : Int) := by rw [tZ_1 (by decide)]; omega
    have q2 := m_putFour (d := d) (J := J) (p0 := p0) (p1 := p1) (p2 := p2) (p3 := p3) (p4 := p4) (p5 := p5) (p6 := p6) (p7 := p7) (by omega) f1 b
    rw [tZ_t, tZ_tZ] at q2
    have f2 : tZ Z 140 141 (wr4 (wr4 (Z 141) n a) (n + 4) b) (((n + 4 : Nat) : Int) + 4) 140 1 = ((n + 8 : Nat) : Int) := by rw [tZ_1 (by decide)]; omega
    have q3 := m_putFour (d := d) (J := J) (p0 := p0) (p1 := p1) (p2 := p2) (p3 := p3) (p4 := p4) (p5 := p5) (p6 := p6) (p7 := p7) (by omega) f2 c
    rw [tZ_t, tZ_tZ] at q3
    have f3 : tZ Z 140 141 (wr4 (wr4 (wr4 (Z 141) n a) (n + 4) b) (n + 8) c) (((n + 8 : Nat) : Int) + 4) 140 1 = ((n + 12 : Nat) : Int) := by rw [tZ_1 (by decide)]; omega
    have q4 := m_putFour (d := d) (J := J) (p0 := p0) (p1 := p1) (p2 := p2) (p3 := p3) (p4 := p4) (p5 := p5) (p6 := p6) (p7 := p7) (by omega) f3 e
    rw [tZ_t, tZ_tZ] at q4
    have f4 : tZ Z 140 141 (wr4 (wr4 (wr4 (wr4 (Z 141) n a) (n + 4) b) (n + 8) c) (n + 12) e) (((n + 12 : Nat) : Int) + 4) 140 1 = ((n + 16 : Nat) : Int) := by rw [tZ_1 (by decide)]; omega
    have q5 := m_putFour (d := d) (J := J) (p0 := p0) (p1 := p1) (p2 := p2) (p3 := p3) (p4 := p4) (p5 := p5) (p6 := p6) (p7 := p7) (by omega) f4 f
    rw [tZ_t, tZ_tZ, show ((n + 16 : Nat) : Int) + 4 = (n : Int) + 20 by omega] at q5
    simp (disch := omega) only [k_X11_feed_13, k_X11_feed_16, k_X11_feed_21, k_X11_feed_26, k_X11_feed_31, k_X11_feed_37, k_X11_feed_43, li_0, li_1, li_2, li_3, li_4, li_5, li_6, li_9, li_10, li_40, lm_1, lm_2, lm_3, lm_4, zs_ap, i32_add, i32_sub, i32_mul, i32_neg, i32_lt, i32_le, i32_eq, i32_nat, ckn, pka_r, pka_v, if_pos, if_neg, if_true, if_false, q1, q2, q3, q4, q5, h1, li_20, li_700, tZ_1]
    rfl
  · rw [if_neg h]
    simp (disch := omega) only [k_X11_feed_13, k_X11_feed_16, k_X11_feed_21, k_X11_feed_26, k_X11_feed_31, k_X11_feed_37, k_X11_feed_43, li_0, li_1, li_2, li_3, li_4, li_5, li_6, li_9, li_10, li_40, lm_1, lm_2, lm_3, lm_4, zs_ap, i32_add, i32_sub, i32_mul, i32_neg, i32_lt, i32_le, i32_eq, i32_nat, ckn, pka_r, pka_v, if_pos, if_neg, if_true, if_false, h1, li_20, li_700]
theorem h_end {n : Nat} (hn : n ≤ 700) (h1 : Z 1 1 = (n : Int)) {a : Int} (ha : -2147483648 ≤ a ∧ a < 2147483648) : Mean (d + 2) 107 [.ref 0, .int (i32 a)] (176, zs Z, J, RP p0 p1 p2 p3 p4 p5 p6 p7) = if 0 ≤ a ∧ a ≤ n then some (some (.int (i32 a)), (176, zs (u2 Z 1 1 a), J, RP p0 p1 p2 p3 p4 p5 p6 p7)) else some (some (.int (i32 (-1))), (176, zs Z, J, RP p0 p1 p2 p3 p4 p5 p6 p7)) := by
  rw [e_X10_end, k_X10_end_0, e_X8_shorten, k_X8_shorten_0]
  by_cases c1 : 0 ≤ a
  · by_cases c2 : a ≤ n
    · rw [if_pos (show 0 ≤ a ∧ a ≤ (n : Int) from ⟨c1, c2⟩)]
      simp (disch := omega) only [k_X8_shorten_4, k_X8_shorten_12, k_X8_shorten_14, li_0, li_1, li_2, li_3, li_4, li_5, li_6, li_9, li_10, li_40, lm_1, lm_2, lm_3, lm_4, zs_ap, i32_add, i32_sub, i32_mul, i32_neg, i32_lt, i32_le, i32_eq, i32_nat, ckn, pka_r, pka_v, if_pos, if_neg, if_true, if_false, k_X10_end_8, k_X10_end_11, k_X10_end_15, k_X10_end_16, h1, zs_u2, or_true, true_or]
    · rw [if_neg (show ¬ (0 ≤ a ∧ a ≤ (n : Int)) from fun q => c2 q.2)]
      simp (disch := omega) only [k_X8_shorten_4, k_X8_shorten_12, k_X8_shorten_14, li_0, li_1, li_2, li_3, li_4, li_5, li_6, li_9, li_10, li_40, lm_1, lm_2, lm_3, lm_4, zs_ap, i32_add, i32_sub, i32_mul, i32_neg, i32_lt, i32_le, i32_eq, i32_nat, ckn, pka_r, pka_v, if_pos, if_neg, if_true, if_false, k_X10_end_8, k_X10_end_11, k_X10_end_15, k_X10_end_16, h1, or_true, true_or]
  · rw [if_neg (show ¬ (0 ≤ a ∧ a ≤ (n : Int)) from fun q => c1 q.1)]
    simp (disch := omega) only [k_X8_shorten_4, k_X8_shorten_12, k_X8_shorten_14, li_0, li_1, li_2, li_3, li_4, li_5, li_6, li_9, li_10, li_40, lm_1, lm_2, lm_3, lm_4, zs_ap, i32_add, i32_sub, i32_mul, i32_neg, i32_lt, i32_le, i32_eq, i32_nat, ckn, pka_r, pka_v, if_pos, if_neg, if_true, if_false, k_X10_end_8, k_X10_end_11, k_X10_end_15, k_X10_end_16, h1, or_true, true_or]
theorem m_end {n : Nat} (hn : n ≤ 700) (h1 : Z 140 1 = (n : Int)) {a : Int} (ha : -2147483648 ≤ a ∧ a < 2147483648) : Mean (d + 2) 165 [.ref 140, .int (i32 a)] (176, zs Z, J, RP p0 p1 p2 p3 p4 p5 p6 p7) = if 0 ≤ a ∧ a ≤ n then some (some (.int (i32 a)), (176, zs (u2 Z 140 1 a), J, RP p0 p1 p2 p3 p4 p5 p6 p7)) else some (some (.int (i32 (-1))), (176, zs Z, J, RP p0 p1 p2 p3 p4 p5 p6 p7)) := by
  rw [e_X11_end, k_X11_end_0]
  by_cases c : 0 ≤ a ∧ a ≤ n
  · rw [if_pos c]
    simp (disch := omega) only [k_X11_end_11, k_X11_end_14, k_X11_end_16, li_0, li_1, li_2, li_3, li_4, li_5, li_6, li_9, li_10, li_40, lm_1, lm_2, lm_3, lm_4, zs_ap, i32_add, i32_sub, i32_mul, i32_neg, i32_lt, i32_le, i32_eq, i32_nat, ckn, pka_r, pka_v, if_pos, if_neg, if_true, if_false, h1, lj_0, i32_to64, s_inZ, bI_t c, zs_u2]
  · rw [if_neg c]
    simp (disch := omega) only [k_X11_end_11, k_X11_end_14, k_X11_end_16, li_0, li_1, li_2, li_3, li_4, li_5, li_6, li_9, li_10, li_40, lm_1, lm_2, lm_3, lm_4, zs_ap, i32_add, i32_sub, i32_mul, i32_neg, i32_lt, i32_le, i32_eq, i32_nat, ckn, pka_r, pka_v, if_pos, if_neg, if_true, if_false, h1, lj_0, i32_to64, s_inZ, bI_f c]
/-- the class's tape, byte by byte -/
def TC (tp : Nat → Nat) (Z : Nat → Nat → Int) : Prop := ∀ x : Nat, x < 700 → (tp x < 128 ∧ Z 2 x = (tp x : Int)) ∨ ((128 ≤ tp x ∧ tp x < 256) ∧ Z 2 x = (tp x : Int) - 256)
theorem h_at {tp : Nat → Nat} (ht : TC tp Z) {len : Nat} (hl : len ≤ 700) (h1 : Z 1 1 = (len : Int)) {k : Nat} (hk : k < len) : Mean (d + 1) 94 [.ref 1, .int (i32 (k : Int))] (176, zs Z, J, RP p0 p1 p2 p3 p4 p5 p6 p7) = some (some (.int (i32 (tp k : Int))), (176, zs Z, J, RP p0 p1 p2 p3 p4 p5 p6 p7)) := by
  have h3 := ht k (by omega)
  rw [e_X8_at, k_X8_at_0]
  simp (disch := omega) only [k_X8_at_4, k_X8_at_12, k_X8_at_18, k_X8_at_25, k_X8_at_26, li_0, li_1, li_2, li_3, li_4, li_5, li_6, li_9, li_10, li_40, lm_1, lm_2, lm_3, lm_4, zs_ap, i32_add, i32_sub, i32_mul, i32_neg, i32_lt, i32_le, i32_eq, i32_nat, ckn, pka_r, pka_v, if_pos, if_neg, if_true, if_false, h1, Int.toNat_natCast, and255 h3]
theorem h_tclear : Mean (d + 1) 93 [.ref 1] (176, zs Z, J, RP p0 p1 p2 p3 p4 p5 p6 p7) = some (none, (176, zs (u2 Z 1 1 0), J, RP p0 p1 p2 p3 p4 p5 p6 p7)) := by
  rw [e_X8_clear, k_X8_clear_0]
  simp only [li_0, zs_u2]
theorem h_within {a lo hi : Int} (ha : -2147483648 ≤ a ∧ a < 2147483648) (hl : -2147483648 ≤ lo ∧ lo < 2147483648) (hh : -2147483648 ≤ hi ∧ hi < 2147483648) : Mean (d + 1) 138 [.int (i32 a), .int (i32 lo), .int (i32 hi)] (176, zs Z, J, RP p0 p1 p2 p3 p4 p5 p6 p7) = some (some (.int (i32 (bI (lo ≤ a ∧ a ≤ hi)))), (176, zs Z, J, RP p0 p1 p2 p3 p4 p5 p6 p7)) := by
  rw [e_X10_within, k_X10_within_0]
  by_cases c1 : lo ≤ a
  · by_cases c2 : a ≤ hi
    · rw [bI_t ⟨c1, c2⟩]
      simp (disch := omega) only [k_X10_within_5, k_X10_within_10, k_X10_within_14, k_X10_within_15, li_0, li_1, li_2, li_3, li_4, li_5, li_6, li_9, li_10, li_40, lm_1, lm_2, lm_3, lm_4, zs_ap, i32_add, i32_sub, i32_mul, i32_neg, i32_lt, i32_le, i32_eq, i32_nat, ckn, pka_r, pka_v, if_pos, if_neg, if_true, if_false, or_true]
    · rw [bI_f (fun q => c2 q.2)]
      simp (disch := omega) only [k_X10_within_5, k_X10_within_10, k_X10_within_14, k_X10_within_15, li_0, li_1, li_2, li_3, li_4, li_5, li_6, li_9, li_10, li_40, lm_1, lm_2, lm_3, lm_4, zs_ap, i32_add, i32_sub, i32_mul, i32_neg, i32_lt, i32_le, i32_eq, i32_nat, ckn, pka_r, pka_v, if_pos, if_neg, if_true, if_false, true_or]
  · rw [bI_f (fun q => c1 q.1)]
    simp (disch := omega) only [k_X10_within_5, k_X10_within_10, k_X10_within_14, k_X10_within_15, li_0, li_1, li_2, li_3, li_4, li_5, li_6, li_9, li_10, li_40, lm_1, lm_2, lm_3, lm_4, zs_ap, i32_add, i32_sub, i32_mul, i32_neg, i32_lt, i32_le, i32_eq, i32_nat, ckn, pka_r, pka_v, if_pos, if_neg, if_true, if_false, true_or]
end
