/-! THE CLASS'S Matter -/
abbrev hv3 (h : Nat) : Prop := h = 5 ∨ h = 20 ∨ h = 97
theorem sh13 {h : Nat} (hv : hv3 h) : pshn (h + 13) = some (.inl (.int, 3)) := by rcases hv with rfl | rfl | rfl <;> rfl
theorem sh14 {h : Nat} (hv : hv3 h) : pshn (h + 14) = some (.inl (.int, 3)) := by rcases hv with rfl | rfl | rfl <;> rfl
def mclr (Z : Nat → Nat → Int) (h : Nat) : Nat → Nat → Int := u2 (u2 (u2 (u2 (u2 (fl3 (fl3 (u2 (u2 (u2 Z h 0 0) h 1 2) h 2 0) (h + 13) 0) (h + 14) 0) h 11 0) h 12 1) h 13 0) h 14 0) h 15 0
theorem fl3_a {α : Type} {g : Nat → Nat → α} {h a : Nat} {v : α} (ha : a ≠ h) : fl3 g h v a = g a := by
  funext b
  unfold fl3
  rw [u2a ha, u2a ha, u2a ha]
theorem fl3_s {α : Type} {g : Nat → Nat → α} {h i : Nat} {v : α} (hi : i < 3) : fl3 g h v h i = v := by
  unfold fl3 u2
  have : i = 0 ∨ i = 1 ∨ i = 2 := by omega
  rcases this with rfl | rfl | rfl <;> simp
theorem fl3_f {α : Type} {g : Nat → Nat → α} {h i : Nat} {v : α} (hi : 3 ≤ i) : fl3 g h v h i = g h i := by
  unfold fl3
  rw [u2f (by omega), u2f (by omega), u2f (by omega)]
section
variable {d : Nat} {J : Nat → Nat → Int64} {Z : Nat → Nat → Int} {p0 p1 p2 p3 p4 p5 p6 p7 : Nat} {h : Nat}
theorem h_mclear (hv : hv3 h) : Mean (d + 2) 33 [.ref h] (176, zs Z, J, RP p0 p1 p2 p3 p4 p5 p6 p7) = some (none, (176, zs (mclr Z h), J, RP p0 p1 p2 p3 p4 p5 p6 p7)) := by
  rw [e_X4_clear, k_X4_clear_0 (hv_h := hv)]
  simp only [li_0, li_1, li_2, li_3, li_4, li_5, li_6, li_9, li_10, li_40, lm_1, lm_2, lm_3, lm_4, zs_u2, h_fillI (sh13 hv), pka_v, k_X4_clear_23 (hv_h := hv), h_fillI (sh14 hv), k_X4_clear_31 (hv_h := hv)]
  rfl
theorem h_hasSide (hv : hv3 h) {S : Nat} (hS : S ≤ 3) (h1 : Z h 1 = (S : Int)) {a : Int} (ha : -2147483648 ≤ a ∧ a < 2147483648) : Mean (d + 1) 36 [.ref h, .int (i32 a)] (176, zs Z, J, RP p0 p1 p2 p3 p4 p5 p6 p7) = some (some (.int (i32 (bI (0 ≤ a ∧ a < S)))), (176, zs Z, J, RP p0 p1 p2 p3 p4 p5 p6 p7)) := by
  rw [e_X4_hasSide, k_X4_hasSide_0]
  by_cases c1 : 0 ≤ a
  · by_cases c2 : a < S
    · rw [bI_t ⟨c1, c2⟩]
      simp (disch := omega) only [k_X4_hasSide_4, k_X4_hasSide_12, k_X4_hasSide_16, k_X4_hasSide_17, li_0, li_1, li_2, li_3, li_4, li_5, li_6, li_9, li_10, li_40, lm_1, lm_2, lm_3, lm_4, zs_ap, i32_add, i32_sub, i32_mul, i32_neg, i32_lt, i32_le, i32_eq, i32_nat, ckn, pka_r, pka_v, if_pos, if_neg, if_true, if_false, h1, or_true]
    · rw [bI_f (fun q => c2 q.2)]
      simp (disch := omega) only [k_X4_hasSide_4, k_X4_hasSide_12, k_X4_hasSide_16, k_X4_hasSide_17, li_0, li_1, li_2, li_3, li_4, li_5, li_6, li_9, li_10, li_40, lm_1, lm_2, lm_3, lm_4, zs_ap, i32_add, i32_sub, i32_mul, i32_neg, i32_lt, i32_le, i32_eq, i32_nat, ckn, pka_r, pka_v, if_pos, if_neg, if_true, if_false, h1, true_or]
  · rw [bI_f (fun q => c1 q.1)]
    simp (disch := omega) only [k_X4_hasSide_4, k_X4_hasSide_12, k_X4_hasSide_16, k_X4_hasSide_17, li_0, li_1, li_2, li_3, li_4, li_5, li_6, li_9, li_10, li_40, lm_1, lm_2, lm_3, lm_4, zs_ap, i32_add, i32_sub, i32_mul, i32_neg, i32_lt, i32_le, i32_eq, i32_nat, ckn, pka_r, pka_v, if_pos, if_neg, if_true, if_false, true_or]
theorem h_hasPiece (hv : hv3 h) {P : Nat} (hP : P ≤ 6) (h1 : Z h 2 = (P : Int)) {a : Int} (ha : -2147483648 ≤ a ∧ a < 2147483648) : Mean (d + 1) 37 [.ref h, .int (i32 a)] (176, zs Z, J, RP p0 p1 p2 p3 p4 p5 p6 p7) = some (some (.int (i32 (bI (0 ≤ a ∧ a < P)))), (176, zs Z, J, RP p0 p1 p2 p3 p4 p5 p6 p7)) := by
  rw [e_X4_hasPiece, k_X4_hasPiece_0]
  by_cases c1 : 0 ≤ a
  · by_cases c2 : a < P
    · rw [bI_t ⟨c1, c2⟩]
      simp (disch := omega) only [k_X4_hasPiece_4, k_X4_hasPiece_12, k_X4_hasPiece_16, k_X4_hasPiece_17, li_0, li_1, li_2, li_3, li_4, li_5, li_6, li_9, li_10, li_40, lm_1, lm_2, lm_3, lm_4, zs_ap, i32_add, i32_sub, i32_mul, i32_neg, i32_lt, i32_le, i32_eq, i32_nat, ckn, pka_r, pka_v, if_pos, if_neg, if_true, if_false, h1, or_true]
    · rw [bI_f (fun q => c2 q.2)]
      simp (disch := omega) only [k_X4_hasPiece_4, k_X4_hasPiece_12, k_X4_hasPiece_16, k_X4_hasPiece_17, li_0, li_1, li_2, li_3, li_4, li_5, li_6, li_9, li_10, li_40, lm_1, lm_2, lm_3, lm_4, zs_ap, i32_add, i32_sub, i32_mul, i32_neg, i32_lt, i32_le, i32_eq, i32_nat, ckn, pka_r, pka_v, if_pos, if_neg, if_true, if_false, h1, true_or]
  · rw [bI_f (fun q => c1 q.1)]
    simp (disch := omega) only [k_X4_hasPiece_4, k_X4_hasPiece_12, k_X4_hasPiece_16, k_X4_hasPiece_17, li_0, li_1, li_2, li_3, li_4, li_5, li_6, li_9, li_10, li_40, lm_1, lm_2, lm_3, lm_4, zs_ap, i32_add, i32_sub, i32_mul, i32_neg, i32_lt, i32_le, i32_eq, i32_nat, ckn, pka_r, pka_v, if_pos, if_neg, if_true, if_false, true_or]
theorem h_pieceNamed (hv : hv3 h) {P : Nat} (hP : P ≤ 6) (h1 : Z h 2 = (P : Int)) (w : Int64) : Mean (d + 1) 38 [.ref h, .long w] (176, zs Z, J, RP p0 p1 p2 p3 p4 p5 p6 p7) = some (some (.int (i32 (pAt (J (h + 1)) P w))), (176, zs Z, J, RP p0 p1 p2 p3 p4 p5 p6 p7)) := by
  have key := srch (fun k => den none (Mean d) (some .int) tQ_X4_pieceNamed (2, [some (.ref h), some (.long w), none, some (.int (i32 (k : Int)))], [], 176, zs Z, J, RP p0 p1 p2 p3 p4 p5 p6 p7)) (fun k => decide (J (h + 1) k = w)) P (fun k => some (some (.int (i32 (k : Int))), (176, zs Z, J, RP p0 p1 p2 p3 p4 p5 p6 p7))) (fun k hk hp => by
    have e : J (h + 1) k = w := of_decide_eq_true hp
    rw [k_X4_pieceNamed_2 (hv_h := hv)]
    simp (disch := omega) only [k_X4_pieceNamed_0, k_X4_pieceNamed_10, k_X4_pieceNamed_16, k_X4_pieceNamed_21, k_X4_pieceNamed_23, k_X4_pieceNamed_29, li_0, li_1, li_2, li_3, li_4, li_5, li_6, li_9, li_10, li_40, lm_1, lm_2, lm_3, lm_4, zs_ap, i32_add, i32_sub, i32_mul, i32_neg, i32_lt, i32_le, i32_eq, i32_nat, ckn, pka_r, pka_v, if_pos, if_neg, if_true, if_false, h1, Int.toNat_natCast, cmp_z, e]) (fun k hk hp => by
    have e : J (h + 1) k ≠ w := by simpa using hp
    rw [k_X4_pieceNamed_2 (hv_h := hv)]
    simp (disch := omega) only [k_X4_pieceNamed_0, k_X4_pieceNamed_10, k_X4_pieceNamed_16, k_X4_pieceNamed_21, k_X4_pieceNamed_23, k_X4_pieceNamed_29, li_0, li_1, li_2, li_3, li_4, li_5, li_6, li_9, li_10, li_40, lm_1, lm_2, lm_3, lm_4, zs_ap, i32_add, i32_sub, i32_mul, i32_neg, i32_lt, i32_le, i32_eq, i32_nat, ckn, pka_r, pka_v, if_pos, if_neg, if_true, if_false, h1, Int.toNat_natCast, cmp_z, e]
    rfl)
  rw [e_X4_pieceNamed, k_X4_pieceNamed_0]
  refine Eq.trans key ?_
  unfold pAt
  by_cases c : anyN (fun k => decide (J (h + 1) k = w)) P = true
  · rw [if_pos c, if_pos c]
  · rw [if_neg c, if_neg c, k_X4_pieceNamed_2 (hv_h := hv)]
    simp (disch := omega) only [k_X4_pieceNamed_0, k_X4_pieceNamed_10, k_X4_pieceNamed_16, k_X4_pieceNamed_21, k_X4_pieceNamed_23, k_X4_pieceNamed_29, li_0, li_1, li_2, li_3, li_4, li_5, li_6, li_9, li_10, li_40, lm_1, lm_2, lm_3, lm_4, zs_ap, i32_add, i32_sub, i32_mul, i32_neg, i32_lt, i32_le, i32_eq, i32_nat, ckn, pka_r, pka_v, if_pos, if_neg, if_true, if_false, h1]
theorem h_product (hv : hv3 h) {P : Nat} (hP : P ≤ 6) (h1 : Z h 2 = (P : Int)) : Mean (d + 1) 39 [.ref h] (176, zs Z, J, RP p0 p1 p2 p3 p4 p5 p6 p7) = some (some (.int (i32 (prodD (Z (h + 3)) P))), (176, zs Z, J, RP p0 p1 p2 p3 p4 p5 p6 p7)) := by
  have key := up_eq (fun k => den none (Mean d) (some .int) tQ_X4_product (4, [some (.ref h), some (.int (i32 (prodD (Z (h + 3)) k))), some (.int (i32 (k : Int)))], [], 176, zs Z, J, RP p0 p1 p2 p3 p4 p5 p6 p7)) P (fun k hk => by
    rw [k_X4_product_4 (hv_h := hv)]
    simp (disch := omega) only [k_X4_product_0, k_X4_product_12, k_X4_product_19, k_X4_product_29, li_0, li_1, li_2, li_3, li_4, li_5, li_6, li_9, li_10, li_40, lm_1, lm_2, lm_3, lm_4, zs_ap, i32_add, i32_sub, i32_mul, i32_neg, i32_lt, i32_le, i32_eq, i32_nat, ckn, pka_r, pka_v, if_pos, if_neg, if_true, if_false, h1, Int.toNat_natCast]
    rfl)
  rw [e_X4_product, k_X4_product_0]
  refine Eq.trans key ?_
  rw [k_X4_product_4 (hv_h := hv)]
  simp (disch := omega) only [k_X4_product_0, k_X4_product_12, k_X4_product_19, k_X4_product_29, li_0, li_1, li_2, li_3, li_4, li_5, li_6, li_9, li_10, li_40, lm_1, lm_2, lm_3, lm_4, zs_ap, i32_add, i32_sub, i32_mul, i32_neg, i32_lt, i32_le, i32_eq, i32_nat, ckn, pka_r, pka_v, if_pos, if_neg, if_true, if_false, h1]
theorem h_sideAfter (hv : hv3 h) {S : Nat} (hS : S ≤ 3) (h1 : Z h 1 = (S : Int)) {t : Nat} (ht : t < S) : Mean (d + 1) 40 [.ref h, .int (i32 (t : Int))] (176, zs Z, J, RP p0 p1 p2 p3 p4 p5 p6 p7) = some (some (.int (i32 (((t + 1) % S : Nat) : Int))), (176, zs Z, J, RP p0 p1 p2 p3 p4 p5 p6 p7)) := by
  rw [e_X4_sideAfter, k_X4_sideAfter_0 (hv_h := hv)]
  by_cases c : t + 1 < S
  · rw [Nat.mod_eq_of_lt c]
    simp (disch := omega) only [k_X4_sideAfter_10, k_X4_sideAfter_16, k_X4_sideAfter_17, li_0, li_1, li_2, li_3, li_4, li_5, li_6, li_9, li_10, li_40, lm_1, lm_2, lm_3, lm_4, zs_ap, i32_add, i32_sub, i32_mul, i32_neg, i32_lt, i32_le, i32_eq, i32_nat, ckn, pka_r, pka_v, if_pos, if_neg, if_true, if_false, h1]
    rfl
  · rw [show t + 1 = S by omega, Nat.mod_self]
    simp (disch := omega) only [k_X4_sideAfter_10, k_X4_sideAfter_16, k_X4_sideAfter_17, li_0, li_1, li_2, li_3, li_4, li_5, li_6, li_9, li_10, li_40, lm_1, lm_2, lm_3, lm_4, zs_ap, i32_add, i32_sub, i32_mul, i32_neg, i32_lt, i32_le, i32_eq, i32_nat, ckn, pka_r, pka_v, if_pos, if_neg, if_true, if_false, h1]
    rfl
end
