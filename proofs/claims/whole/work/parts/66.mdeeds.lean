/-! THE MODEL'S did, right -/
/-- what is told of deeds is in order -/
def DV (m : Mat) (Z : Nat → Nat → Int) (nd nr : Nat) : Prop := (Z 140 68 = nd ∧ nd ≤ 20 ∧ Z 140 69 = nr ∧ nr ≤ 20 ∧ (0 ≤ Z 140 70 ∧ Z 140 70 ≤ 999)) ∧ (∀ k : Nat, k < nd → (0 ≤ Z 168 k ∧ Z 168 k < qS m) ∧ (0 ≤ Z 169 k ∧ Z 169 k < qN m) ∧ (1 ≤ Z 170 k ∧ Z 170 k ≤ 40) ∧ (0 ≤ Z 171 k ∧ Z 171 k ≤ 1) ∧ (0 ≤ Z 172 k ∧ Z 172 k ≤ 999)) ∧ ∀ r : Nat, r < nr → (0 ≤ Z 173 r ∧ Z 173 r < nd) ∧ (0 ≤ Z 174 r ∧ Z 174 r ≤ 1) ∧ (0 ≤ Z 175 r ∧ Z 175 r ≤ 999)
abbrev dOK (m : Mat) (Z : Nat → Nat → Int) (to sd s n st : Int) : Prop := ((Z 140 70 ≤ to ∧ to ≤ 999) ∧ (0 ≤ sd ∧ sd < qS m)) ∧ ((0 ≤ s ∧ s < qN m) ∧ (1 ≤ n ∧ n ≤ 40)) ∧ (0 ≤ st ∧ st ≤ 1)
def dZ (Z : Nat → Nat → Int) (nd : Nat) (to sd s n st : Int) : Nat → Nat → Int := u2 (u2 (u2 (u2 (u2 (u2 (u2 Z 140 70 to) 168 nd sd) 169 nd s) 170 nd n) 171 nd st) 172 nd to) 140 68 ((nd : Int) + 1)
abbrev rOK (Z : Nat → Nat → Int) (nd : Nat) (to k st : Int) : Prop := ((Z 140 70 ≤ to ∧ to ≤ 999) ∧ (0 ≤ k ∧ k < nd)) ∧ (0 ≤ st ∧ st ≤ 1)
def rZ (Z : Nat → Nat → Int) (nr : Nat) (to k st : Int) : Nat → Nat → Int := u2 (u2 (u2 (u2 (u2 Z 140 70 to) 173 nr k) 174 nr st) 175 nr to) 140 69 ((nr : Int) + 1)
def often (g : Nat → Int) (k : Int) : Nat → Nat
  | 0 => 0
  | n + 1 => often g k n + (if g n = k then 1 else 0)
theorem often_le (g : Nat → Int) (k : Int) : ∀ n : Nat, often g k n ≤ n
  | 0 => Nat.le_refl _
  | n + 1 => by
    have := often_le g k n
    unfold often
    split <;> omega
theorem lj_n999 : (999 : Int64) = i64 999 := rfl
theorem lj_n40 : (40 : Int64) = i64 40 := rfl
section
variable {d : Nat} {J : Nat → Nat → Int64} {Z : Nat → Nat → Int} {p0 p1 p2 p3 p4 p5 p6 p7 : Nat} {m : Mat}
theorem s_isStop {st : Int} (h : -2147483648 ≤ st ∧ st < 2147483648) : Mean (d + 1) 224 [.int (i32 st)] (176, zs Z, J, RP p0 p1 p2 p3 p4 p5 p6 p7) = some (some (.int (i32 (bI (0 ≤ st ∧ st ≤ 1)))), (176, zs Z, J, RP p0 p1 p2 p3 p4 p5 p6 p7)) := by
  rw [e_X11_isStop]
  by_cases c : st = 0
  · rw [bI_t (by omega)]
    simp (disch := omega) only [k_X11_isStop_0, k_X11_isStop_4, k_X11_isStop_9, k_X11_isStop_13, k_X11_isStop_14, li_0, li_1, li_2, li_3, li_4, li_5, li_6, li_9, li_10, li_40, lm_1, lm_2, lm_3, lm_4, zs_ap, i32_add, i32_sub, i32_mul, i32_neg, i32_lt, i32_le, i32_eq, i32_nat, ckn, pka_r, pka_v, if_pos, if_neg, if_true, if_false, or_true]
  · by_cases c1 : st = 1
    · rw [bI_t (by omega)]
      simp (disch := omega) only [k_X11_isStop_0, k_X11_isStop_4, k_X11_isStop_9, k_X11_isStop_13, k_X11_isStop_14, li_0, li_1, li_2, li_3, li_4, li_5, li_6, li_9, li_10, li_40, lm_1, lm_2, lm_3, lm_4, zs_ap, i32_add, i32_sub, i32_mul, i32_neg, i32_lt, i32_le, i32_eq, i32_nat, ckn, pka_r, pka_v, if_pos, if_neg, if_true, if_false, or_true]
    · rw [bI_f (by omega)]
      simp (disch := omega) only [k_X11_isStop_0, k_X11_isStop_4, k_X11_isStop_9, k_X11_isStop_13, k_X11_isStop_14, li_0, li_1, li_2, li_3, li_4, li_5, li_6, li_9, li_10, li_40, lm_1, lm_2, lm_3, lm_4, zs_ap, i32_add, i32_sub, i32_mul, i32_neg, i32_lt, i32_le, i32_eq, i32_nat, ckn, pka_r, pka_v, if_pos, if_neg, if_true, if_false, true_or]
theorem g_did {nd nr : Nat} (h : MI m Z) (hv : DV m Z nd nr) {to sd s n st : Int} (h1 : -2147483648 ≤ to ∧ to < 2147483648) (h2 : -2147483648 ≤ sd ∧ sd < 2147483648) (h3 : -2147483648 ≤ s ∧ s < 2147483648) (h4 : -2147483648 ≤ n ∧ n < 2147483648) (h5 : -2147483648 ≤ st ∧ st < 2147483648) : Mean (d + 3) 225 [.ref 140, .int (i32 to), .int (i32 sd), .int (i32 s), .int (i32 n), .int (i32 st)] (176, zs Z, J, RP p0 p1 p2 p3 p4 p5 p6 p7) = if dOK m Z to sd s n st then (if nd = 20 then some (some (.int (i32 (-3))), (176, zs Z, J, RP p0 p1 p2 p3 p4 p5 p6 p7)) else some (some (.int (i32 (nd : Int))), (176, zs (dZ Z nd to sd s n st), J, RP p0 p1 p2 p3 p4 p5 p6 p7))) else some (some (.int (i32 (-2))), (176, zs Z, J, RP p0 p1 p2 p3 p4 p5 p6 p7)) := by
  have h0 := MI_n h
  obtain ⟨⟨v1, v2, v3, v4, v5⟩, _⟩ := hv
  rw [e_X11_did]
  by_cases c : dOK m Z to sd s n st
  · rw [if_pos c]
    obtain ⟨⟨c1, c2⟩, ⟨c3, c4⟩, c5⟩ := c
    by_cases c6 : nd = 20
    · rw [if_pos c6]
      simp (disch := omega) only [k_X11_did_0, k_X11_did_13, k_X11_did_16, k_X11_did_21, k_X11_did_24, k_X11_did_29, k_X11_did_32, k_X11_did_42, k_X11_did_45, k_X11_did_50, k_X11_did_53, k_X11_did_56, k_X11_did_65, k_X11_did_68, k_X11_did_83, k_X11_did_93, k_X11_did_104, k_X11_did_115, k_X11_did_125, li_0, li_1, li_2, li_3, li_4, li_5, li_6, li_9, li_10, li_40, lm_1, lm_2, lm_3, lm_4, zs_ap, i32_add, i32_sub, i32_mul, i32_neg, i32_lt, i32_le, i32_eq, i32_nat, ckn, pka_r, pka_v, if_pos, if_neg, if_true, if_false, i32_to64, lj_n999, lj_1, lj_n40, s_inZ, s_isSide, s_isState, s_isStop, bI_t, bI_f, h0, li_20, v1]
    · rw [if_neg c6]
      simp (disch := omega) only [k_X11_did_0, k_X11_did_13, k_X11_did_16, k_X11_did_21, k_X11_did_24, k_X11_did_29, k_X11_did_32, k_X11_did_42, k_X11_did_45, k_X11_did_50, k_X11_did_53, k_X11_did_56, k_X11_did_65, k_X11_did_68, k_X11_did_83, k_X11_did_93, k_X11_did_104, k_X11_did_115, k_X11_did_125, li_0, li_1, li_2, li_3, li_4, li_5, li_6, li_9, li_10, li_40, lm_1, lm_2, lm_3, lm_4, zs_ap, i32_add, i32_sub, i32_mul, i32_neg, i32_lt, i32_le, i32_eq, i32_nat, ckn, pka_r, pka_v, if_pos, if_neg, if_true, if_false, i32_to64, lj_n999, lj_1, lj_n40, s_inZ, s_isSide, s_isState, s_isStop, bI_t, bI_f, h0, li_20, v1, zs_u2, u2f (show 68 ≠ 70 by decide), u2a (show 140 ≠ 168 by decide), u2a (show 140 ≠ 169 by decide), u2a (show 140 ≠ 170 by decide), u2a (show 140 ≠ 171 by decide), u2a (show 140 ≠ 172 by decide), Int.toNat_natCast, u2s]
      rw [show (nd : Int) + 1 - 1 = (nd : Int) by omega]
      rfl
  · rw [if_neg c]
    unfold dOK at c
    by_cases c1 : Z 140 70 ≤ to ∧ to ≤ 999
    · by_cases c2 : 0 ≤ sd ∧ sd < qS m
      · by_cases c3 : 0 ≤ s ∧ s < qN m
        · by_cases c4 : 1 ≤ n ∧ n ≤ 40
          · have c5 : ¬ (0 ≤ st ∧ st ≤ 1) := fun q => c ⟨⟨c1, c2⟩, ⟨c3, c4⟩, q⟩
            clear c
            simp (disch := omega) only [k_X11_did_0, k_X11_did_13, k_X11_did_16, k_X11_did_21, k_X11_did_24, k_X11_did_29, k_X11_did_32, k_X11_did_42, k_X11_did_45, k_X11_did_50, k_X11_did_53, k_X11_did_65, k_X11_did_68, k_X11_did_83, k_X11_did_93, k_X11_did_104, k_X11_did_115, k_X11_did_125, li_0, li_1, li_2, li_3, li_4, li_5, li_6, li_9, li_10, li_40, lm_1, lm_2, lm_3, lm_4, zs_ap, i32_add, i32_sub, i32_mul, i32_neg, i32_lt, i32_le, i32_eq, i32_nat, ckn, pka_r, pka_v, if_pos, if_neg, if_true, if_false, i32_to64, lj_n999, lj_1, lj_n40, s_inZ, s_isSide, s_isState, s_isStop, bI_t, bI_f, h0]
          · clear c
            simp (disch := omega) only [k_X11_did_0, k_X11_did_13, k_X11_did_16, k_X11_did_21, k_X11_did_24, k_X11_did_29, k_X11_did_32, k_X11_did_42, k_X11_did_45, k_X11_did_50, k_X11_did_53, k_X11_did_65, k_X11_did_68, k_X11_did_83, k_X11_did_93, k_X11_did_104, k_X11_did_115, k_X11_did_125, li_0, li_1, li_2, li_3, li_4, li_5, li_6, li_9, li_10, li_40, lm_1, lm_2, lm_3, lm_4, zs_ap, i32_add, i32_sub, i32_mul, i32_neg, i32_lt, i32_le, i32_eq, i32_nat, ckn, pka_r, pka_v, if_pos, if_neg, if_true, if_false, i32_to64, lj_n999, lj_1, lj_n40, s_inZ, s_isSide, s_isState, s_isStop, bI_t, bI_f, h0]
        · clear c
          simp (disch := omega) only [k_X11_did_0, k_X11_did_13, k_X11_did_16, k_X11_did_21, k_X11_did_24, k_X11_did_29, k_X11_did_32, k_X11_did_42, k_X11_did_45, k_X11_did_50, k_X11_did_53, k_X11_did_65, k_X11_did_68, k_X11_did_83, k_X11_did_93, k_X11_did_104, k_X11_did_115, k_X11_did_125, li_0, li_1, li_2, li_3, li_4, li_5, li_6, li_9, li_10, li_40, lm_1, lm_2, lm_3, lm_4, zs_ap, i32_add, i32_sub, i32_mul, i32_neg, i32_lt, i32_le, i32_eq, i32_nat, ckn, pka_r, pka_v, if_pos, if_neg, if_true, if_false, i32_to64, lj_n999, lj_1, lj_n40, s_inZ, s_isSide, s_isState, s_isStop, bI_t, bI_f, h0]
      · clear c
        simp (disch := omega) only [k_X11_did_0, k_X11_did_13, k_X11_did_16, k_X11_did_21, k_X11_did_24, k_X11_did_29, k_X11_did_32, k_X11_did_42, k_X11_did_45, k_X11_did_50, k_X11_did_53, k_X11_did_65, k_X11_did_68, k_X11_did_83, k_X11_did_93, k_X11_did_104, k_X11_did_115, k_X11_did_125, li_0, li_1, li_2, li_3, li_4, li_5, li_6, li_9, li_10, li_40, lm_1, lm_2, lm_3, lm_4, zs_ap, i32_add, i32_sub, i32_mul, i32_neg, i32_lt, i32_le, i32_eq, i32_nat, ckn, pka_r, pka_v, if_pos, if_neg, if_true, if_false, i32_to64, lj_n999, lj_1, lj_n40, s_inZ, s_isSide, s_isState, s_isStop, bI_t, bI_f, h0]
    · clear c
      simp (disch := omega) only [k_X11_did_0, k_X11_did_13, k_X11_did_16, k_X11_did_21, k_X11_did_24, k_X11_did_29, k_X11_did_32, k_X11_did_42, k_X11_did_45, k_X11_did_50, k_X11_did_53, k_X11_did_65, k_X11_did_68, k_X11_did_83, k_X11_did_93, k_X11_did_104, k_X11_did_115, k_X11_did_125, li_0, li_1, li_2, li_3, li_4, li_5, li_6, li_9, li_10, li_40, lm_1, lm_2, lm_3, lm_4, zs_ap, i32_add, i32_sub, i32_mul, i32_neg, i32_lt, i32_le, i32_eq, i32_nat, ckn, pka_r, pka_v, if_pos, if_neg, if_true, if_false, i32_to64, lj_n999, lj_1, lj_n40, s_inZ, s_isSide, s_isState, s_isStop, bI_t, bI_f, h0]
theorem g_right {nd nr : Nat} (hv : DV m Z nd nr) {to k st : Int} (h1 : -2147483648 ≤ to ∧ to < 2147483648) (h2 : -2147483648 ≤ k ∧ k < 2147483648) (h5 : -2147483648 ≤ st ∧ st < 2147483648) : Mean (d + 3) 226 [.ref 140, .int (i32 to), .int (i32 k), .int (i32 st)] (176, zs Z, J, RP p0 p1 p2 p3 p4 p5 p6 p7) = if rOK Z nd to k st then (if nr = 20 then some (some (.int (i32 (-3))), (176, zs Z, J, RP p0 p1 p2 p3 p4 p5 p6 p7)) else some (some (.int (i32 ((often (rZ Z nr to k st 173) k (nr + 1) : Nat) : Int))), (176, zs (rZ Z nr to k st), J, RP p0 p1 p2 p3 p4 p5 p6 p7))) else some (some (.int (i32 (-2))), (176, zs Z, J, RP p0 p1 p2 p3 p4 p5 p6 p7)) := by
  obtain ⟨⟨v1, v2, v3, v4, v5⟩, _, w⟩ := hv
  rw [e_X11_right]
  by_cases c : rOK Z nd to k st
  · rw [if_pos c]
    obtain ⟨⟨c1, c2⟩, c5⟩ := c
    by_cases c6 : nr = 20
    · rw [if_pos c6]
      simp (disch := omega) only [k_X11_right_0, k_X11_right_13, k_X11_right_16, k_X11_right_29, k_X11_right_32, k_X11_right_36, k_X11_right_39, k_X11_right_42, k_X11_right_51, k_X11_right_54, k_X11_right_69, k_X11_right_79, k_X11_right_89, k_X11_right_114, k_X11_right_123, k_X11_right_127, k_X11_right_131, k_X11_right_132, k_X11_right_141, li_0, li_1, li_2, li_3, li_4, li_5, li_6, li_9, li_10, li_40, lm_1, lm_2, lm_3, lm_4, zs_ap, i32_add, i32_sub, i32_mul, i32_neg, i32_lt, i32_le, i32_eq, i32_nat, ckn, pka_r, pka_v, if_pos, if_neg, if_true, if_false, i32_to64, lj_n999, lj_0, lj_1, i64_sub, s_inZ, s_isStop, bI_t, bI_f, li_20, v1, v3]
    · rw [if_neg c6]
      simp (disch := omega) only [k_X11_right_0, k_X11_right_13, k_X11_right_16, k_X11_right_29, k_X11_right_32, k_X11_right_36, k_X11_right_39, k_X11_right_42, k_X11_right_51, k_X11_right_54, k_X11_right_69, k_X11_right_79, k_X11_right_89, k_X11_right_114, k_X11_right_123, k_X11_right_127, k_X11_right_131, k_X11_right_132, k_X11_right_141, li_0, li_1, li_2, li_3, li_4, li_5, li_6, li_9, li_10, li_40, lm_1, lm_2, lm_3, lm_4, zs_ap, i32_add, i32_sub, i32_mul, i32_neg, i32_lt, i32_le, i32_eq, i32_nat, ckn, pka_r, pka_v, if_pos, if_neg, if_true, if_false, i32_to64, lj_n999, lj_0, lj_1, i64_sub, s_inZ, s_isStop, bI_t, bI_f, li_20, v1, v3, zs_u2, u2f (show 69 ≠ 70 by decide), u2a (show 140 ≠ 173 by decide), u2a (show 140 ≠ 174 by decide), u2a (show 140 ≠ 175 by decide), Int.toNat_natCast]
      have e69 : rZ Z nr to k st 140 69 = (nr : Int) + 1 := u2s
      have e173 : ∀ r : Nat, r < nr + 1 → -2147483648 ≤ rZ Z nr to k st 173 r ∧ rZ Z nr to k st 173 r < 2147483648 := fun r hr => by
        unfold rZ
        rw [u2a (by decide), u2a (by decide), u2a (by decide)]
        by_cases cr : r = nr
        · rw [cr, u2s]
          omega
        · rw [u2f cr, u2a (by decide)]
          have := (w r (by omega)).1
          omega
      have key := up_eq (fun q => den none (Mean (d + 2)) (some .int) tQ_X11_right (105, [some (.ref 140), some (.int (i32 to)), some (.int (i32 k)), some (.int (i32 st)), some (.int (i32 ((often (rZ Z nr to k st 173) k q : Nat) : Int))), some (.int (i32 (q : Int)))], [], 176, zs (rZ Z nr to k st), J, RP p0 p1 p2 p3 p4 p5 p6 p7)) (nr + 1) (fun q hq => by
        have hb := e173 q hq
        have ho := often_le (rZ Z nr to k st 173) k q
        rw [k_X11_right_105]
        by_cases cq : rZ Z nr to k st 173 q = k
        · have e : often (rZ Z nr to k st 173) k (q + 1) = often (rZ Z nr to k st 173) k q + 1 := by
            show _ + (if _ then 1 else 0) = _
            rw [if_pos cq]
          simp (disch := omega) only [k_X11_right_0, k_X11_right_13, k_X11_right_16, k_X11_right_29, k_X11_right_32, k_X11_right_36, k_X11_right_39, k_X11_right_42, k_X11_right_51, k_X11_right_54, k_X11_right_69, k_X11_right_79, k_X11_right_89, k_X11_right_114, k_X11_right_123, k_X11_right_127, k_X11_right_131, k_X11_right_132, k_X11_right_141, li_0, li_1, li_2, li_3, li_4, li_5, li_6, li_9, li_10, li_40, lm_1, lm_2, lm_3, lm_4, zs_ap, i32_add, i32_sub, i32_mul, i32_neg, i32_lt, i32_le, i32_eq, i32_nat, ckn, pka_r, pka_v, if_pos, if_neg, if_true, if_false, e69, Int.toNat_natCast, cq, e]
          rfl
        · have e : often (rZ Z nr to k st 173) k (q + 1) = often (rZ Z nr to k st 173) k q := by
            show _ + (if _ then 1 else 0) = _
            rw [if_neg cq]
            rfl
          simp (disch := omega) only [k_X11_right_0, k_X11_right_13, k_X11_right_16, k_X11_right_29, k_X11_right_32, k_X11_right_36, k_X11_right_39, k_X11_right_42, k_X11_right_51, k_X11_right_54, k_X11_right_69, k_X11_right_79, k_X11_right_89, k_X11_right_114, k_X11_right_123, k_X11_right_127, k_X11_right_131, k_X11_right_132, k_X11_right_141, li_0, li_1, li_2, li_3, li_4, li_5, li_6, li_9, li_10, li_40, lm_1, lm_2, lm_3, lm_4, zs_ap, i32_add, i32_sub, i32_mul, i32_neg, i32_lt, i32_le, i32_eq, i32_nat, ckn, pka_r, pka_v, if_pos, if_neg, if_true, if_false, e69, Int.toNat_natCast, e, Int.add_zero]
          rfl)
      refine Eq.trans key ?_
      rw [k_X11_right_105]
      simp (disch := omega) only [k_X11_right_0, k_X11_right_13, k_X11_right_16, k_X11_right_29, k_X11_right_32, k_X11_right_36, k_X11_right_39, k_X11_right_42, k_X11_right_51, k_X11_right_54, k_X11_right_69, k_X11_right_79, k_X11_right_89, k_X11_right_114, k_X11_right_123, k_X11_right_127, k_X11_right_131, k_X11_right_132, k_X11_right_141, li_0, li_1, li_2, li_3, li_4, li_5, li_6, li_9, li_10, li_40, lm_1, lm_2, lm_3, lm_4, zs_ap, i32_add, i32_sub, i32_mul, i32_neg, i32_lt, i32_le, i32_eq, i32_nat, ckn, pka_r, pka_v, if_pos, if_neg, if_true, if_false, e69]
  · rw [if_neg c]
    unfold rOK at c
    by_cases c1 : Z 140 70 ≤ to ∧ to ≤ 999
    · by_cases c2 : 0 ≤ k ∧ k < nd
      · have c5 : ¬ (0 ≤ st ∧ st ≤ 1) := fun q => c ⟨⟨c1, c2⟩, q⟩
        clear c
        simp (disch := omega) only [k_X11_right_0, k_X11_right_13, k_X11_right_16, k_X11_right_29, k_X11_right_32, k_X11_right_36, k_X11_right_39, k_X11_right_51, k_X11_right_54, k_X11_right_69, k_X11_right_79, k_X11_right_89, k_X11_right_114, k_X11_right_123, k_X11_right_127, k_X11_right_131, k_X11_right_132, k_X11_right_141, li_0, li_1, li_2, li_3, li_4, li_5, li_6, li_9, li_10, li_40, lm_1, lm_2, lm_3, lm_4, zs_ap, i32_add, i32_sub, i32_mul, i32_neg, i32_lt, i32_le, i32_eq, i32_nat, ckn, pka_r, pka_v, if_pos, if_neg, if_true, if_false, i32_to64, lj_n999, lj_0, lj_1, i64_sub, s_inZ, s_isStop, bI_t, bI_f, v1]
      · clear c
        simp (disch := omega) only [k_X11_right_0, k_X11_right_13, k_X11_right_16, k_X11_right_29, k_X11_right_32, k_X11_right_36, k_X11_right_39, k_X11_right_51, k_X11_right_54, k_X11_right_69, k_X11_right_79, k_X11_right_89, k_X11_right_114, k_X11_right_123, k_X11_right_127, k_X11_right_131, k_X11_right_132, k_X11_right_141, li_0, li_1, li_2, li_3, li_4, li_5, li_6, li_9, li_10, li_40, lm_1, lm_2, lm_3, lm_4, zs_ap, i32_add, i32_sub, i32_mul, i32_neg, i32_lt, i32_le, i32_eq, i32_nat, ckn, pka_r, pka_v, if_pos, if_neg, if_true, if_false, i32_to64, lj_n999, lj_0, lj_1, i64_sub, s_inZ, s_isStop, bI_t, bI_f, v1]
    · clear c
      simp (disch := omega) only [k_X11_right_0, k_X11_right_13, k_X11_right_16, k_X11_right_29, k_X11_right_32, k_X11_right_36, k_X11_right_39, k_X11_right_51, k_X11_right_54, k_X11_right_69, k_X11_right_79, k_X11_right_89, k_X11_right_114, k_X11_right_123, k_X11_right_127, k_X11_right_131, k_X11_right_132, k_X11_right_141, li_0, li_1, li_2, li_3, li_4, li_5, li_6, li_9, li_10, li_40, lm_1, lm_2, lm_3, lm_4, zs_ap, i32_add, i32_sub, i32_mul, i32_neg, i32_lt, i32_le, i32_eq, i32_nat, ckn, pka_r, pka_v, if_pos, if_neg, if_true, if_false, i32_to64, lj_n999, lj_0, lj_1, i64_sub, s_inZ, s_isStop, bI_t, bI_f, v1]
end
