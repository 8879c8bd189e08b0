/-! THE CLASS'S Hearing -/
def sgR (m : Mat) (s c : Nat) (gv : Int) : Int := if ((48 < c ∧ c ≤ 48 + 9 * qP m) ∧ (gv = -1 ∨ (qown m (jp c) : Int) = gv)) ∧ qmay m s (jp c) (jq c) = true then ((s - jq c * qpl m (jp c) : Nat) : Int) else -1
section
variable {d : Nat} {J : Nat → Nat → Int64} {Z : Nat → Nat → Int} {p0 p1 p5 p6 : Nat} {m : Mat} {tp : Nat → Nat}
theorem h_sign (h : KI m p0 Z) {s c : Nat} (hs : s < qN m) (hc : c < 256) {gv : Int} (hg : -1 ≤ gv ∧ gv < 3) : Mean (d + 3) 17 [.ref 129, .int (i32 (s : Int)), .int (i32 (c : Int)), .int (i32 gv)] (176, zs Z, J, RP p0 p1 p0 35 p0 p5 p6 97) = some (some (.int (i32 (sgR m s c gv))), (176, zs Z, J, RP p0 p1 p0 35 p0 p5 p6 97)) := by
  obtain ⟨hw, hp, hm, hk⟩ := h
  have hP := hw.2.1
  have hS := hw.1
  have hp' := hp
  unfold hv2 at hp'
  have l48 : (48 : Int32) = i32 48 := rfl
  have ec : i32 (c : Int) - i32 48 - i32 1 = i32 ((c : Int) - 49) := by
    rw [i32_sub, i32_sub]
    congr 1
    omega
  rw [e_X1_stateBehindSign, k_X1_stateBehindSign_0]
  simp only [l48, li_1, li_0, li_9, ec]
  by_cases c1 : 48 < c
  · have e1 : (c : Int) - 49 = ((c - 49 : Nat) : Int) := by omega
    have e2 : i32 ((c - 49 : Nat) : Int) / i32 9 = i32 ((jp c : Nat) : Int) := by
      rw [i32_div (by omega) (by omega)]
      congr 1
    have hjp : jp c < 24 := by
      unfold jp
      omega
    have hpc := h_hasPiece (d := d + 1) (J := J) (Z := Z) (p0 := p0) (p1 := p1) (p2 := p0) (p3 := 35) (p4 := p0) (p5 := p5) (p6 := p6) (p7 := 97) (h := p0) (by unfold hv3; omega) hP hm.1.2.1 (a := ((jp c : Nat) : Int)) (by omega)
    rw [e1]
    by_cases c2 : c ≤ 48 + 9 * qP m
    · have hjP : jp c < qP m := by
        unfold jp
        omega
      have hown := (hw.2.2.1 (jp c) hjP).1
      have hjq : 1 ≤ jq c ∧ jq c ≤ 9 := by
        unfold jq
        omega
      rw [bI_t (by omega)] at hpc
      have sb := h_stateBehind (d := d + 0) (J := J) (p0 := p0) (p1 := p1) (p2 := p0) (p3 := 35) (p4 := p0) (p5 := p5) (p6 := p6) (p7 := 97) hp' hw hm hk.1 hs hjP (q := jq c) (by omega)
      have em : i32 ((c - 49 : Nat) : Int) - i32 ((jp c : Nat) : Int) * i32 9 + i32 1 = i32 ((jq c : Nat) : Int) := by
        rw [i32_mul, i32_sub, i32_add]
        congr 1
        unfold jp jq
        omega
      have zo : Z (p0 + 2) (jp c) = (qown m (jp c) : Int) := (hm.2.1 (jp c) hjP).1
      by_cases c3 : gv = -1
      · have hv : sgR m s c gv = if qmay m s (jp c) (jq c) then ((s - jq c * qpl m (jp c) : Nat) : Int) else -1 := by
          unfold sgR
          cases qmay m s (jp c) (jq c)
          · rw [if_neg (fun q => nomatch q.2), if_neg Bool.false_ne_true]
          · rw [if_pos ⟨⟨⟨c1, c2⟩, Or.inl c3⟩, rfl⟩, if_pos rfl]
        rw [hv]
        simp (disch := omega) only [e2, i32_lt, if_neg, k_X1_stateBehindSign_29, hpc, pka_v, pka_r, k_X1_stateBehindSign_36, li_0, li_1, li_9, lm_1, i32_neg, i32_eq, k_X1_stateBehindSign_41, if_pos c3, k_X1_stateBehindSign_60, em, sb, k_X1_stateBehindSign_77]
      · by_cases c4 : (qown m (jp c) : Int) = gv
        · have hv : sgR m s c gv = if qmay m s (jp c) (jq c) then ((s - jq c * qpl m (jp c) : Nat) : Int) else -1 := by
            unfold sgR
            cases qmay m s (jp c) (jq c)
            · rw [if_neg (fun q => nomatch q.2), if_neg Bool.false_ne_true]
            · rw [if_pos ⟨⟨⟨c1, c2⟩, Or.inr c4⟩, rfl⟩, if_pos rfl]
          rw [hv]
          simp (disch := omega) only [e2, i32_lt, if_neg, k_X1_stateBehindSign_29, hpc, pka_v, pka_r, k_X1_stateBehindSign_36, li_0, li_1, li_9, lm_1, i32_neg, i32_eq, k_X1_stateBehindSign_41, if_neg c3, k_X1_stateBehindSign_46, k_X1_stateBehindSign_54, i32_nat, ckn, zs_ap, Int.toNat_natCast, zo, if_pos c4, k_X1_stateBehindSign_60, em, sb, k_X1_stateBehindSign_77]
        · have hv : sgR m s c gv = -1 := if_neg (fun q => q.1.2.elim c3 c4)
          rw [hv]
          simp (disch := omega) only [e2, i32_lt, if_neg, k_X1_stateBehindSign_29, hpc, pka_v, pka_r, k_X1_stateBehindSign_36, li_0, li_1, li_9, lm_1, i32_neg, i32_eq, k_X1_stateBehindSign_41, if_neg c3, k_X1_stateBehindSign_46, k_X1_stateBehindSign_54, i32_nat, ckn, zs_ap, Int.toNat_natCast, zo, if_neg c4, k_X1_stateBehindSign_58]
    · have hjP : qP m ≤ jp c := by
        unfold jp
        omega
      rw [bI_f (by omega)] at hpc
      have hv : sgR m s c gv = -1 := if_neg (fun q => c2 q.1.1.2)
      rw [hv]
      simp (disch := omega) only [e2, i32_lt, if_neg, k_X1_stateBehindSign_29, hpc, pka_v, pka_r, k_X1_stateBehindSign_36, li_0, li_1, i32_neg, if_pos, if_true, k_X1_stateBehindSign_39]
  · have hv : sgR m s c gv = -1 := if_neg (fun q => c1 q.1.1.1)
    rw [hv]
    simp (disch := omega) only [i32_lt, if_pos, k_X1_stateBehindSign_39, li_1, i32_neg]
theorem jres_n : jres m none = -1 := rfl
theorem jres_s {to g : Nat} : jres m (some (to, g)) = if 0 < g ∨ qmode m = 0 then (to : Int) else -1 := rfl
theorem jgo_s {s k t j i to g : Nat} : jgo m tp s k t (j + 1) i to g = if tp (jwd m * k + i) = 48 then jgo m tp s k t j (i + 1) to g else if jok m s t i (tp (jwd m * k + i)) then jgo m tp s k t j (i + 1) (to - jq (tp (jwd m * k + i)) * qpl m (jp (tp (jwd m * k + i)))) (g + 1) else none := rfl
theorem jgo_0 {s k t i to g : Nat} : jgo m tp s k t 0 i to g = some (to, g) := rfl
theorem sgR_ok {s t i c : Nat} {gv : Int} (hg : (gv = -1 ∨ (qown m (jp c) : Int) = gv) ↔ qown m (jp c) = if qmode m = 2 then i else if qmode m = 0 then t else qown m (jp c)) : sgR m s c gv = if jok m s t i c then ((s - jq c * qpl m (jp c) : Nat) : Int) else -1 := by
  unfold sgR jok
  by_cases c1 : 48 < c ∧ c ≤ 48 + 9 * qP m
  · by_cases c2 : gv = -1 ∨ (qown m (jp c) : Int) = gv
    · rw [decide_eq_true c1, decide_eq_true (hg.mp c2), Bool.true_and, Bool.true_and]
      cases qmay m s (jp c) (jq c)
      · rw [if_neg (fun q => nomatch q.2), if_neg Bool.false_ne_true]
      · rw [if_pos ⟨⟨c1, c2⟩, rfl⟩, if_pos rfl]
    · rw [decide_eq_false (fun q => c2 (hg.mpr q)), Bool.false_and, Bool.and_false, if_neg (fun q => c2 q.1.2), if_neg Bool.false_ne_true]
  · rw [decide_eq_false c1, Bool.false_and, if_neg (fun q => c1 q.1.1), if_neg Bool.false_ne_true]
theorem sg_one (hw : wf m) {s k t : Nat} (hmd : qmode m ≠ 2) (hf : s ≠ qfin m) : (if qmode m = 1 then sgR m s (tp k) (-1) else if tp k = 48 then (s : Int) else sgR m s (tp k) (t : Int)) = jstep m tp s k t := by
  have hw1 : jwd m = 1 := if_neg hmd
  have hm2 := hw.2.2.2.2.2.1.2.2.1
  unfold jstep
  rw [if_neg hf, hw1, jgo_s, hw1, show 1 * k + 0 = k by omega, jgo_0, jgo_0]
  by_cases c1 : qmode m = 1
  · rw [if_pos c1]
    by_cases c48 : tp k = 48
    · rw [if_pos c48, jres_s, if_neg (show ¬ (0 < 0 ∨ qmode m = 0) by omega)]
      exact if_neg (fun q => by have := q.1.1.1; omega)
    · rw [if_neg c48, sgR_ok (t := t) (i := 0) (by rw [if_neg (by omega), if_neg (by omega)]; exact ⟨fun _ => rfl, fun _ => Or.inl rfl⟩)]
      cases jok m s t 0 (tp k)
      · rw [if_neg Bool.false_ne_true, if_neg Bool.false_ne_true, jres_n]
      · rw [if_pos rfl, if_pos rfl, jres_s, if_pos (Or.inl (by omega))]
  · have c0 : qmode m = 0 := by omega
    rw [if_neg c1]
    by_cases c48 : tp k = 48
    · rw [if_pos c48, if_pos c48, jres_s, if_pos (Or.inr c0)]
    · rw [if_neg c48, if_neg c48, sgR_ok (t := t) (i := 0) (by rw [if_neg (by omega), if_pos c0]; exact ⟨fun q => by omega, fun q => Or.inr (by omega)⟩)]
      cases jok m s t 0 (tp k)
      · rw [if_neg Bool.false_ne_true, if_neg Bool.false_ne_true, jres_n]
      · rw [if_pos rfl, if_pos rfl, jres_s, if_pos (Or.inl (by omega))]
theorem h_single (h : KI m p0 Z) {s c t : Nat} (hs : s < qN m) (hc : c < 256) (ht : t < 3) : Mean (d + 4) 16 [.ref 129, .int (i32 (s : Int)), .int (i32 (c : Int)), .int (i32 (t : Int))] (176, zs Z, J, RP p0 p1 p0 35 p0 p5 p6 97) = some (some (.int (i32 (if qmode m = 1 then sgR m s c (-1) else if c = 48 then (s : Int) else sgR m s c (t : Int)))), (176, zs Z, J, RP p0 p1 p0 35 p0 p5 p6 97)) := by
  have hp := h.2.1
  unfold hv2 at hp
  have hmd := h.1.2.2.2.2.2.1.2.2.1
  have z13 : Z p0 13 = (qmode m : Int) := h.2.2.1.1.2.2.2.2.1
  have l48 : (48 : Int32) = i32 48 := rfl
  have s1 := h_sign (d := d) (J := J) (p1 := p1) (p5 := p5) (p6 := p6) h hs hc (gv := -1) (by omega)
  have s2 := h_sign (d := d) (J := J) (p1 := p1) (p5 := p5) (p6 := p6) h hs hc (gv := (t : Int)) (by omega)
  rw [e_X1_stateBehindSingle, k_X1_stateBehindSingle_0 (hv_p2 := by omega)]
  by_cases c1 : qmode m = 1
  · rw [if_pos c1]
    simp (disch := omega) only [k_X1_stateBehindSingle_14, k_X1_stateBehindSingle_21, k_X1_stateBehindSingle_22, k_X1_stateBehindSingle_28, k_X1_stateBehindSingle_32, k_X1_stateBehindSingle_39, li_0, li_1, li_2, li_3, li_4, li_5, li_6, li_9, li_10, li_40, lm_1, lm_2, lm_3, lm_4, zs_ap, i32_add, i32_sub, i32_mul, i32_neg, i32_lt, i32_le, i32_eq, i32_nat, ckn, pka_r, pka_v, if_pos, if_neg, if_true, if_false, z13, s1]
  · rw [if_neg c1]
    by_cases c48 : c = 48
    · rw [if_pos c48]
      simp (disch := omega) only [k_X1_stateBehindSingle_14, k_X1_stateBehindSingle_21, k_X1_stateBehindSingle_22, k_X1_stateBehindSingle_28, k_X1_stateBehindSingle_32, k_X1_stateBehindSingle_39, li_0, li_1, li_2, li_3, li_4, li_5, li_6, li_9, li_10, li_40, lm_1, lm_2, lm_3, lm_4, zs_ap, i32_add, i32_sub, i32_mul, i32_neg, i32_lt, i32_le, i32_eq, i32_nat, ckn, pka_r, pka_v, if_pos, if_neg, if_true, if_false, z13, l48]
    · rw [if_neg c48]
      simp (disch := omega) only [k_X1_stateBehindSingle_14, k_X1_stateBehindSingle_21, k_X1_stateBehindSingle_22, k_X1_stateBehindSingle_28, k_X1_stateBehindSingle_32, k_X1_stateBehindSingle_39, li_0, li_1, li_2, li_3, li_4, li_5, li_6, li_9, li_10, li_40, lm_1, lm_2, lm_3, lm_4, zs_ap, i32_add, i32_sub, i32_mul, i32_neg, i32_lt, i32_le, i32_eq, i32_nat, ckn, pka_r, pka_v, if_pos, if_neg, if_true, if_false, z13, l48, s2]
theorem hs_loop (h : KI m p0 Z) (ht : TC tp Z) {len : Nat} (hl : len ≤ 700) (h1 : Z 1 1 = (len : Int)) (hm2 : qmode m = 2) {s k t : Nat} (hs : s < qN m) (hk : k < 41) (hkl : qS m * k + qS m ≤ len) (z130 : Z 130 k = (s : Int)) (x2 : Int32) : ∀ (j i to g : Nat) (o6 : Option Value), i + j = qS m → to < qN m → (g = 0 → to = s) → (0 < g → to < s) → (∀ q : Nat, q < qP m → i ≤ qown m q → qhas m to q = qhas m s q) → den none (Mean (d + 4)) (some .int) tQ_X1_stateBehindStep (47, [some (.ref 129), some (.int (i32 (k : Int))), some (.int x2), some (.ref p0), some (.int (i32 (to : Int))), some (.int (i32 (i : Int))), o6], [], 176, zs Z, J, RP p0 p1 p0 35 p0 p5 p6 97) = some (some (.int (i32 (jres m (jgo m tp s k t j i to g)))), (176, zs Z, J, RP p0 p1 p0 35 p0 p5 p6 97)) := by
  have hw := h.1
  have hS := hw.1
  have hN := hw.2.2.2.2.2.2
  have hp := h.2.1
  unfold hv2 at hp
  have z1 : Z p0 1 = (qS m : Int) := h.2.2.1.1.1
  have hjw : jwd m = qS m := if_pos hm2
  have l48 : (48 : Int32) = i32 48 := rfl
  intro j
  induction j with
  | zero =>
    intro i to g o6 hi hto hg0 hg1 hh
    rw [jgo_0, jres_s, k_X1_stateBehindStep_47 (hv_p2 := by omega)]
    by_cases cg : 0 < g
    · have := hg1 cg
      rw [if_pos (Or.inl cg)]
      simp (disch := omega) only [k_X1_stateBehindStep_16, k_X1_stateBehindStep_23, k_X1_stateBehindStep_31, k_X1_stateBehindStep_35, k_X1_stateBehindStep_36, k_X1_stateBehindStep_42, k_X1_stateBehindStep_56, k_X1_stateBehindStep_62, k_X1_stateBehindStep_78, k_X1_stateBehindStep_87, k_X1_stateBehindStep_92, k_X1_stateBehindStep_102, k_X1_stateBehindStep_110, k_X1_stateBehindStep_118, k_X1_stateBehindStep_121, k_X1_stateBehindStep_125, k_X1_stateBehindStep_127, li_0, li_1, li_2, li_3, li_4, li_5, li_6, li_9, li_10, li_40, lm_1, lm_2, lm_3, lm_4, zs_ap, i32_add, i32_sub, i32_mul, i32_neg, i32_lt, i32_le, i32_eq, i32_nat, ckn, pka_r, pka_v, if_pos, if_neg, if_true, if_false, z1, Int.toNat_natCast, z130]
    · have := hg0 (by omega)
      rw [if_neg (show ¬ (0 < g ∨ qmode m = 0) by omega)]
      simp (disch := omega) only [k_X1_stateBehindStep_16, k_X1_stateBehindStep_23, k_X1_stateBehindStep_31, k_X1_stateBehindStep_35, k_X1_stateBehindStep_36, k_X1_stateBehindStep_42, k_X1_stateBehindStep_56, k_X1_stateBehindStep_62, k_X1_stateBehindStep_78, k_X1_stateBehindStep_87, k_X1_stateBehindStep_92, k_X1_stateBehindStep_102, k_X1_stateBehindStep_110, k_X1_stateBehindStep_118, k_X1_stateBehindStep_121, k_X1_stateBehindStep_125, k_X1_stateBehindStep_127, li_0, li_1, li_2, li_3, li_4, li_5, li_6, li_9, li_10, li_40, lm_1, lm_2, lm_3, lm_4, zs_ap, i32_add, i32_sub, i32_mul, i32_neg, i32_lt, i32_le, i32_eq, i32_nat, ckn, pka_r, pka_v, if_pos, if_neg, if_true, if_false, z1, Int.toNat_natCast, z130]
  | succ j ih =>
    intro i to g o6 hi hto hg0 hg1 hh
    have ei : (k : Int) * (qS m : Int) + (i : Int) = ((qS m * k + i : Nat) : Int) := by
      rw [Int.natCast_add, Int.natCast_mul, Int.mul_comm]
    have at_ := h_at (d := d + 3) (J := J) (p0 := p0) (p1 := p1) (p2 := p0) (p3 := 35) (p4 := p0) (p5 := p5) (p6 := p6) (p7 := 97) ht hl h1 (k := qS m * k + i) (by omega)
    rw [← ei] at at_
    have hcb : tp (qS m * k + i) < 256 := by
      have := ht (qS m * k + i) (by omega)
      omega
    rw [jgo_s, hjw, k_X1_stateBehindStep_47 (hv_p2 := by omega)]
    generalize hc : tp (qS m * k + i) = c at *
    by_cases c48 : c = 48
    · rw [if_pos c48]
      have e := ih (i + 1) to g (some (.int (i32 (c : Int)))) (by omega) hto hg0 hg1 (fun q hq ho => hh q hq (by omega))
      simp (disch := omega) only [k_X1_stateBehindStep_16, k_X1_stateBehindStep_23, k_X1_stateBehindStep_31, k_X1_stateBehindStep_35, k_X1_stateBehindStep_36, k_X1_stateBehindStep_42, k_X1_stateBehindStep_56, k_X1_stateBehindStep_62, k_X1_stateBehindStep_78, k_X1_stateBehindStep_87, k_X1_stateBehindStep_92, k_X1_stateBehindStep_102, k_X1_stateBehindStep_110, k_X1_stateBehindStep_118, k_X1_stateBehindStep_121, k_X1_stateBehindStep_125, k_X1_stateBehindStep_127, li_0, li_1, li_2, li_3, li_4, li_5, li_6, li_9, li_10, li_40, lm_1, lm_2, lm_3, lm_4, zs_ap, i32_add, i32_sub, i32_mul, i32_neg, i32_lt, i32_le, i32_eq, i32_nat, ckn, pka_r, pka_v, if_pos, if_neg, if_true, if_false, z1, at_, l48]
      exact e
    · rw [if_neg c48]
      have sg := h_sign (d := d + 1) (J := J) (p1 := p1) (p5 := p5) (p6 := p6) h hto hcb (gv := (i : Int)) (by omega)
      rw [sgR_ok (t := t) (i := i) (by rw [if_pos hm2]; exact ⟨fun q => by omega, fun q => Or.inr (by omega)⟩)] at sg
      have ejk : jok m to t i c = jok m s t i c := by
        unfold jok
        by_cases c1 : 48 < c ∧ c ≤ 48 + 9 * qP m
        · by_cases c2 : qown m (jp c) = if qmode m = 2 then i else if qmode m = 0 then t else qown m (jp c)
          · have hjP : jp c < qP m := by
              unfold jp
              omega
            have c3 := c2
            rw [if_pos hm2] at c3
            rw [may_c (hh (jp c) hjP (by omega))]
          · rw [decide_eq_false c2, Bool.false_and, Bool.false_and]
        · rw [decide_eq_false c1, Bool.false_and, Bool.false_and]
      rw [ejk] at sg
      cases cj : jok m s t i c
      · rw [cj, if_neg Bool.false_ne_true] at sg
        rw [if_neg Bool.false_ne_true, jres_n]
        simp (disch := omega) only [k_X1_stateBehindStep_16, k_X1_stateBehindStep_23, k_X1_stateBehindStep_31, k_X1_stateBehindStep_35, k_X1_stateBehindStep_36, k_X1_stateBehindStep_42, k_X1_stateBehindStep_56, k_X1_stateBehindStep_62, k_X1_stateBehindStep_78, k_X1_stateBehindStep_87, k_X1_stateBehindStep_92, k_X1_stateBehindStep_102, k_X1_stateBehindStep_110, k_X1_stateBehindStep_118, k_X1_stateBehindStep_121, k_X1_stateBehindStep_125, k_X1_stateBehindStep_127, li_0, li_1, li_2, li_3, li_4, li_5, li_6, li_9, li_10, li_40, lm_1, lm_2, lm_3, lm_4, zs_ap, i32_add, i32_sub, i32_mul, i32_neg, i32_lt, i32_le, i32_eq, i32_nat, ckn, pka_r, pka_v, if_pos, if_neg, if_true, if_false, z1, at_, l48, sg]
        rw [k_X1_stateBehindStep_47 (hv_p2 := by omega)]
        by_cases cl : i + 1 < qS m
        · simp (disch := omega) only [k_X1_stateBehindStep_16, k_X1_stateBehindStep_23, k_X1_stateBehindStep_31, k_X1_stateBehindStep_35, k_X1_stateBehindStep_36, k_X1_stateBehindStep_42, k_X1_stateBehindStep_56, k_X1_stateBehindStep_62, k_X1_stateBehindStep_78, k_X1_stateBehindStep_87, k_X1_stateBehindStep_92, k_X1_stateBehindStep_102, k_X1_stateBehindStep_110, k_X1_stateBehindStep_118, k_X1_stateBehindStep_121, k_X1_stateBehindStep_125, k_X1_stateBehindStep_127, li_0, li_1, li_2, li_3, li_4, li_5, li_6, li_9, li_10, li_40, lm_1, lm_2, lm_3, lm_4, zs_ap, i32_add, i32_sub, i32_mul, i32_neg, i32_lt, i32_le, i32_eq, i32_nat, ckn, pka_r, pka_v, if_pos, if_neg, if_true, if_false, z1, Int.toNat_natCast, z130]
        · simp (disch := omega) only [k_X1_stateBehindStep_16, k_X1_stateBehindStep_23, k_X1_stateBehindStep_31, k_X1_stateBehindStep_35, k_X1_stateBehindStep_36, k_X1_stateBehindStep_42, k_X1_stateBehindStep_56, k_X1_stateBehindStep_62, k_X1_stateBehindStep_78, k_X1_stateBehindStep_87, k_X1_stateBehindStep_92, k_X1_stateBehindStep_102, k_X1_stateBehindStep_110, k_X1_stateBehindStep_118, k_X1_stateBehindStep_121, k_X1_stateBehindStep_125, k_X1_stateBehindStep_127, li_0, li_1, li_2, li_3, li_4, li_5, li_6, li_9, li_10, li_40, lm_1, lm_2, lm_3, lm_4, zs_ap, i32_add, i32_sub, i32_mul, i32_neg, i32_lt, i32_le, i32_eq, i32_nat, ckn, pka_r, pka_v, if_pos, if_neg, if_true, if_false, z1, Int.toNat_natCast, z130]
      · rw [cj, if_pos rfl] at sg
        rw [if_pos rfl]
        unfold jok at cj
        rw [Bool.and_eq_true, Bool.and_eq_true] at cj
        obtain ⟨a1, a2, a3⟩ := cj
        have a1 := of_decide_eq_true a1
        have a2 := of_decide_eq_true a2
        rw [if_pos hm2] at a2
        have hjP : jp c < qP m := by
          unfold jp
          omega
        rw [← may_c (hh (jp c) hjP (by omega))] at a3
        have hml := may_le a3
        have hle : to ≤ s := by
          by_cases cg : 0 < g
          · have := hg1 cg; omega
          · have := hg0 (by omega); omega
        have hlt : to - jq c * qpl m (jp c) < to := by
          have h2 := sub_le (m := m) (s := to) (k := jp c) (q := jq c) (by omega)
          have h3 := qpl_pos m (jp c)
          have h4 : 1 ≤ jq c * qpl m (jp c) := Nat.mul_pos (by omega) h3
          omega
        have e := ih (i + 1) (to - jq c * qpl m (jp c)) (g + 1) (some (.int (i32 (c : Int)))) (by omega) (by omega) (by omega) (fun _ => by omega) (fun q hq ho => by
          rw [has_sub hto hjP (by omega) hq, if_neg (fun e => by subst e; omega)]
          exact hh q hq (by omega))
        simp (disch := omega) only [k_X1_stateBehindStep_16, k_X1_stateBehindStep_23, k_X1_stateBehindStep_31, k_X1_stateBehindStep_35, k_X1_stateBehindStep_36, k_X1_stateBehindStep_42, k_X1_stateBehindStep_56, k_X1_stateBehindStep_62, k_X1_stateBehindStep_78, k_X1_stateBehindStep_87, k_X1_stateBehindStep_92, k_X1_stateBehindStep_102, k_X1_stateBehindStep_110, k_X1_stateBehindStep_118, k_X1_stateBehindStep_121, k_X1_stateBehindStep_125, k_X1_stateBehindStep_127, li_0, li_1, li_2, li_3, li_4, li_5, li_6, li_9, li_10, li_40, lm_1, lm_2, lm_3, lm_4, zs_ap, i32_add, i32_sub, i32_mul, i32_neg, i32_lt, i32_le, i32_eq, i32_nat, ckn, pka_r, pka_v, if_pos, if_neg, if_true, if_false, z1, at_, l48, sg]
        exact e
theorem h_step (h : KI m p0 Z) (ht : TC tp Z) {len : Nat} (hl : len ≤ 700) (h1 : Z 1 1 = (len : Int)) {s k t : Nat} (hs : s < qN m) (hf : s ≠ qfin m) (hk : k < 41) (hkl : jwd m * k + jwd m ≤ len) (z130 : Z 130 k = (s : Int)) (htS : t < 3) : Mean (d + 5) 15 [.ref 129, .int (i32 (k : Int)), .int (i32 (t : Int))] (176, zs Z, J, RP p0 p1 p0 35 p0 p5 p6 97) = some (some (.int (i32 (jstep m tp s k t))), (176, zs Z, J, RP p0 p1 p0 35 p0 p5 p6 97)) := by
  have hw := h.1
  have hmd := hw.2.2.2.2.2.1.2.2.1
  have hp := h.2.1
  unfold hv2 at hp
  have z13 : Z p0 13 = (qmode m : Int) := h.2.2.1.1.2.2.2.2.1
  rw [e_X1_stateBehindStep, k_X1_stateBehindStep_0 (hv_p2 := by omega)]
  by_cases c2 : qmode m = 2
  · have hjw : jwd m = qS m := if_pos c2
    rw [hjw] at hkl
    have e := hs_loop (d := d) (J := J) (p1 := p1) (p5 := p5) (p6 := p6) h ht hl h1 c2 (t := t) hs hk hkl z130 (i32 (t : Int)) (qS m) 0 s 0 none (by omega) hs (fun _ => rfl) (by omega) (fun _ _ _ => rfl)
    simp (disch := omega) only [k_X1_stateBehindStep_16, k_X1_stateBehindStep_23, k_X1_stateBehindStep_31, k_X1_stateBehindStep_35, k_X1_stateBehindStep_36, k_X1_stateBehindStep_42, k_X1_stateBehindStep_56, k_X1_stateBehindStep_62, k_X1_stateBehindStep_78, k_X1_stateBehindStep_87, k_X1_stateBehindStep_92, k_X1_stateBehindStep_102, k_X1_stateBehindStep_110, k_X1_stateBehindStep_118, k_X1_stateBehindStep_121, k_X1_stateBehindStep_125, k_X1_stateBehindStep_127, li_0, li_1, li_2, li_3, li_4, li_5, li_6, li_9, li_10, li_40, lm_1, lm_2, lm_3, lm_4, zs_ap, i32_add, i32_sub, i32_mul, i32_neg, i32_lt, i32_le, i32_eq, i32_nat, ckn, pka_r, pka_v, if_pos, if_neg, if_true, if_false, z13, c2, Int.toNat_natCast, z130]
    refine Eq.trans e ?_
    unfold jstep
    rw [if_neg hf, hjw]
  · have hjw : jwd m = 1 := if_neg c2
    rw [hjw] at hkl
    have at_ := h_at (d := d + 3) (J := J) (p0 := p0) (p1 := p1) (p2 := p0) (p3 := 35) (p4 := p0) (p5 := p5) (p6 := p6) (p7 := 97) ht hl h1 (k := k) (by omega)
    have hcb : tp k < 256 := by
      have := ht k (by omega)
      omega
    have sg := h_single (d := d) (J := J) (p1 := p1) (p5 := p5) (p6 := p6) h hs hcb htS
    rw [sg_one hw c2 hf] at sg
    simp (disch := omega) only [k_X1_stateBehindStep_16, k_X1_stateBehindStep_23, k_X1_stateBehindStep_31, k_X1_stateBehindStep_35, k_X1_stateBehindStep_36, k_X1_stateBehindStep_42, k_X1_stateBehindStep_56, k_X1_stateBehindStep_62, k_X1_stateBehindStep_78, k_X1_stateBehindStep_87, k_X1_stateBehindStep_92, k_X1_stateBehindStep_102, k_X1_stateBehindStep_110, k_X1_stateBehindStep_118, k_X1_stateBehindStep_121, k_X1_stateBehindStep_125, k_X1_stateBehindStep_127, li_0, li_1, li_2, li_3, li_4, li_5, li_6, li_9, li_10, li_40, lm_1, lm_2, lm_3, lm_4, zs_ap, i32_add, i32_sub, i32_mul, i32_neg, i32_lt, i32_le, i32_eq, i32_nat, ckn, pka_r, pka_v, if_pos, if_neg, if_true, if_false, z13, Int.toNat_natCast, z130, at_, sg]
end
