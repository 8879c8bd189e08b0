/-! THE CLASS'S cut and edge -/
theorem KM_ac {m : Mat} {k n n' : Nat} {Z : Nat → Nat → Int} (hP : qP m ≤ 6) (hm : KM (acut m k n) 97 Z) : KM (acut m k n') 97 (u2 Z 100 k (n' : Int)) := by
  have hP2 : qP (acut m k n) ≤ 6 := hP
  refine ⟨?_, fun j hj => ?_, fun j hj i hi => ?_, fun i hi => ?_⟩
  · rw [u2_ne (by omega)]
    exact hm.1
  · obtain ⟨t1, t2, t3, t4⟩ := hm.2.1 j hj
    rw [u2_ne (show 97 + 2 ≠ 100 by omega), u2_ne (show 97 + 4 ≠ 100 by omega), u2_ne (show 97 + 5 ≠ 100 by omega)]
    refine ⟨t1, ?_, t3, t4⟩
    by_cases c : j = k
    · subst c
      rw [show (97 + 3 : Nat) = 100 from rfl, u2s, acut_c]
    · rw [show (97 + 3 : Nat) = 100 from rfl, u2f c, acut_o c]
      rw [acut_o c] at t2
      exact t2
  · have hj2 : j < qP m := hj
    rw [u2_ne (by omega)]
    exact hm.2.2.1 j hj i hi
  · rw [u2_ne (by omega), u2_ne (by omega)]
    exact hm.2.2.2 i hi
theorem prodD_q {m : Mat} {g : Nat → Int} : ∀ j : Nat, (∀ k : Nat, k < j → g k = (qcut m k : Int)) → prodD g j = (qpl m j : Int)
  | 0, _ => rfl
  | j + 1, h => by
    show prodD g j * (g j + 1) = ((qpl m j * (qcut m j + 1) : Nat) : Int)
    rw [prodD_q j (fun k hk => h k (by omega)), h j (by omega), Int.natCast_mul]
    rfl
theorem acut_Nb {m : Mat} (hw : wf m) {k n : Nat} (hk : k < qP m) (hn : n ≤ 9) : qN (acut m k n) ≤ 4000 := by
  rw [acut_N hk]
  have h1 := hw.2.2.2.2.2.2
  have h2 : qN m / (qcut m k + 1) ≤ 400 := Nat.le_trans (Nat.div_le_self _ _) h1
  have h3 := Nat.mul_le_mul h2 (show n + 1 ≤ 10 by omega)
  omega
section
variable {d : Nat} {J : Nat → Nat → Int64} {Z : Nat → Nat → Int} {p0 p1 p5 p6 : Nat} {m : Mat}
/-- what the class's trials of parts keep -/
def KV (m : Mat) (k : Nat) (Z : Nat → Nat → Int) (J : Nat → Nat → Int64) (y : (Nat → Nat → Int) × (Nat → Nat → Int64) × Nat × Nat) : Prop := TF Z y.1 ∧ TJf J y.2.1 ∧ ∃ n : Nat, KM (acut m k n) 97 y.1
theorem cut_it (h : KI m p0 Z) {k j : Nat} (hk : k < qP m) (hj : j < 9 - qkept m k) {y : (Nat → Nat → Int) × (Nat → Nat → Int64) × Nat × Nat} (hy : KV m k Z J y) : ∃ y' : (Nat → Nat → Int) × (Nat → Nat → Int64) × Nat × Nat, KV m k Z J y' ∧ den none (Mean (d + 5)) (some .int) tQ_X9_leastCut (26, [some (.ref 95), some (.int (i32 (k : Int))), some (.int (i32 ((qkept m k + 1 + j : Nat) : Int)))], [], 176, zs y.1, y.2.1, RP p0 p1 p0 35 p0 y.2.2.1 y.2.2.2 97) = if pCut m k j then some (some (.int (i32 ((qkept m k + 1 + j : Nat) : Int))), (176, zs y'.1, y'.2.1, RP p0 p1 p0 35 p0 y'.2.2.1 y'.2.2.2 97)) else den none (Mean (d + 5)) (some .int) tQ_X9_leastCut (26, [some (.ref 95), some (.int (i32 (k : Int))), some (.int (i32 ((qkept m k + 1 + (j + 1) : Nat) : Int)))], [], 176, zs y'.1, y'.2.1, RP p0 p1 p0 35 p0 y'.2.2.1 y'.2.2.2 97) := by
  obtain ⟨Z1, J1, q5, q6⟩ := y
  obtain ⟨y1, y2, n0, y3⟩ := hy
  simp only at y1 y2 y3
  dsimp only
  obtain ⟨hw, hp, hm, hs⟩ := h
  have hP := hw.2.1
  have hS := hw.1
  have hkc := hw.2.2.1 k hk
  generalize hn : qkept m k + 1 + j = n
  have hnb : qkept m k < n ∧ n ≤ 9 := by omega
  have hm2 := KM_ac (n' := n) hP y3
  generalize hZ2 : u2 Z1 100 k (n : Int) = Z2 at hm2
  have f2 : TF Z Z2 := fun a ha => by rw [← hZ2, u2_ne (by omega)]; exact y1 a ha
  have pr := h_product (d := d + 4) (J := J1) (p0 := p0) (p1 := p1) (p2 := p0) (p3 := 35) (p4 := p0) (p5 := q5) (p6 := q6) (p7 := 97) (Z := Z2) (h := 97) (by unfold hv3; omega) (P := qP m) hP hm2.1.2.1
  rw [show prodD (Z2 (97 + 3)) (qP m) = (qN (acut m k n) : Int) from prodD_q (qP m) (fun k' hk' => (hm2.2.1 k' hk').2.1)] at pr
  have hNb := acut_Nb hw hk hnb.2
  unfold pCut
  have hnn : ((qkept m k + 1 + (j + 1) : Nat) : Int) = (n : Int) + 1 := by omega
  rw [hn, hnn]
  by_cases cN : qN (acut m k n) ≤ 400
  · have hw2 := acut_wf hw hk hnb.1 hnb.2 cN
    obtain ⟨Z3, l1, l2, l3⟩ := h_lay_b (d := d + 2) (J := J1) (p0 := p0) (p1 := p1) (p2 := p0) (p3 := 35) (p4 := p0) (p5 := q5) (p6 := q6) (q9 := 97) hw2 hm2
    have hm3 : KM (acut m k n) 97 Z3 := KM_fr hw2.2.1 hm2 (fun a h1 h2 => l1 a (by omega) (by omega) (by omega))
    have f3 : TF Z Z3 := fun a ha => (l1 a (by omega) (by omega) (by omega)).trans (f2 a ha)
    obtain ⟨Z4, J4, o1, o2, o3⟩ := h_holds_b (d := d) (J := J1) (p0 := p0) (p1 := p1) (p5 := q5) (p6 := q6) hp hw2 hm3 l2 (b := qbre m) (fun i hi => by
      refine ⟨?_, (hw.2.2.2.2.1 i hi).2⟩
      have hp' := hp
      unfold hv2 at hp'
      rw [f3 _ (by omega)]
      exact (hm.2.2.2 i hi).2)
    refine ⟨(Z4, J4, 121, 97), ⟨fun a ha => (o1 a (by omega) (by omega) (by omega) (by omega)).trans (f3 a ha), TJ_tr y2 o2, n, KM_fr hw2.2.1 hm3 (fun a h1 h2 => o1 a (by omega) (by omega) (by omega) (by omega))⟩, ?_⟩
    rw [decide_eq_true cN, Bool.true_and, k_X9_leastCut_26]
    cases ch : hdm (acut m k n) (qbre m)
    · rw [ch, bBf] at o3
      simp (disch := omega) only [k_X9_leastCut_14, k_X9_leastCut_23, k_X9_leastCut_32, k_X9_leastCut_42, k_X9_leastCut_49, k_X9_leastCut_55, k_X9_leastCut_66, k_X9_leastCut_77, k_X9_leastCut_80, k_X9_leastCut_82, k_X9_leastCut_88, li_0, li_1, li_2, li_3, li_4, li_5, li_6, li_9, li_10, li_40, lm_1, lm_2, lm_3, lm_4, zs_ap, i32_add, i32_sub, i32_mul, i32_neg, i32_lt, i32_le, i32_eq, i32_nat, ckn, pka_r, pka_v, if_pos, if_neg, if_true, if_false, Int.toNat_natCast, zs_u2, hZ2, pr, l3, o3, Bool.false_eq_true, li_400]
    · rw [ch, bBt] at o3
      simp (disch := omega) only [k_X9_leastCut_14, k_X9_leastCut_23, k_X9_leastCut_32, k_X9_leastCut_42, k_X9_leastCut_49, k_X9_leastCut_55, k_X9_leastCut_66, k_X9_leastCut_77, k_X9_leastCut_80, k_X9_leastCut_82, k_X9_leastCut_88, li_0, li_1, li_2, li_3, li_4, li_5, li_6, li_9, li_10, li_40, lm_1, lm_2, lm_3, lm_4, zs_ap, i32_add, i32_sub, i32_mul, i32_neg, i32_lt, i32_le, i32_eq, i32_nat, ckn, pka_r, pka_v, if_pos, if_neg, if_true, if_false, Int.toNat_natCast, zs_u2, hZ2, pr, l3, o3, li_400]
  · refine ⟨(Z2, J1, q5, q6), ⟨f2, y2, n, hm2⟩, ?_⟩
    rw [decide_eq_false cN, Bool.false_and, k_X9_leastCut_26]
    simp (disch := omega) only [k_X9_leastCut_14, k_X9_leastCut_23, k_X9_leastCut_32, k_X9_leastCut_42, k_X9_leastCut_49, k_X9_leastCut_55, k_X9_leastCut_66, k_X9_leastCut_77, k_X9_leastCut_80, k_X9_leastCut_82, k_X9_leastCut_88, li_0, li_1, li_2, li_3, li_4, li_5, li_6, li_9, li_10, li_40, lm_1, lm_2, lm_3, lm_4, zs_ap, i32_add, i32_sub, i32_mul, i32_neg, i32_lt, i32_le, i32_eq, i32_nat, ckn, pka_r, pka_v, if_pos, if_neg, if_true, if_false, Int.toNat_natCast, zs_u2, hZ2, pr, Bool.false_eq_true, li_400]
theorem h_cut (h : KI m p0 Z) {k : Int} (hk : -2147483648 ≤ k ∧ k < 2147483648) : ∃ (Z' : Nat → Nat → Int) (J' : Nat → Nat → Int64) (q5 q6 : Nat), TF Z Z' ∧ TJf J J' ∧ Mean (d + 7) 126 [.ref 0, .int (i32 k)] (176, zs Z, J, RP p0 p1 p0 35 p0 p5 p6 97) = some (some (.int (i32 (aCut m k))), (176, zs Z', J', RP p0 p1 p0 35 p0 q5 q6 97)) := by
  have hw := h.1
  have hp := h.2.1
  have hm := h.2.2.1
  have hP := hw.2.1
  have hp' := hp
  unfold hv2 at hp'
  have hpc := h_hasPiece (d := d + 5) (J := J) (Z := Z) (p0 := p0) (p1 := p1) (p2 := p0) (p3 := 35) (p4 := p0) (p5 := p5) (p6 := p6) (p7 := 97) (h := p0) (by unfold hv3; omega) hP hm.1.2.1 (a := k) hk
  unfold aCut
  by_cases c : 0 ≤ k ∧ k < qP m
  · obtain ⟨k', rfl⟩ := Int.eq_ofNat_of_zero_le c.1
    have hkP : k' < qP m := by omega
    have hkc := hw.2.2.1 k' hkP
    rw [bI_t c] at hpc
    rw [if_pos c, Int.toNat_natCast]
    obtain ⟨Z1, J1, a1, a2, a3, a4⟩ := h_copyFrom (d := d + 3) (J := J) (Z := Z) (p0 := p0) (p1 := p1) (p2 := p0) (p3 := 35) (p4 := p0) (p5 := p5) (p6 := p6) (p7 := 97) (a0 := p0) hp' hw hm
    have z1 : Z1 101 k' = (qkept m k' : Int) := (a3.2.1 k' hkP).2.2.1
    have key := srchV (fun (j : Nat) (y : (Nat → Nat → Int) × (Nat → Nat → Int64) × Nat × Nat) => den none (Mean (d + 5)) (some .int) tQ_X9_leastCut (26, [some (.ref 95), some (.int (i32 (k' : Int))), some (.int (i32 ((qkept m k' + 1 + j : Nat) : Int)))], [], 176, zs y.1, y.2.1, RP p0 p1 p0 35 p0 y.2.2.1 y.2.2.2 97)) (fun y => KV m k' Z J y) (pCut m k') (9 - qkept m k') (fun j r => ∃ y : (Nat → Nat → Int) × (Nat → Nat → Int64) × Nat × Nat, KV m k' Z J y ∧ r = some (some (.int (i32 ((qkept m k' + 1 + j : Nat) : Int))), (176, zs y.1, y.2.1, RP p0 p1 p0 35 p0 y.2.2.1 y.2.2.2 97))) (fun j y hj hy hpc => by
      obtain ⟨y', b1, b2⟩ := cut_it (d := d) (p1 := p1) h hkP hj hy
      rw [if_pos hpc] at b2
      exact ⟨y', b1, b2⟩) (fun j y hj hy hpc => by
      obtain ⟨y', b1, b2⟩ := cut_it (d := d) (p1 := p1) h hkP hj hy
      rw [if_neg (by rw [hpc]; exact Bool.false_ne_true)] at b2
      exact ⟨y', b1, b2⟩) (Z1, J1, p5, p6) ⟨fun a ha => a1 a (by omega), fun a ha => a2 a (by omega), qcut m k', by rw [acut_id]; exact a3⟩
    have e1 : Mean (d + 6) 102 [.ref 95, .int (i32 (k' : Int))] (176, zs Z, J, RP p0 p1 p0 35 p0 p5 p6 97) = den none (Mean (d + 5)) (some .int) tQ_X9_leastCut (26, [some (.ref 95), some (.int (i32 (k' : Int))), some (.int (i32 ((qkept m k' + 1 + 0 : Nat) : Int)))], [], 176, zs Z1, J1, RP p0 p1 p0 35 p0 p5 p6 97) := by
      rw [e_X9_leastCut, k_X9_leastCut_0]
      simp (disch := omega) only [k_X9_leastCut_14, k_X9_leastCut_23, k_X9_leastCut_32, k_X9_leastCut_42, k_X9_leastCut_49, k_X9_leastCut_55, k_X9_leastCut_66, k_X9_leastCut_77, k_X9_leastCut_80, k_X9_leastCut_82, k_X9_leastCut_88, li_0, li_1, li_2, li_3, li_4, li_5, li_6, li_9, li_10, li_40, lm_1, lm_2, lm_3, lm_4, zs_ap, i32_add, i32_sub, i32_mul, i32_neg, i32_lt, i32_le, i32_eq, i32_nat, ckn, pka_r, pka_v, if_pos, if_neg, if_true, if_false, Int.toNat_natCast, a4, z1]
      rfl
    cases ca : anyN (pCut m k') (9 - qkept m k')
    · obtain ⟨y', b1, b2⟩ := key.2 ca
      refine ⟨y'.1, y'.2.1, y'.2.2.1, y'.2.2.2, b1.1, b1.2.1, ?_⟩
      rw [if_neg Bool.false_ne_true, e_X10_cut, k_X10_cut_0 (hv_p0 := by omega)]
      have e2 := e1.trans b2
      rw [k_X9_leastCut_26] at e2
      simp (disch := omega) only [k_X9_leastCut_88, li_9, i32_lt, if_pos] at e2
      simp (disch := omega) only [k_X10_cut_8, k_X10_cut_11, k_X10_cut_19, k_X10_cut_22, k_X10_cut_24, li_0, li_1, li_2, li_3, li_4, li_5, li_6, li_9, li_10, li_40, lm_1, lm_2, lm_3, lm_4, zs_ap, i32_add, i32_sub, i32_mul, i32_neg, i32_lt, i32_le, i32_eq, i32_nat, ckn, pka_r, pka_v, if_pos, if_neg, if_true, if_false, hpc, e2]
    · obtain ⟨y', b1, b2⟩ := key.1 ca
      refine ⟨y'.1, y'.2.1, y'.2.2.1, y'.2.2.2, b1.1, b1.2.1, ?_⟩
      rw [if_pos rfl, e_X10_cut, k_X10_cut_0 (hv_p0 := by omega)]
      have e2 := e1.trans b2
      simp (disch := omega) only [k_X10_cut_8, k_X10_cut_11, k_X10_cut_19, k_X10_cut_22, k_X10_cut_24, li_0, li_1, li_2, li_3, li_4, li_5, li_6, li_9, li_10, li_40, lm_1, lm_2, lm_3, lm_4, zs_ap, i32_add, i32_sub, i32_mul, i32_neg, i32_lt, i32_le, i32_eq, i32_nat, ckn, pka_r, pka_v, if_pos, if_neg, if_true, if_false, hpc, e2]
  · rw [bI_f c] at hpc
    refine ⟨Z, J, p5, p6, fun _ _ => rfl, fun _ _ => rfl, ?_⟩
    rw [if_neg c, e_X10_cut, k_X10_cut_0 (hv_p0 := by omega)]
    simp (disch := omega) only [k_X10_cut_8, k_X10_cut_11, k_X10_cut_19, k_X10_cut_22, k_X10_cut_24, li_0, li_1, li_2, li_3, li_4, li_5, li_6, li_9, li_10, li_40, lm_1, lm_2, lm_3, lm_4, zs_ap, i32_add, i32_sub, i32_mul, i32_neg, i32_lt, i32_le, i32_eq, i32_nat, ckn, pka_r, pka_v, if_pos, if_neg, if_true, if_false, hpc]
end
