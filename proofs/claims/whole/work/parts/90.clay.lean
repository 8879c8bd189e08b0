/-! THE CLASS'S Space: lay -/
theorem dot_s (m : Mat) (g : Nat → Nat) (n : Nat) : qdot m g (n + 1) = qdot m g n + qpl m n * g n := rfl
theorem qdot_b {m : Mat} (hw : wf m) {g : Nat → Nat} (hg : ∀ k : Nat, k < qP m → g k ≤ qcut m k) {n : Nat} (hn : n ≤ qP m) : qdot m g n < 400 := by
  have h1 := qdot_lt (m := m) (g := g) n (fun k hk => hg k (by omega))
  have h2 := qpl_b hw hn
  omega
section
variable {d : Nat} {J : Nat → Nat → Int64} {Z : Nat → Nat → Int} {p0 p1 p2 p3 p4 p5 p6 p7 : Nat} {q9 : Nat} {m : Mat}
theorem h_lay_a (hp : p2 = 5 ∨ p2 = 20) (hw : wf m) (hm : KM m p2 Z) : ∃ Z' : Nat → Nat → Int, (∀ a : Nat, a ≠ 35 → a ≠ 36 → (a < 38 ∨ 41 < a) → Z' a = Z a) ∧ KS m 35 Z' ∧ Mean (d + 3) 77 [.ref 35, .ref p2] (176, zs Z, J, RP p0 p1 q9 p3 p4 p5 p6 p7) = some (none, (176, zs Z', J, RP p0 p1 p2 p3 p4 p5 p6 p7)) := by
  have hS := hw.1
  have hP := hw.2.1
  obtain ⟨Z1, ⟨v1, v2, v3, v4⟩, e1⟩ := up_inv (fun (k : Nat) (Z : Nat → Nat → Int) => den none (Mean (d + 2)) none tQ_X7_lay (22, [some (.ref 35), some (.ref p2), some (.int (i32 (k : Int)))], [], 176, zs Z, J, RP p0 p1 p2 p3 p4 p5 p6 p7)) (qP m) (fun k Z' => (∀ a : Nat, a ≠ 35 → a ≠ 36 → Z' a = Z a) ∧ (Z' 35 1 = qpl m k ∧ Z' 35 2 = qdot m (qcut m) k ∧ Z' 35 3 = qdot m (qkept m) k) ∧ (∀ j : Nat, j < k → Z' 36 j = qpl m j) ∧ True) (fun k Z1 hk hv => by
    obtain ⟨v1, ⟨v2, v3, v4⟩, v5, _⟩ := hv
    have hm1 : KM m p2 Z1 := KM_fr hP hm (fun a h1 h2 => v1 a (by omega) (by omega))
    have z2 : Z1 p2 2 = (qP m : Int) := hm1.1.2.1
    have z3 : Z1 (p2 + 3) k = (qcut m k : Int) := (hm1.2.1 k hk).2.1
    have z4 : Z1 (p2 + 4) k = (qkept m k : Int) := (hm1.2.1 k hk).2.2.1
    have hc := (hw.2.2.1 k hk)
    refine ⟨u2 (u2 (u2 (u2 Z1 36 k (qpl m k)) 35 2 (qdot m (qcut m) (k + 1))) 35 3 (qdot m (qkept m) (k + 1))) 35 1 (qpl m (k + 1)), ⟨fun a h1 h2 => ?_, ⟨u2s, ?_, ?_⟩, fun j hj => ?_, trivial⟩, ?_⟩
    · rw [u2_ne h1, u2_ne h1, u2_ne h1, u2_ne h2]
      exact v1 a h1 h2
    · rw [u2f (by decide), u2f (by decide), u2s]
    · rw [u2f (by decide), u2s]
    · rw [u2_ne (by decide), u2_ne (by decide), u2_ne (by decide)]
      by_cases cj : j = k
      · rw [cj, u2s]
      · rw [u2f cj]
        exact v5 j (by omega)
    · have a1 : ((qdot m (qcut m) k : Nat) : Int) + ((qcut m k : Nat) : Int) * ((qpl m k : Nat) : Int) = ((qdot m (qcut m) (k + 1) : Nat) : Int) := by
        rw [dot_s, Nat.mul_comm (qpl m k)]
        exact (Int.natCast_add _ _).symm ▸ (by rw [Int.natCast_mul])
      have a2 : ((qdot m (qkept m) k : Nat) : Int) + ((qkept m k : Nat) : Int) * ((qpl m k : Nat) : Int) = ((qdot m (qkept m) (k + 1) : Nat) : Int) := by
        rw [dot_s, Nat.mul_comm (qpl m k)]
        exact (Int.natCast_add _ _).symm ▸ (by rw [Int.natCast_mul])
      have a3 : ((qpl m k : Nat) : Int) * (((qcut m k : Nat) : Int) + 1) = ((qpl m (k + 1) : Nat) : Int) := by
        rw [pl_succ, Int.natCast_mul]
        rfl
      have n1 : ((p2 + 3) : Nat) ≠ 35 ∧ ((p2 + 4) : Nat) ≠ 35 ∧ ((p2 + 3) : Nat) ≠ 36 ∧ ((p2 + 4) : Nat) ≠ 36 := by omega
      obtain ⟨n1, n2, n3, n4⟩ := n1
      show den none (Mean (d + 2)) none tQ_X7_lay (22, _, [], 176, zs Z1, J, _) = _
      rw [k_X7_lay_22_a (p2 := 0) (hv_m := by omega)]
      simp (disch := omega) only [k_X7_lay_0_a, k_X7_lay_5_a (p2 := 0), k_X7_lay_30_a (p2 := 0), k_X7_lay_40_a (p2 := 0), k_X7_lay_51_a (p2 := 0), k_X7_lay_71_a (p2 := 0), k_X7_lay_91_a (p2 := 0), k_X7_lay_103_a (p2 := 0), k_X7_lay_113_a (p2 := 0), k_X7_lay_118_a (p2 := 0), k_X7_lay_124_a (p2 := 0), li_0, li_1, li_2, li_3, li_4, li_5, li_6, li_9, li_10, li_40, lm_1, lm_2, lm_3, lm_4, zs_ap, i32_add, i32_sub, i32_mul, i32_neg, i32_lt, i32_le, i32_eq, i32_nat, ckn, pka_r, pka_v, if_pos, if_neg, if_true, if_false, z2, v2, v3, v4, z3, z4, Int.toNat_natCast, zs_u2, u2a n1, u2a n2, u2a n3, u2a n4, u2a (show (35 : Nat) ≠ 36 by decide), u2f (show (3 : Nat) ≠ 2 by decide), u2f (show (1 : Nat) ≠ 2 by decide), u2f (show (1 : Nat) ≠ 3 by decide), a1, a2, a3]
      rfl) (u2 (u2 (u2 Z 35 1 1) 35 2 0) 35 3 0) ⟨fun a h1 h2 => by rw [u2_ne h1, u2_ne h1, u2_ne h1], ⟨by rw [u2f (by decide), u2f (by decide), u2s]; rfl, by rw [u2f (by decide), u2s]; rfl, by rw [u2s]; rfl⟩, fun j hj => by omega, trivial⟩
  have hm1 : KM m p2 Z1 := KM_fr hP hm (fun a h1 h2 => v1 a (by omega) (by omega))
  have z2 : Z1 p2 2 = (qP m : Int) := hm1.1.2.1
  have hW1 : KW m 35 Z1 := ⟨v2, v3⟩
  obtain ⟨Z2, ⟨w1, w2, w3, w4⟩, e2⟩ := up_inv (fun (i : Nat) (Z : Nat → Nat → Int) => den none (Mean (d + 2)) none tQ_X7_lay (105, [some (.ref 35), some (.ref p2), some (.int (i32 (i : Int)))], [], 176, zs Z, J, RP p0 p1 p2 p3 p4 p5 p6 p7)) (qS m) (fun i Z' => (∀ a : Nat, (a < 38 ∨ 41 < a) → Z' a = Z1 a) ∧ (∀ j : Nat, j < i → ∀ s : Nat, s < qN m → Z' (38 + j) s = qstop m s j) ∧ (∀ j : Nat, j < i → Z' 41 j = qgoal m j) ∧ True) (fun i Z2 hi hv => by
    obtain ⟨v1', v2', v3', _⟩ := hv
    have hm2 : KM m p2 Z2 := KM_fr hP hm1 (fun a h1 h2 => v1' a (by omega))
    have hW2 : KW m 35 Z2 := by
      unfold KW
      rw [v1' _ (by omega), v1' _ (by omega)]
      exact hW1
    have z1 : Z2 p2 1 = (qS m : Int) := hm2.1.1
    obtain ⟨Z3, b1, b2, b3, b4, b5⟩ := h_layStops_a (d := d) (J := J) (p0 := p0) (p1 := p1) (p2 := p2) (p3 := p3) (p4 := p4) (p5 := p5) (p6 := p6) (p7 := p7) hp hw hm2 hW2 hi
    refine ⟨Z3, ⟨fun a ha => (b1 a (by omega) (by omega)).trans (v1' a ha), fun j hj s hs => ?_, fun j hj => ?_, trivial⟩, ?_⟩
    · by_cases cj : j = i
      · rw [cj]
        exact b2 s hs
      · rw [b1 _ (by omega) (by omega)]
        exact v2' j (by omega) s hs
    · by_cases cj : j = i
      · rw [cj]
        exact b4
      · rw [b3 j cj]
        exact v3' j (by omega)
    · show den none (Mean (d + 2)) none tQ_X7_lay (105, _, [], 176, zs Z2, J, _) = _
      rw [k_X7_lay_105_a (p2 := 0) (hv_m := by omega)]
      simp (disch := omega) only [k_X7_lay_0_a, k_X7_lay_5_a (p2 := 0), k_X7_lay_30_a (p2 := 0), k_X7_lay_40_a (p2 := 0), k_X7_lay_51_a (p2 := 0), k_X7_lay_71_a (p2 := 0), k_X7_lay_91_a (p2 := 0), k_X7_lay_103_a (p2 := 0), k_X7_lay_113_a (p2 := 0), k_X7_lay_118_a (p2 := 0), k_X7_lay_124_a (p2 := 0), li_0, li_1, li_2, li_3, li_4, li_5, li_6, li_9, li_10, li_40, lm_1, lm_2, lm_3, lm_4, zs_ap, i32_add, i32_sub, i32_mul, i32_neg, i32_lt, i32_le, i32_eq, i32_nat, ckn, pka_r, pka_v, if_pos, if_neg, if_true, if_false, z1, b5]
      rfl) Z1 ⟨fun _ _ => rfl, fun j hj => by omega, fun j hj => by omega, trivial⟩
  have hm2 : KM m p2 Z2 := KM_fr hP hm1 (fun a h1 h2 => w1 a (by omega))
  have z1 : Z2 p2 1 = (qS m : Int) := hm2.1.1
  refine ⟨Z2, fun a h1 h2 h3 => (w1 a h3).trans (v1 a h1 h2), ⟨?_, w2, w3⟩, ?_⟩
  · unfold KW
    rw [w1 _ (by omega), w1 _ (by omega)]
    exact hW1
  · rw [e_X7_lay, k_X7_lay_0_a, k_X7_lay_5_a (p2 := 0)]
    simp only [li_0, li_1, zs_u2]
    refine Eq.trans e1 ?_
    show den none (Mean (d + 2)) none tQ_X7_lay (22, _, [], 176, zs Z1, J, _) = _
    rw [k_X7_lay_22_a (p2 := 0) (hv_m := by omega)]
    simp (disch := omega) only [k_X7_lay_0_a, k_X7_lay_5_a (p2 := 0), k_X7_lay_30_a (p2 := 0), k_X7_lay_40_a (p2 := 0), k_X7_lay_51_a (p2 := 0), k_X7_lay_71_a (p2 := 0), k_X7_lay_91_a (p2 := 0), k_X7_lay_103_a (p2 := 0), k_X7_lay_113_a (p2 := 0), k_X7_lay_118_a (p2 := 0), k_X7_lay_124_a (p2 := 0), li_0, li_1, li_2, li_3, li_4, li_5, li_6, li_9, li_10, li_40, lm_1, lm_2, lm_3, lm_4, zs_ap, i32_add, i32_sub, i32_mul, i32_neg, i32_lt, i32_le, i32_eq, i32_nat, ckn, pka_r, pka_v, if_pos, if_neg, if_true, if_false, z2]
    refine Eq.trans e2 ?_
    show den none (Mean (d + 2)) none tQ_X7_lay (105, _, [], 176, zs Z2, J, _) = _
    rw [k_X7_lay_105_a (p2 := 0) (hv_m := by omega)]
    simp (disch := omega) only [k_X7_lay_0_a, k_X7_lay_5_a (p2 := 0), k_X7_lay_30_a (p2 := 0), k_X7_lay_40_a (p2 := 0), k_X7_lay_51_a (p2 := 0), k_X7_lay_71_a (p2 := 0), k_X7_lay_91_a (p2 := 0), k_X7_lay_103_a (p2 := 0), k_X7_lay_113_a (p2 := 0), k_X7_lay_118_a (p2 := 0), k_X7_lay_124_a (p2 := 0), li_0, li_1, li_2, li_3, li_4, li_5, li_6, li_9, li_10, li_40, lm_1, lm_2, lm_3, lm_4, zs_ap, i32_add, i32_sub, i32_mul, i32_neg, i32_lt, i32_le, i32_eq, i32_nat, ckn, pka_r, pka_v, if_pos, if_neg, if_true, if_false, z1]
theorem h_partsLeft_a (hp : p2 = 5 ∨ p2 = 20) (hw : wf m) (hm : KM m p2 Z) (hk : KW m 35 Z) {s k : Nat} (hs : s < 1000) (hkP : k < qP m) : Mean (d + 1) 81 [.ref 35, .int (i32 (s : Int)), .int (i32 (k : Int))] (176, zs Z, J, RP p0 p1 p2 p3 p4 p5 p6 p7) = some (some (.int (i32 ((qhas m s k : Nat) : Int))), (176, zs Z, J, RP p0 p1 p2 p3 p4 p5 p6 p7)) := by
  have hP := hw.2.1
  have z3 : Z (p2 + 3) k = (qcut m k : Int) := (hm.2.1 k hkP).2.1
  have zw : Z 36 k = (qpl m k : Int) := hk.2 k hkP
  have hc := (hw.2.2.1 k hkP).2.1
  have hpl := qpl_b hw (k := k) (by omega)
  have e1 : ((s : Int)).tdiv ((qpl m k : Nat) : Int) = ((s / qpl m k : Nat) : Int) := rfl
  have hd : s / qpl m k ≤ s := Nat.div_le_self _ _
  have e2 := rem_q (a := s / qpl m k) (S := qcut m k + 1) (by omega) (by omega) (by omega)
  rw [show ((qcut m k + 1 : Nat) : Int) = ((qcut m k : Nat) : Int) + 1 by omega] at e2
  rw [e_X7_partsLeft, k_X7_partsLeft_0_a (hv_p2 := by omega)]
  simp (disch := omega) only [k_X7_partsLeft_9_a, k_X7_partsLeft_18_a, k_X7_partsLeft_21_a, k_X7_partsLeft_25_a, k_X7_partsLeft_32_a, k_X7_partsLeft_35_a, k_X7_partsLeft_38_a, k_X7_partsLeft_39_a, li_0, li_1, li_2, li_3, li_4, li_5, li_6, li_9, li_10, li_40, lm_1, lm_2, lm_3, lm_4, zs_ap, i32_add, i32_sub, i32_mul, i32_neg, i32_lt, i32_le, i32_eq, i32_nat, ckn, pka_r, pka_v, if_pos, if_neg, if_true, if_false, z3, zw, Int.toNat_natCast, i32_div, e1]
  rw [k_X7_partsLeft_33_a]
  simp (disch := omega) only [li_0, i32_eq, if_neg, k_X7_partsLeft_35_a, k_X7_partsLeft_39_a, e2]
  rfl
end
section
variable {d : Nat} {J : Nat → Nat → Int64} {Z : Nat → Nat → Int} {p0 p1 p2 p3 p4 p5 p6 : Nat} {q9 : Nat} {m : Mat}
theorem h_lay_b  (hw : wf m) (hm : KM m 97 Z) : ∃ Z' : Nat → Nat → Int, (∀ a : Nat, a ≠ 121 → a ≠ 122 → (a < 124 ∨ 127 < a) → Z' a = Z a) ∧ KS m 121 Z' ∧ Mean (d + 3) 77 [.ref 121, .ref 97] (176, zs Z, J, RP p0 p1 p2 p3 p4 p5 p6 q9) = some (none, (176, zs Z', J, RP p0 p1 p2 p3 p4 p5 p6 97)) := by
  have hS := hw.1
  have hP := hw.2.1
  obtain ⟨Z1, ⟨v1, v2, v3, v4⟩, e1⟩ := up_inv (fun (k : Nat) (Z : Nat → Nat → Int) => den none (Mean (d + 2)) none tQ_X7_lay (22, [some (.ref 121), some (.ref 97), some (.int (i32 (k : Int)))], [], 176, zs Z, J, RP p0 p1 p2 p3 p4 p5 p6 97)) (qP m) (fun k Z' => (∀ a : Nat, a ≠ 121 → a ≠ 122 → Z' a = Z a) ∧ (Z' 121 1 = qpl m k ∧ Z' 121 2 = qdot m (qcut m) k ∧ Z' 121 3 = qdot m (qkept m) k) ∧ (∀ j : Nat, j < k → Z' 122 j = qpl m j) ∧ True) (fun k Z1 hk hv => by
    obtain ⟨v1, ⟨v2, v3, v4⟩, v5, _⟩ := hv
    have hm1 : KM m 97 Z1 := KM_fr hP hm (fun a h1 h2 => v1 a (by omega) (by omega))
    have z2 : Z1 97 2 = (qP m : Int) := hm1.1.2.1
    have z3 : Z1 100 k = (qcut m k : Int) := (hm1.2.1 k hk).2.1
    have z4 : Z1 101 k = (qkept m k : Int) := (hm1.2.1 k hk).2.2.1
    have hc := (hw.2.2.1 k hk)
    refine ⟨u2 (u2 (u2 (u2 Z1 122 k (qpl m k)) 121 2 (qdot m (qcut m) (k + 1))) 121 3 (qdot m (qkept m) (k + 1))) 121 1 (qpl m (k + 1)), ⟨fun a h1 h2 => ?_, ⟨u2s, ?_, ?_⟩, fun j hj => ?_, trivial⟩, ?_⟩
    · rw [u2_ne h1, u2_ne h1, u2_ne h1, u2_ne h2]
      exact v1 a h1 h2
    · rw [u2f (by decide), u2f (by decide), u2s]
    · rw [u2f (by decide), u2s]
    · rw [u2_ne (by decide), u2_ne (by decide), u2_ne (by decide)]
      by_cases cj : j = k
      · rw [cj, u2s]
      · rw [u2f cj]
        exact v5 j (by omega)
    · have a1 : ((qdot m (qcut m) k : Nat) : Int) + ((qcut m k : Nat) : Int) * ((qpl m k : Nat) : Int) = ((qdot m (qcut m) (k + 1) : Nat) : Int) := by
        rw [dot_s, Nat.mul_comm (qpl m k)]
        exact (Int.natCast_add _ _).symm ▸ (by rw [Int.natCast_mul])
      have a2 : ((qdot m (qkept m) k : Nat) : Int) + ((qkept m k : Nat) : Int) * ((qpl m k : Nat) : Int) = ((qdot m (qkept m) (k + 1) : Nat) : Int) := by
        rw [dot_s, Nat.mul_comm (qpl m k)]
        exact (Int.natCast_add _ _).symm ▸ (by rw [Int.natCast_mul])
      have a3 : ((qpl m k : Nat) : Int) * (((qcut m k : Nat) : Int) + 1) = ((qpl m (k + 1) : Nat) : Int) := by
        rw [pl_succ, Int.natCast_mul]
        rfl
      have n1 : (100 : Nat) ≠ 121 ∧ (101 : Nat) ≠ 121 ∧ (100 : Nat) ≠ 122 ∧ (101 : Nat) ≠ 122 := by omega
      obtain ⟨n1, n2, n3, n4⟩ := n1
      show den none (Mean (d + 2)) none tQ_X7_lay (22, _, [], 176, zs Z1, J, _) = _
      rw [k_X7_lay_22_b (p7 := 0)]
      simp (disch := omega) only [k_X7_lay_0_b, k_X7_lay_5_b (p7 := 0), k_X7_lay_30_b (p7 := 0), k_X7_lay_40_b (p7 := 0), k_X7_lay_51_b (p7 := 0), k_X7_lay_71_b (p7 := 0), k_X7_lay_91_b (p7 := 0), k_X7_lay_103_b (p7 := 0), k_X7_lay_113_b (p7 := 0), k_X7_lay_118_b (p7 := 0), k_X7_lay_124_b (p7 := 0), li_0, li_1, li_2, li_3, li_4, li_5, li_6, li_9, li_10, li_40, lm_1, lm_2, lm_3, lm_4, zs_ap, i32_add, i32_sub, i32_mul, i32_neg, i32_lt, i32_le, i32_eq, i32_nat, ckn, pka_r, pka_v, if_pos, if_neg, if_true, if_false, z2, v2, v3, v4, z3, z4, Int.toNat_natCast, zs_u2, u2a n1, u2a n2, u2a n3, u2a n4, u2a (show (121 : Nat) ≠ 122 by decide), u2f (show (3 : Nat) ≠ 2 by decide), u2f (show (1 : Nat) ≠ 2 by decide), u2f (show (1 : Nat) ≠ 3 by decide), a1, a2, a3]
      rfl) (u2 (u2 (u2 Z 121 1 1) 121 2 0) 121 3 0) ⟨fun a h1 h2 => by rw [u2_ne h1, u2_ne h1, u2_ne h1], ⟨by rw [u2f (by decide), u2f (by decide), u2s]; rfl, by rw [u2f (by decide), u2s]; rfl, by rw [u2s]; rfl⟩, fun j hj => by omega, trivial⟩
  have hm1 : KM m 97 Z1 := KM_fr hP hm (fun a h1 h2 => v1 a (by omega) (by omega))
  have z2 : Z1 97 2 = (qP m : Int) := hm1.1.2.1
  have hW1 : KW m 121 Z1 := ⟨v2, v3⟩
  obtain ⟨Z2, ⟨w1, w2, w3, w4⟩, e2⟩ := up_inv (fun (i : Nat) (Z : Nat → Nat → Int) => den none (Mean (d + 2)) none tQ_X7_lay (105, [some (.ref 121), some (.ref 97), some (.int (i32 (i : Int)))], [], 176, zs Z, J, RP p0 p1 p2 p3 p4 p5 p6 97)) (qS m) (fun i Z' => (∀ a : Nat, (a < 124 ∨ 127 < a) → Z' a = Z1 a) ∧ (∀ j : Nat, j < i → ∀ s : Nat, s < qN m → Z' (124 + j) s = qstop m s j) ∧ (∀ j : Nat, j < i → Z' 127 j = qgoal m j) ∧ True) (fun i Z2 hi hv => by
    obtain ⟨v1', v2', v3', _⟩ := hv
    have hm2 : KM m 97 Z2 := KM_fr hP hm1 (fun a h1 h2 => v1' a (by omega))
    have hW2 : KW m 121 Z2 := by
      unfold KW
      rw [v1' _ (by omega), v1' _ (by omega)]
      exact hW1
    have z1 : Z2 97 1 = (qS m : Int) := hm2.1.1
    obtain ⟨Z3, b1, b2, b3, b4, b5⟩ := h_layStops_b (d := d) (J := J) (p0 := p0) (p1 := p1) (p2 := p2) (p3 := p3) (p4 := p4) (p5 := p5) (p6 := p6)  hw hm2 hW2 hi
    refine ⟨Z3, ⟨fun a ha => (b1 a (by omega) (by omega)).trans (v1' a ha), fun j hj s hs => ?_, fun j hj => ?_, trivial⟩, ?_⟩
    · by_cases cj : j = i
      · rw [cj]
        exact b2 s hs
      · rw [b1 _ (by omega) (by omega)]
        exact v2' j (by omega) s hs
    · by_cases cj : j = i
      · rw [cj]
        exact b4
      · rw [b3 j cj]
        exact v3' j (by omega)
    · show den none (Mean (d + 2)) none tQ_X7_lay (105, _, [], 176, zs Z2, J, _) = _
      rw [k_X7_lay_105_b (p7 := 0)]
      simp (disch := omega) only [k_X7_lay_0_b, k_X7_lay_5_b (p7 := 0), k_X7_lay_30_b (p7 := 0), k_X7_lay_40_b (p7 := 0), k_X7_lay_51_b (p7 := 0), k_X7_lay_71_b (p7 := 0), k_X7_lay_91_b (p7 := 0), k_X7_lay_103_b (p7 := 0), k_X7_lay_113_b (p7 := 0), k_X7_lay_118_b (p7 := 0), k_X7_lay_124_b (p7 := 0), li_0, li_1, li_2, li_3, li_4, li_5, li_6, li_9, li_10, li_40, lm_1, lm_2, lm_3, lm_4, zs_ap, i32_add, i32_sub, i32_mul, i32_neg, i32_lt, i32_le, i32_eq, i32_nat, ckn, pka_r, pka_v, if_pos, if_neg, if_true, if_false, z1, b5]
      rfl) Z1 ⟨fun _ _ => rfl, fun j hj => by omega, fun j hj => by omega, trivial⟩
  have hm2 : KM m 97 Z2 := KM_fr hP hm1 (fun a h1 h2 => w1 a (by omega))
  have z1 : Z2 97 1 = (qS m : Int) := hm2.1.1
  refine ⟨Z2, fun a h1 h2 h3 => (w1 a h3).trans (v1 a h1 h2), ⟨?_, w2, w3⟩, ?_⟩
  · unfold KW
    rw [w1 _ (by omega), w1 _ (by omega)]
    exact hW1
  · rw [e_X7_lay, k_X7_lay_0_b, k_X7_lay_5_b (p7 := 0)]
    simp only [li_0, li_1, zs_u2]
    refine Eq.trans e1 ?_
    show den none (Mean (d + 2)) none tQ_X7_lay (22, _, [], 176, zs Z1, J, _) = _
    rw [k_X7_lay_22_b (p7 := 0)]
    simp (disch := omega) only [k_X7_lay_0_b, k_X7_lay_5_b (p7 := 0), k_X7_lay_30_b (p7 := 0), k_X7_lay_40_b (p7 := 0), k_X7_lay_51_b (p7 := 0), k_X7_lay_71_b (p7 := 0), k_X7_lay_91_b (p7 := 0), k_X7_lay_103_b (p7 := 0), k_X7_lay_113_b (p7 := 0), k_X7_lay_118_b (p7 := 0), k_X7_lay_124_b (p7 := 0), li_0, li_1, li_2, li_3, li_4, li_5, li_6, li_9, li_10, li_40, lm_1, lm_2, lm_3, lm_4, zs_ap, i32_add, i32_sub, i32_mul, i32_neg, i32_lt, i32_le, i32_eq, i32_nat, ckn, pka_r, pka_v, if_pos, if_neg, if_true, if_false, z2]
    refine Eq.trans e2 ?_
    show den none (Mean (d + 2)) none tQ_X7_lay (105, _, [], 176, zs Z2, J, _) = _
    rw [k_X7_lay_105_b (p7 := 0)]
    simp (disch := omega) only [k_X7_lay_0_b, k_X7_lay_5_b (p7 := 0), k_X7_lay_30_b (p7 := 0), k_X7_lay_40_b (p7 := 0), k_X7_lay_51_b (p7 := 0), k_X7_lay_71_b (p7 := 0), k_X7_lay_91_b (p7 := 0), k_X7_lay_103_b (p7 := 0), k_X7_lay_113_b (p7 := 0), k_X7_lay_118_b (p7 := 0), k_X7_lay_124_b (p7 := 0), li_0, li_1, li_2, li_3, li_4, li_5, li_6, li_9, li_10, li_40, lm_1, lm_2, lm_3, lm_4, zs_ap, i32_add, i32_sub, i32_mul, i32_neg, i32_lt, i32_le, i32_eq, i32_nat, ckn, pka_r, pka_v, if_pos, if_neg, if_true, if_false, z1]
theorem h_partsLeft_b  (hw : wf m) (hm : KM m 97 Z) (hk : KW m 121 Z) {s k : Nat} (hs : s < 1000) (hkP : k < qP m) : Mean (d + 1) 81 [.ref 121, .int (i32 (s : Int)), .int (i32 (k : Int))] (176, zs Z, J, RP p0 p1 p2 p3 p4 p5 p6 97) = some (some (.int (i32 ((qhas m s k : Nat) : Int))), (176, zs Z, J, RP p0 p1 p2 p3 p4 p5 p6 97)) := by
  have hP := hw.2.1
  have z3 : Z 100 k = (qcut m k : Int) := (hm.2.1 k hkP).2.1
  have zw : Z 122 k = (qpl m k : Int) := hk.2 k hkP
  have hc := (hw.2.2.1 k hkP).2.1
  have hpl := qpl_b hw (k := k) (by omega)
  have e1 : ((s : Int)).tdiv ((qpl m k : Nat) : Int) = ((s / qpl m k : Nat) : Int) := rfl
  have hd : s / qpl m k ≤ s := Nat.div_le_self _ _
  have e2 := rem_q (a := s / qpl m k) (S := qcut m k + 1) (by omega) (by omega) (by omega)
  rw [show ((qcut m k + 1 : Nat) : Int) = ((qcut m k : Nat) : Int) + 1 by omega] at e2
  rw [e_X7_partsLeft, k_X7_partsLeft_0_b]
  simp (disch := omega) only [k_X7_partsLeft_9_b, k_X7_partsLeft_18_b, k_X7_partsLeft_21_b, k_X7_partsLeft_25_b, k_X7_partsLeft_32_b, k_X7_partsLeft_35_b, k_X7_partsLeft_38_b, k_X7_partsLeft_39_b, li_0, li_1, li_2, li_3, li_4, li_5, li_6, li_9, li_10, li_40, lm_1, lm_2, lm_3, lm_4, zs_ap, i32_add, i32_sub, i32_mul, i32_neg, i32_lt, i32_le, i32_eq, i32_nat, ckn, pka_r, pka_v, if_pos, if_neg, if_true, if_false, z3, zw, Int.toNat_natCast, i32_div, e1]
  rw [k_X7_partsLeft_33_b]
  simp (disch := omega) only [li_0, i32_eq, if_neg, k_X7_partsLeft_35_b, k_X7_partsLeft_39_b, e2]
  rfl
end
