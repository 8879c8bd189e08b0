/-! THE CLASS'S Trials: copyFrom, cut, edge -/
section
variable {d : Nat} {J : Nat → Nat → Int64} {Z : Nat → Nat → Int} {p0 p1 p2 p3 p4 p5 p6 p7 : Nat} {a0 : Nat} {m : Mat}
theorem h_copyPiece (hp : a0 = 5 ∨ a0 = 20) {k : Nat} (hk : k < 6) : ∃ (Z' : Nat → Nat → Int) (J' : Nat → Nat → Int64), ((∀ a : Nat, (a < 99 ∨ 109 < a) → Z' a = Z a) ∧ (∀ a j : Nat, a ≤ 102 → j ≠ k → Z' a j = Z a j) ∧ (∀ a : Nat, 103 ≤ a → a ≠ 104 + k → Z' a = Z a) ∧ (∀ a : Nat, a ≠ 98 → J' a = J a)) ∧ (Z' 99 k = Z (a0 + 2) k ∧ Z' 100 k = Z (a0 + 3) k ∧ Z' 101 k = Z (a0 + 4) k ∧ (0 ≤ Z (a0 + 5) k ∧ Z (a0 + 5) k ≤ 1 → Z' 102 k = Z (a0 + 5) k) ∧ ∀ i : Nat, i < 3 → Z' (104 + k) i = Z (a0 + 7 + k) i) ∧ Mean (d + 1) 35 [.ref 97, .ref a0, .int (i32 (k : Int))] (176, zs Z, J, RP p0 p1 p2 p3 p4 p5 p6 p7) = some (none, (176, zs Z', J', RP p0 p1 p2 p3 p4 p5 p6 p7)) := by
  obtain ⟨r1, r2⟩ := RPm (p0 := p0) (p1 := p1) (p2 := p2) (p3 := p3) (p4 := p4) (p5 := p5) (p6 := p6) (p7 := p7) (h := 97) (k := k) (by omega) hk
  obtain ⟨s1, s2⟩ := RPm (p0 := p0) (p1 := p1) (p2 := p2) (p3 := p3) (p4 := p4) (p5 := p5) (p6 := p6) (p7 := p7) (h := a0) (k := k) (by omega) hk
  have r1' : RP p0 p1 p2 p3 p4 p5 p6 p7 103 k = some (104 + k) := r1
  have r2' : pshn (104 + k) = some (.inl (.int, 3)) := r2
  generalize hv5 : (vp_nar .boolean (i32 (Z (a0 + 5) k))).toInt = v5
  have e5 : vp_nar .boolean (i32 (Z (a0 + 5) k)) = i32 v5 := by rw [← hv5]; exact i32_of _
  generalize hZ1 : u2 (u2 (u2 (u2 Z 99 k (Z (a0 + 2) k)) 100 k (Z (a0 + 3) k)) 101 k (Z (a0 + 4) k)) 102 k v5 = Z1
  have n1 : ∀ a : Nat, (a < 99 ∨ 102 < a) → Z1 a = Z a := fun a ha => by rw [← hZ1, u2_ne (by omega), u2_ne (by omega), u2_ne (by omega), u2_ne (by omega)]
  have n2 : ∀ a j : Nat, j ≠ k → Z1 a j = Z a j := fun a j hj => by
    rw [← hZ1]
    unfold u2
    simp [hj]
  have n3 : Z1 99 k = Z (a0 + 2) k ∧ Z1 100 k = Z (a0 + 3) k ∧ Z1 101 k = Z (a0 + 4) k ∧ Z1 102 k = v5 := by
    rw [← hZ1]
    simp [u2]
  obtain ⟨Z2, ⟨v1, v2⟩, e⟩ := up_inv (fun (i : Nat) (Z : Nat → Nat → Int) => den none (Mean d) none tQ_X4_copyPiece (62, [some (.ref 97), some (.ref a0), some (.int (i32 (k : Int))), some (.int (i32 (i : Int)))], [], 176, zs Z, u2 J 98 k (J (a0 + 1) k), RP p0 p1 p2 p3 p4 p5 p6 p7)) 3 (fun i Z' => (∀ a : Nat, a ≠ 104 + k → Z' a = Z1 a) ∧ ∀ j : Nat, j < i → Z' (104 + k) j = Z (a0 + 7 + k) j) (fun i Z' hi hv => by
    obtain ⟨v1, v2⟩ := hv
    have zz : Z' (a0 + 7 + k) i = Z (a0 + 7 + k) i := by rw [v1 _ (by omega), n1 _ (by omega)]
    refine ⟨u2 Z' (104 + k) i (Z (a0 + 7 + k) i), ⟨fun a ha => (u2_ne ha).trans (v1 a ha), fun j hj => ?_⟩, ?_⟩
    · by_cases cj : j = i
      · rw [cj, u2s]
      · rw [u2f cj]
        exact v2 j (by omega)
    · show den none (Mean d) none tQ_X4_copyPiece (62, _, [], 176, zs Z', _, _) = _
      rw [k_X4_copyPiece_62]
      simp (disch := first | omega | assumption) only [k_X4_copyPiece_0, k_X4_copyPiece_11, k_X4_copyPiece_12, k_X4_copyPiece_23, k_X4_copyPiece_24, k_X4_copyPiece_35, k_X4_copyPiece_36, k_X4_copyPiece_47, k_X4_copyPiece_48, k_X4_copyPiece_59, k_X4_copyPiece_60, k_X4_copyPiece_67, k_X4_copyPiece_73, k_X4_copyPiece_80, k_X4_copyPiece_82, k_X4_copyPiece_83, k_X4_copyPiece_89, li_0, li_1, li_2, li_3, li_4, li_5, li_6, li_9, li_10, li_40, lm_1, lm_2, lm_3, lm_4, zs_ap, i32_add, i32_sub, i32_mul, i32_neg, i32_lt, i32_le, i32_eq, i32_nat, ckn, pka_r, pka_v, if_pos, if_neg, if_true, if_false, Int.toNat_natCast, r1', s1, va_rf, zz, zs_u2]
      rfl) Z1 ⟨fun _ _ => rfl, fun j hj => by omega⟩
  refine ⟨Z2, u2 J 98 k (J (a0 + 1) k), ⟨fun a ha => ?_, fun a j ha hj => ?_, fun a h1 h2 => ?_, fun a ha => u2_ne ha⟩, ⟨?_, ?_, ?_, fun hb => ?_, v2⟩, ?_⟩
  · rw [v1 a (by omega)]
    exact n1 a (by omega)
  · rw [v1 a (by omega)]
    exact n2 a j hj
  · rw [v1 a h2]
    exact n1 a (by omega)
  · rw [v1 _ (by omega)]; exact n3.1
  · rw [v1 _ (by omega)]; exact n3.2.1
  · rw [v1 _ (by omega)]; exact n3.2.2.1
  · rw [v1 _ (by omega), n3.2.2.2, ← hv5]
    have : Z (a0 + 5) k = 0 ∨ Z (a0 + 5) k = 1 := by omega
    rcases this with q | q
    · rw [q, nar0]; rfl
    · rw [q, nar1]; rfl
  · have m2 : ∀ {X : Nat → Nat → Int} {v : Int}, u2 X 99 k v (a0 + 3) k = X (a0 + 3) k := fun {X v} => by rw [u2_ne (by omega)]
    have g3 : u2 Z 99 k (Z (a0 + 2) k) (a0 + 3) k = Z (a0 + 3) k := by rw [u2_ne (by omega)]
    have g4 : u2 (u2 Z 99 k (Z (a0 + 2) k)) 100 k (Z (a0 + 3) k) (a0 + 4) k = Z (a0 + 4) k := by rw [u2_ne (by omega), u2_ne (by omega)]
    have g5 : u2 (u2 (u2 Z 99 k (Z (a0 + 2) k)) 100 k (Z (a0 + 3) k)) 101 k (Z (a0 + 4) k) (a0 + 5) k = Z (a0 + 5) k := by rw [u2_ne (by omega), u2_ne (by omega), u2_ne (by omega)]
    rw [e_X4_copyPiece, k_X4_copyPiece_0 (hv_a0 := by omega)]
    simp (disch := omega) only [k_X4_copyPiece_11, k_X4_copyPiece_12, k_X4_copyPiece_23, k_X4_copyPiece_24, k_X4_copyPiece_35, k_X4_copyPiece_36, k_X4_copyPiece_47, k_X4_copyPiece_48, k_X4_copyPiece_59, k_X4_copyPiece_60, k_X4_copyPiece_67, k_X4_copyPiece_73, k_X4_copyPiece_80, k_X4_copyPiece_82, k_X4_copyPiece_83, k_X4_copyPiece_89, li_0, li_1, li_2, li_3, li_4, li_5, li_6, li_9, li_10, li_40, lm_1, lm_2, lm_3, lm_4, zs_ap, i32_add, i32_sub, i32_mul, i32_neg, i32_lt, i32_le, i32_eq, i32_nat, ckn, pka_r, pka_v, if_pos, if_neg, if_true, if_false, Int.toNat_natCast, zs_u2, g3, g4, g5, e5, hZ1]
    refine Eq.trans e ?_
    rw [k_X4_copyPiece_62]
    simp (disch := omega) only [k_X4_copyPiece_11, k_X4_copyPiece_12, k_X4_copyPiece_23, k_X4_copyPiece_24, k_X4_copyPiece_35, k_X4_copyPiece_36, k_X4_copyPiece_47, k_X4_copyPiece_48, k_X4_copyPiece_59, k_X4_copyPiece_60, k_X4_copyPiece_67, k_X4_copyPiece_73, k_X4_copyPiece_80, k_X4_copyPiece_82, k_X4_copyPiece_83, k_X4_copyPiece_89, li_0, li_1, li_2, li_3, li_4, li_5, li_6, li_9, li_10, li_40, lm_1, lm_2, lm_3, lm_4, zs_ap, i32_add, i32_sub, i32_mul, i32_neg, i32_lt, i32_le, i32_eq, i32_nat, ckn, pka_r, pka_v, if_pos, if_neg, if_true, if_false]
theorem h_copyFrom (hp : a0 = 5 ∨ a0 = 20) (hw : wf m) (hm : KM m a0 Z) : ∃ (Z' : Nat → Nat → Int) (J' : Nat → Nat → Int64), (∀ a : Nat, (a < 97 ∨ 111 < a) → Z' a = Z a) ∧ (∀ a : Nat, a ≠ 98 → J' a = J a) ∧ KM m 97 Z' ∧ Mean (d + 2) 34 [.ref 97, .ref a0] (176, zs Z, J, RP p0 p1 p2 p3 p4 p5 p6 p7) = some (none, (176, zs Z', J', RP p0 p1 p2 p3 p4 p5 p6 p7)) := by
  have hS := hw.1
  have hP := hw.2.1
  have hpr := hw.2.2.2.2.2.1.2.2.2.2
  generalize hZ1 : u2 (u2 (u2 (u2 (u2 (u2 (u2 (u2 Z 97 0 (Z a0 0)) 97 1 (Z a0 1)) 97 2 (Z a0 2)) 97 11 (Z a0 11)) 97 12 (Z a0 12)) 97 13 (Z a0 13)) 97 14 (Z a0 14)) 97 15 (Z a0 15) = Z1
  have n1 : ∀ a : Nat, a ≠ 97 → Z1 a = Z a := fun a ha => by rw [← hZ1, u2_ne ha, u2_ne ha, u2_ne ha, u2_ne ha, u2_ne ha, u2_ne ha, u2_ne ha, u2_ne ha]
  have n2 : Z1 97 1 = Z a0 1 ∧ Z1 97 2 = Z a0 2 ∧ Z1 97 11 = Z a0 11 ∧ Z1 97 12 = Z a0 12 ∧ Z1 97 13 = Z a0 13 ∧ Z1 97 14 = Z a0 14 ∧ Z1 97 15 = Z a0 15 := by
    rw [← hZ1]
    simp [u2]
  have z15 : Z a0 15 = 0 ∨ Z a0 15 = 1 := by
    have := hm.1.2.2.2.2.2.2
    omega
  have e1 : Mean (d + 2) 34 [.ref 97, .ref a0] (176, zs Z, J, RP p0 p1 p2 p3 p4 p5 p6 p7) = den none (Mean (d + 1)) none tQ_X4_copyFrom (64, [some (.ref 97), some (.ref a0), none], [], 176, zs Z1, J, RP p0 p1 p2 p3 p4 p5 p6 p7) := by
    rw [e_X4_copyFrom, k_X4_copyFrom_0 (hv_a0 := hp)]
    have hne : a0 ≠ 97 := by omega
    have hc : i32 (Z a0 15) = 0 ∨ i32 (Z a0 15) = 1 := by
      rcases z15 with q | q
      · exact Or.inl (by rw [q]; rfl)
      · exact Or.inr (by rw [q]; rfl)
    simp only [zs_ap, zs_u2, u2a hne, if_pos hc, hZ1]
  obtain ⟨Z2, ⟨v1, v2⟩, e2⟩ := up_inv (fun (i : Nat) (Z : Nat → Nat → Int) => den none (Mean (d + 1)) none tQ_X4_copyFrom (66, [some (.ref 97), some (.ref a0), some (.int (i32 (i : Int)))], [], 176, zs Z, J, RP p0 p1 p2 p3 p4 p5 p6 p7)) 3 (fun i Z' => (∀ a : Nat, a ≠ 110 → a ≠ 111 → Z' a = Z1 a) ∧ ∀ j : Nat, j < i → Z' 110 j = Z (a0 + 13) j ∧ Z' 111 j = Z (a0 + 14) j) (fun i Z' hi hv => by
    obtain ⟨v1, v2⟩ := hv
    have z1 : Z' (a0 + 13) i = Z (a0 + 13) i := by rw [v1 _ (by omega) (by omega), n1 _ (by omega)]
    have z2 : u2 Z' 110 i (Z (a0 + 13) i) (a0 + 14) i = Z (a0 + 14) i := by rw [u2_ne (by omega), v1 _ (by omega) (by omega), n1 _ (by omega)]
    refine ⟨u2 (u2 Z' 110 i (Z (a0 + 13) i)) 111 i (Z (a0 + 14) i), ⟨fun a h1 h2 => (u2_ne h2).trans ((u2_ne h1).trans (v1 a h1 h2)), fun j hj => ?_⟩, ?_⟩
    · rw [u2_ne (by decide)]
      by_cases cj : j = i
      · rw [cj, u2s, u2s]
        exact ⟨rfl, rfl⟩
      · rw [u2f cj, u2f cj, u2_ne (by decide)]
        exact v2 j (by omega)
    · show den none (Mean (d + 1)) none tQ_X4_copyFrom (66, _, [], 176, zs Z', J, _) = _
      rw [k_X4_copyFrom_66]
      simp (disch := omega) only [k_X4_copyFrom_64, k_X4_copyFrom_71, k_X4_copyFrom_82, k_X4_copyFrom_83, k_X4_copyFrom_94, k_X4_copyFrom_95, k_X4_copyFrom_101, k_X4_copyFrom_109, k_X4_copyFrom_115, k_X4_copyFrom_121, li_0, li_1, li_2, li_3, li_4, li_5, li_6, li_9, li_10, li_40, lm_1, lm_2, lm_3, lm_4, zs_ap, i32_add, i32_sub, i32_mul, i32_neg, i32_lt, i32_le, i32_eq, i32_nat, ckn, pka_r, pka_v, if_pos, if_neg, if_true, if_false, Int.toNat_natCast, z1, z2, zs_u2]
      rfl) Z1 ⟨fun _ _ _ => rfl, fun j hj => by omega⟩
  obtain ⟨⟨Z3, J3⟩, ⟨w1, w2, w3, w4⟩, e3⟩ := up_inv (fun (k : Nat) (y : (Nat → Nat → Int) × (Nat → Nat → Int64)) => den none (Mean (d + 1)) none tQ_X4_copyFrom (103, [some (.ref 97), some (.ref a0), some (.int (i32 (k : Int)))], [], 176, zs y.1, y.2, RP p0 p1 p2 p3 p4 p5 p6 p7)) 6 (fun k y => (∀ a : Nat, (a < 99 ∨ 109 < a) → y.1 a = Z2 a) ∧ (∀ a : Nat, a ≠ 98 → y.2 a = J a) ∧ (∀ j : Nat, j < k → y.1 99 j = Z (a0 + 2) j ∧ y.1 100 j = Z (a0 + 3) j ∧ y.1 101 j = Z (a0 + 4) j ∧ (0 ≤ Z (a0 + 5) j ∧ Z (a0 + 5) j ≤ 1 → y.1 102 j = Z (a0 + 5) j)) ∧ ∀ j : Nat, j < k → ∀ i : Nat, i < 3 → y.1 (104 + j) i = Z (a0 + 7 + j) i) (fun k y hk hv => by
    obtain ⟨Z3, J3⟩ := y
    obtain ⟨v1', v2', v3', v4'⟩ := hv
    simp only at v1' v2' v3' v4'
    have fz : ∀ a : Nat, a0 ≤ a → a ≤ a0 + 14 → Z3 a = Z a := fun a h1 h2 => by rw [v1' a (by omega), v1 a (by omega) (by omega), n1 a (by omega)]
    obtain ⟨Z4, J4, ⟨b1, b2, b3, b4⟩, ⟨c1, c2, c3, c4, c5⟩, e4⟩ := h_copyPiece (d := d) (J := J3) (Z := Z3) (p0 := p0) (p1 := p1) (p2 := p2) (p3 := p3) (p4 := p4) (p5 := p5) (p6 := p6) (p7 := p7) hp hk
    refine ⟨(Z4, J4), ⟨fun a ha => (b1 a ha).trans (v1' a ha), fun a ha => (b4 a ha).trans (v2' a ha), fun j hj => ?_, fun j hj i hi => ?_⟩, ?_⟩
    · dsimp only
      by_cases cj : j = k
      · subst cj
        rw [c1, c2, c3, fz _ (by omega) (by omega), fz _ (by omega) (by omega), fz _ (by omega) (by omega)]
        refine ⟨rfl, rfl, rfl, fun hb => ?_⟩
        rw [c4 (by rw [fz _ (by omega) (by omega)]; exact hb), fz _ (by omega) (by omega)]
      · rw [b2 99 j (by omega) cj, b2 100 j (by omega) cj, b2 101 j (by omega) cj, b2 102 j (by omega) cj]
        exact v3' j (by omega)
    · dsimp only
      by_cases cj : j = k
      · subst cj
        rw [c5 i hi, fz _ (by omega) (by omega)]
      · rw [b3 _ (by omega) (by omega)]
        exact v4' j (by omega) i hi
    · show den none (Mean (d + 1)) none tQ_X4_copyFrom (103, _, [], 176, zs Z3, J3, _) = den none (Mean (d + 1)) none tQ_X4_copyFrom (103, _, [], 176, zs Z4, J4, _)
      rw [k_X4_copyFrom_103]
      simp (disch := omega) only [k_X4_copyFrom_64, k_X4_copyFrom_71, k_X4_copyFrom_82, k_X4_copyFrom_83, k_X4_copyFrom_94, k_X4_copyFrom_95, k_X4_copyFrom_101, k_X4_copyFrom_109, k_X4_copyFrom_115, k_X4_copyFrom_121, li_0, li_1, li_2, li_3, li_4, li_5, li_6, li_9, li_10, li_40, lm_1, lm_2, lm_3, lm_4, zs_ap, i32_add, i32_sub, i32_mul, i32_neg, i32_lt, i32_le, i32_eq, i32_nat, ckn, pka_r, pka_v, if_pos, if_neg, if_true, if_false, e4]
      rfl) (Z2, J) ⟨fun _ _ => rfl, fun _ _ => rfl, fun j hj => by omega, fun j hj => by omega⟩
  simp only at w1 w2 w3 w4 e3
  have hund := fun (k : Nat) (hk : k < qP m) => (hw.2.2.1 k hk).2.2.2
  refine ⟨Z3, J3, fun a ha => ?_, w2, ⟨?_, fun k hk => ?_, fun k hk i hi => ?_, fun i hi => ?_⟩, ?_⟩
  · rw [w1 a (by omega), v1 a (by omega) (by omega), n1 a (by omega)]
  · rw [w1 97 (by omega), v1 97 (by omega) (by omega), n2.1, n2.2.1, n2.2.2.1, n2.2.2.2.1, n2.2.2.2.2.1, n2.2.2.2.2.2.1, n2.2.2.2.2.2.2]
    exact hm.1
  · obtain ⟨q1, q2, q3, q4⟩ := w3 k (by omega)
    obtain ⟨t1, t2, t3, t4⟩ := hm.2.1 k hk
    have hu := hund k hk
    exact ⟨q1.trans t1, q2.trans t2, q3.trans t3, (q4 (by omega)).trans t4⟩
  · exact (w4 k (by omega) i (by omega)).trans (hm.2.2.1 k hk i hi)
  · have e13 : Z3 110 i = Z (a0 + 13) i := by rw [w1 110 (by omega)]; exact (v2 i hi).1
    have e14 : Z3 111 i = Z (a0 + 14) i := by rw [w1 111 (by omega)]; exact (v2 i hi).2
    exact ⟨e13.trans (hm.2.2.2 i hi).1, e14.trans (hm.2.2.2 i hi).2⟩
  · rw [e1, k_X4_copyFrom_64, li_0]
    refine Eq.trans e2 ?_
    rw [k_X4_copyFrom_66]
    simp (disch := omega) only [k_X4_copyFrom_64, k_X4_copyFrom_71, k_X4_copyFrom_82, k_X4_copyFrom_83, k_X4_copyFrom_94, k_X4_copyFrom_95, k_X4_copyFrom_101, k_X4_copyFrom_109, k_X4_copyFrom_115, k_X4_copyFrom_121, li_0, li_1, li_2, li_3, li_4, li_5, li_6, li_9, li_10, li_40, lm_1, lm_2, lm_3, lm_4, zs_ap, i32_add, i32_sub, i32_mul, i32_neg, i32_lt, i32_le, i32_eq, i32_nat, ckn, pka_r, pka_v, if_pos, if_neg, if_true, if_false]
    refine Eq.trans e3 ?_
    rw [k_X4_copyFrom_103]
    simp (disch := omega) only [k_X4_copyFrom_64, k_X4_copyFrom_71, k_X4_copyFrom_82, k_X4_copyFrom_83, k_X4_copyFrom_94, k_X4_copyFrom_95, k_X4_copyFrom_101, k_X4_copyFrom_109, k_X4_copyFrom_115, k_X4_copyFrom_121, li_0, li_1, li_2, li_3, li_4, li_5, li_6, li_9, li_10, li_40, lm_1, lm_2, lm_3, lm_4, zs_ap, i32_add, i32_sub, i32_mul, i32_neg, i32_lt, i32_le, i32_eq, i32_nat, ckn, pka_r, pka_v, if_pos, if_neg, if_true, if_false]
end
section
variable {d : Nat} {J : Nat → Nat → Int64} {Z : Nat → Nat → Int} {p0 p1 p5 p6 : Nat} {m : Mat}
theorem h_holds_b {m' : Mat} (hp : hv2 p0) (hw : wf m') (hm : KM m' 97 Z) (hk : KS m' 121 Z) {b : Nat → Int} (hb0 : ∀ i : Nat, i < 3 → Z (p0 + 14) i = b i ∧ (0 ≤ b i ∧ b i ≤ 999)) : ∃ (Z' : Nat → Nat → Int) (J' : Nat → Nat → Int64), (∀ a : Nat, a ≠ 96 → a ≠ 117 → a ≠ 118 → a ≠ 120 → Z' a = Z a) ∧ TJf J J' ∧ Mean (d + 5) 96 [.ref 95, .ref 121, .int (i32 0), .int (i32 0), .int (i32 0)] (176, zs Z, J, RP p0 p1 p0 35 p0 p5 p6 97) = some (some (.int (i32 (bB (hdm m' b)))), (176, zs Z', J', RP p0 p1 p0 35 p0 121 97 97)) := by
  have hS := hw.1
  have hP := hw.2.1
  generalize hZ1 : u2 (u2 (u2 Z 96 0 (b 0)) 96 1 (b 1)) 96 2 (b 2) = Z1
  have n1 : ∀ a : Nat, a ≠ 96 → Z1 a = Z a := fun a ha => by rw [← hZ1, u2_ne ha, u2_ne ha, u2_ne ha]
  have n2 : ∀ i : Nat, i < qS m' → Z1 96 i = b i := fun i hi => by
    have : i = 0 ∨ i = 1 ∨ i = 2 := by omega
    rw [← hZ1]
    rcases this with rfl | rfl | rfl <;> simp [u2]
  have hm1 : KM m' 97 Z1 := KM_fr hP hm (fun a h1 h2 => n1 a (by omega))
  have hk1 : KS m' 121 Z1 := KS_fr hS.2 hk (fun a h1 h2 => n1 a (by omega))
  have hb : bOK m' b := fun i hi => by
    have := (hb0 i (by omega)).2
    omega
  obtain ⟨Z2, J2, a1, a2, a3, a4⟩ := h_solve_c (d := d) (J := J) (p0 := p0) (p1 := p1) (p2 := p0) (p3 := 35) (p4 := p0) (q8 := p5) (q9 := p6) hw hb hm1 hk1 (g2 := 96) rfl (by omega) n2
  have hm2 : KM m' 97 Z2 := KM_fr hP hm1 (fun a h1 h2 => a1 a (by omega) (by omega) (by omega))
  have hbl := qbeg_lt m'
  have hfst := hw.2.2.2.2.2.1.2.2.2.1
  have fw := h_fewest_c (d := d + 2) (J := J2) (p0 := p0) (p1 := p1) (p2 := p0) (p3 := 35) (p4 := p0) hw hm2 a3.2 hbl hfst
  have z2 : Z2 121 2 = (qbeg m' : Int) := by rw [a1 _ (by omega) (by omega) (by omega)]; exact hk1.1.1.2.1
  have z14 : Z2 97 14 = (qfst m' : Int) := hm2.1.2.2.2.2.2.1
  refine ⟨Z2, J2, fun a h1 h2 h3 h4 => (a1 a h2 h3 h4).trans (n1 a h1), fun a ha => a2 a (by omega) (by omega), ?_⟩
  have q0 := (hb0 0 (by omega)).1
  have q1 : u2 Z 96 0 (b 0) (p0 + 14) 1 = b 1 := by rw [u2_ne (by omega)]; exact (hb0 1 (by omega)).1
  have q2 : u2 (u2 Z 96 0 (b 0)) 96 1 (b 1) (p0 + 14) 2 = b 2 := by rw [u2_ne (by omega), u2_ne (by omega)]; exact (hb0 2 (by omega)).1
  have t0 : (0 : Int).toNat = 0 := rfl
  have t1 : (1 : Int).toNat = 1 := rfl
  have t2 : (2 : Int).toNat = 2 := rfl
  have e1 : Mean (d + 5) 96 [.ref 95, .ref 121, .int (i32 0), .int (i32 0), .int (i32 0)] (176, zs Z, J, RP p0 p1 p0 35 p0 p5 p6 97) = den none (Mean (d + 4)) (some .boolean) tQ_X9_holds (49, [some (.ref 95), some (.ref 121), some (.int (i32 0)), some (.int (i32 0)), some (.int (i32 0)), some (.ref (p0 + 14))], [], 176, zs Z1, J, RP p0 p1 p0 35 p0 p5 p6 97) := by
    rw [e_X9_holds, k_X9_holds_0_b (hv_p2 := by omega)]
    simp (disch := omega) only [k_X9_holds_21_b, k_X9_holds_24_b, k_X9_holds_33_b, k_X9_holds_36_b, k_X9_holds_45_b, k_X9_holds_61_b, k_X9_holds_79_b, k_X9_holds_83_b, k_X9_holds_87_b, k_X9_holds_88_b, li_0, li_1, li_2, li_3, li_4, li_5, li_6, li_9, li_10, li_40, lm_1, lm_2, lm_3, lm_4, zs_ap, i32_add, i32_sub, i32_mul, i32_neg, i32_lt, i32_le, i32_eq, i32_nat, ckn, pka_r, pka_v, if_pos, if_neg, if_true, if_false, t0, t1, t2, q0, q1, q2, Int.add_zero, zs_u2, hZ1]
  have ab := afew_b (m := m') (b := b) (s := qbeg m') (t := qtt m' (qfst m'))
  have ah := afew_hld (m := m') (b := b) (s := qbeg m') (t := qtt m' (qfst m'))
  rw [e1, k_X9_holds_49_b]
  unfold hdm
  cases ch : hld m' b (qbeg m') (qtt m' (qfst m'))
  · have e9 : afew m' b (qbeg m') (qtt m' (qfst m')) = -1 := by rw [ah]; exact ch
    rw [e9] at fw
    simp (disch := omega) only [k_X9_holds_21_b, k_X9_holds_24_b, k_X9_holds_33_b, k_X9_holds_36_b, k_X9_holds_45_b, k_X9_holds_49_b, k_X9_holds_61_b, k_X9_holds_79_b, k_X9_holds_83_b, k_X9_holds_87_b, k_X9_holds_88_b, li_0, li_1, li_2, li_3, li_4, li_5, li_6, li_9, li_10, li_40, lm_1, lm_2, lm_3, lm_4, zs_ap, i32_add, i32_sub, i32_mul, i32_neg, i32_lt, i32_le, i32_eq, i32_nat, ckn, pka_r, pka_v, if_pos, if_neg, if_true, if_false, a4, z2, z14, fw, bBf, true_or]
  · have e9 : afew m' b (qbeg m') (qtt m' (qfst m')) ≠ -1 := fun q => by rw [ah, ch] at q; cases q
    simp (disch := omega) only [k_X9_holds_21_b, k_X9_holds_24_b, k_X9_holds_33_b, k_X9_holds_36_b, k_X9_holds_45_b, k_X9_holds_49_b, k_X9_holds_61_b, k_X9_holds_79_b, k_X9_holds_83_b, k_X9_holds_87_b, k_X9_holds_88_b, li_0, li_1, li_2, li_3, li_4, li_5, li_6, li_9, li_10, li_40, lm_1, lm_2, lm_3, lm_4, zs_ap, i32_add, i32_sub, i32_mul, i32_neg, i32_lt, i32_le, i32_eq, i32_nat, ckn, pka_r, pka_v, if_pos, if_neg, if_true, if_false, a4, z2, z14, fw, bBt, or_true]
end
