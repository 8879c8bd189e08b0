/-! THE CLASS'S Rows: nextState, gatherGifts -/
theorem anyN_s (p : Nat → Bool) (n : Nat) : anyN p (n + 1) = (anyN p n || p n) := rfl
section
variable {d : Nat} {J : Nat → Nat → Int64} {Z : Nat → Nat → Int} {p0 p1 p2 p5 p6 p7 : Nat} {m : Mat} {b : Nat → Int}
theorem ns_loop_a (hp : p2 = 5 ∨ p2 = 20) (hw : wf m) {s : Nat} (hs : s < qN m) (hne : s ≠ qbeg m) (Z0 : Nat → Nat → Int) (hm : KM m p2 Z0) (hk : ∀ k : Nat, k < qP m → Z0 36 k = qpl m k) (x1 : Int32) : ∀ (j k : Nat) (Z : Nat → Nat → Int), k + j = qP m → (∀ a : Nat, a ≠ 49 → Z a = Z0 a) → (∀ i : Nat, i < k → qhas m s i = qcut m i) → (∀ i : Nat, i < k → Z 49 i = qkept m i) → (∀ i : Nat, k ≤ i → i < qP m → Z 49 i = qhas m s i) →
    ∃ (k0 : Nat) (Z' : Nat → Nat → Int), k0 < qP m ∧ (∀ i : Nat, i < k0 → qhas m s i = qcut m i) ∧ qhas m s k0 < qcut m k0 ∧ (∀ a : Nat, a ≠ 49 → Z' a = Z0 a) ∧ (∀ i : Nat, i < qP m → Z' 49 i = nxd m s k0 i) ∧ den none (Mean d) (some .int) tQ_X6_nextState (4, [some (.ref 43), some (.int x1), some (.int (i32 ((s : Int) + (qdot m (qkept m) k : Nat) - (qdot m (qcut m) k : Nat)))), some (.int (i32 (k : Int)))], [], 176, zs Z, J, RP p0 p1 p2 35 p2 p5 p6 p7) = some (some (.int (i32 ((s + qdot m (qkept m) k0 + 1 : Nat) : Int))), (176, zs Z', J, RP p0 p1 p2 35 p2 p5 p6 p7)) := by
  have hP := hw.2.1
  have hN := qpl_b hw (k := qP m) (Nat.le_refl _)
  have hN' : qN m = qpl m (qP m) := rfl
  intro j
  induction j with
  | zero =>
    intro k Z hkj hz hf _ _
    exact absurd (full_beg hs (fun i hi => hf i (by omega))) hne
  | succ j ih =>
    intro k Z hkj hz hf h1 h2
    have hk' : k < qP m := by omega
    have hm1 : KM m p2 Z := KM_fr hP hm (fun a h1 h2 => hz a (by omega))
    have z2 : Z p2 2 = (qP m : Int) := hm1.1.2.1
    have z3 : Z (p2 + 3) k = (qcut m k : Int) := (hm1.2.1 k hk').2.1
    have z4 : Z (p2 + 4) k = (qkept m k : Int) := (hm1.2.1 k hk').2.2.1
    have zw : Z 36 k = (qpl m k : Int) := by rw [hz _ (by decide)]; exact hk k hk'
    have zq : Z 49 k = (qhas m s k : Int) := h2 k (Nat.le_refl _) hk'
    have hc := hw.2.2.1 k hk'
    have hle := qhas_le m s k
    have pk := qpl_b hw (k := k) (by omega)
    have cf := cut_full m k
    have kl := qdot_b hw (g := qkept m) (fun k hk => Nat.le_of_lt (hw.2.2.1 k hk).2.2.1) (n := k) (by omega)
    by_cases c : qhas m s k < qcut m k
    · refine ⟨k, u2 Z 49 k ((qhas m s k : Int) + 1), hk', hf, c, fun a ha => (u2_ne ha).trans (hz a ha), fun i hi => ?_, ?_⟩
      · unfold nxd
        by_cases c1 : i = k
        · rw [c1, u2s, if_neg (by omega), if_pos rfl]
          omega
        · rw [u2f c1]
          by_cases c2 : i < k
          · rw [if_pos c2]
            exact h1 i c2
          · rw [if_neg c2, if_neg c1]
            exact h2 i (by omega) hi
      · rw [k_X6_nextState_4_a (hv_p4 := by omega)]
        simp (disch := omega) only [k_X6_nextState_0_a, k_X6_nextState_15_a, k_X6_nextState_21_a, k_X6_nextState_30_a, k_X6_nextState_33_a, k_X6_nextState_40_a, k_X6_nextState_43_a, k_X6_nextState_53_a, k_X6_nextState_55_a, k_X6_nextState_62_a, k_X6_nextState_71_a, k_X6_nextState_81_a, k_X6_nextState_98_a, k_X6_nextState_99_a, k_X6_nextState_105_a, li_0, li_1, li_2, li_3, li_4, li_5, li_6, li_9, li_10, li_40, lm_1, lm_2, lm_3, lm_4, zs_ap, i32_add, i32_sub, i32_mul, i32_neg, i32_lt, i32_le, i32_eq, i32_nat, ckn, pka_r, pka_v, if_pos, if_neg, if_true, if_false, z2, z3, zq, zw, Int.toNat_natCast, zs_u2, u2a]
        rw [show (s : Int) + (qdot m (qkept m) k : Nat) - (qdot m (qcut m) k : Nat) + (qpl m k : Nat) = ((s + qdot m (qkept m) k + 1 : Nat) : Int) by omega]
    · have e0 : qhas m s k = qcut m k := by omega
      obtain ⟨k0, Z', a1, a2, a3, a4, a5, a6⟩ := ih (k + 1) (u2 Z 49 k (qkept m k : Int)) (by omega) (fun a ha => (u2_ne ha).trans (hz a ha)) (fun i hi => by
        by_cases c1 : i = k
        · rw [c1]; exact e0
        · exact hf i (by omega)) (fun i hi => by
        by_cases c1 : i = k
        · rw [c1, u2s]
        · rw [u2f c1]; exact h1 i (by omega)) (fun i hi hi2 => by
        rw [u2f (by omega)]
        exact h2 i (by omega) hi2)
      refine ⟨k0, Z', a1, a2, a3, a4, a5, ?_⟩
      have hmul : (((qcut m k : Nat) : Int) - ((qkept m k : Nat) : Int)) * ((qpl m k : Nat) : Int) = ((qpl m k * qcut m k : Nat) : Int) - ((qpl m k * qkept m k : Nat) : Int) := by
        rw [Int.sub_mul, Int.natCast_mul, Int.natCast_mul, Int.mul_comm ((qpl m k : Nat) : Int), Int.mul_comm ((qpl m k : Nat) : Int)]
      have ee : (s : Int) + (qdot m (qkept m) k : Nat) - (qdot m (qcut m) k : Nat) - (((qcut m k : Nat) : Int) - ((qkept m k : Nat) : Int)) * ((qpl m k : Nat) : Int) = (s : Int) + (qdot m (qkept m) (k + 1) : Nat) - (qdot m (qcut m) (k + 1) : Nat) := by
        rw [hmul, dot_s, dot_s]
        omega
      rw [← a6, k_X6_nextState_4_a (hv_p4 := by omega)]
      simp (disch := omega) only [k_X6_nextState_0_a, k_X6_nextState_15_a, k_X6_nextState_21_a, k_X6_nextState_30_a, k_X6_nextState_33_a, k_X6_nextState_40_a, k_X6_nextState_43_a, k_X6_nextState_53_a, k_X6_nextState_55_a, k_X6_nextState_62_a, k_X6_nextState_71_a, k_X6_nextState_81_a, k_X6_nextState_98_a, k_X6_nextState_99_a, k_X6_nextState_105_a, li_0, li_1, li_2, li_3, li_4, li_5, li_6, li_9, li_10, li_40, lm_1, lm_2, lm_3, lm_4, zs_ap, i32_add, i32_sub, i32_mul, i32_neg, i32_lt, i32_le, i32_eq, i32_nat, ckn, pka_r, pka_v, if_pos, if_neg, if_true, if_false, z2, z3, z4, zq, zw, e0, Int.toNat_natCast, zs_u2, u2a, ee]
      rfl
theorem h_nextState_a (hp : p2 = 5 ∨ p2 = 20) (hw : wf m) (hm : KM m p2 Z) (hk : KW m 35 Z) {s : Nat} (hs : s < qN m) (hne : s ≠ qbeg m) (ho : okS m s) (hst : ∀ k : Nat, k < qP m → Z 49 k = qhas m s k) : ∃ (s' : Nat) (Z' : Nat → Nat → Int), (s < s' ∧ s' < qN m ∧ okS m s' ∧ ∀ u : Nat, s < u → u < s' → ¬ okS m u) ∧ (∀ a : Nat, a ≠ 49 → Z' a = Z a) ∧ (∀ k : Nat, k < qP m → Z' 49 k = qhas m s' k) ∧ Mean (d + 1) 67 [.ref 43, .int (i32 (s : Int))] (176, zs Z, J, RP p0 p1 p2 35 p2 p5 p6 p7) = some (some (.int (i32 (s' : Int))), (176, zs Z', J, RP p0 p1 p2 35 p2 p5 p6 p7)) := by
  obtain ⟨k0, Z', a1, a2, a3, a4, a5, a6⟩ := ns_loop_a (d := d) (J := J) (p0 := p0) (p1 := p1) (p2 := p2) (p5 := p5) (p6 := p6) (p7 := p7) hp hw hs hne Z hm hk.2 (i32 (s : Int)) (qP m) 0 Z (by omega) (fun _ _ => rfl) (fun i hi => by omega) (fun i hi => by omega) (fun i _ hi => hst i hi)
  obtain ⟨n1, n2, n3, n4⟩ := nx_state hw hs a1 a2 a3 ho
  refine ⟨s + qdot m (qkept m) k0 + 1, Z', ⟨by omega, n1, n3, n4⟩, a4, fun k hk => ?_, ?_⟩
  · rw [a5 k hk, n2 k hk]
  · rw [e_X6_nextState, k_X6_nextState_0_a, ← a6]
    rw [show (s : Int) + (qdot m (qkept m) 0 : Nat) - (qdot m (qcut m) 0 : Nat) = (s : Int) by
      show (s : Int) + ((0 : Nat) : Int) - ((0 : Nat) : Int) = (s : Int)
      omega]
    rfl
theorem gg_in_a (hw : wf m) {k s : Nat} (hs : s < qN m) {c : Nat} (hg : pshn c = some (.inl (.long, 400))) (hc : c ≠ 50) {o M : Nat} (ho : o < 3) (hM : M ≤ qhas m s k) (hM9 : M ≤ 9) (x2 x3 : Int32) :
    ∃ J' : Nat → Nat → Int64, (∀ a : Nat, a ≠ 50 → J' a = J a) ∧ (∀ i : Nat, i ≠ o → J' 50 i = J 50 i) ∧ (∀ n : Nat, gb (J' 50 o) n = (gb (J 50 o) n || anyN (fun q => gb (J c (s - (q + 1) * qpl m k)) n) M)) ∧ den none (Mean d) none tQ_X6_gatherGifts (128, [some (.ref 43), some (.int (i32 (s : Int))), some (.int x2), some (.int x3), some (.int (i32 (o : Int))), some (.ref c), some (.int (i32 ((qpl m k : Nat) : Int))), some (.int (i32 (M : Int))), some (.int (i32 ((0 + 1 : Nat) : Int)))], [], 176, zs Z, J, RP p0 p1 p2 35 p2 p5 p6 p7) = den none (Mean d) none tQ_X6_gatherGifts (161, [some (.ref 43), some (.int (i32 (s : Int))), some (.int x2), some (.int x3), some (.int (i32 (o : Int))), some (.ref c), some (.int (i32 ((qpl m k : Nat) : Int))), some (.int (i32 (M : Int))), some (.int (i32 ((M + 1 : Nat) : Int)))], [], 176, zs Z, J', RP p0 p1 p2 35 p2 p5 p6 p7) := by
  have hN := qpl_b hw (k := qP m) (Nat.le_refl _)
  have hN' : qN m = qpl m (qP m) := rfl
  obtain ⟨J', ⟨v1, v2, v3⟩, e⟩ := up_inv (fun (q : Nat) (J : Nat → Nat → Int64) => den none (Mean d) none tQ_X6_gatherGifts (128, [some (.ref 43), some (.int (i32 (s : Int))), some (.int x2), some (.int x3), some (.int (i32 (o : Int))), some (.ref c), some (.int (i32 ((qpl m k : Nat) : Int))), some (.int (i32 (M : Int))), some (.int (i32 ((q + 1 : Nat) : Int)))], [], 176, zs Z, J, RP p0 p1 p2 35 p2 p5 p6 p7)) M (fun q J' => (∀ a : Nat, a ≠ 50 → J' a = J a) ∧ (∀ i : Nat, i ≠ o → J' 50 i = J 50 i) ∧ ∀ n : Nat, gb (J' 50 o) n = (gb (J 50 o) n || anyN (fun q => gb (J c (s - (q + 1) * qpl m k)) n) q)) (fun q J' hq hv => by
    obtain ⟨v1, v2, v3⟩ := hv
    have hsub := sub_le (m := m) (s := s) (k := k) (q := q + 1) (by omega)
    have ei : i32 (s : Int) - i32 ((q + 1 : Nat) : Int) * i32 ((qpl m k : Nat) : Int) = i32 ((s - (q + 1) * qpl m k : Nat) : Int) := by
      rw [i32_mul, i32_sub, sub_c hsub]
    have ej : J' c = J c := v1 c hc
    refine ⟨u2 J' 50 o (J' 50 o ||| J c (s - (q + 1) * qpl m k)), ⟨fun a ha => (u2_ne ha).trans (v1 a ha), fun i hi => (u2f hi).trans (v2 i hi), fun n => ?_⟩, ?_⟩
    · rw [u2s, gb_or, v3 n, anyN_s, Bool.or_assoc]
    · show den none (Mean d) none tQ_X6_gatherGifts (128, _, [], 176, zs Z, J', _) = _
      rw [k_X6_gatherGifts_128_a]
      simp (disch := first | omega | assumption) only [k_X6_gatherGifts_135_a, k_X6_gatherGifts_143_a, k_X6_gatherGifts_153_a, k_X6_gatherGifts_155_a, ei, i32_lt, i32_nat, li_0, li_1, i32_add, ckn, if_neg, if_pos, Int.toNat_natCast, ej]
      rfl) J ⟨fun _ _ => rfl, fun _ _ => rfl, fun n => by simp [anyN]⟩
  refine ⟨J', v1, v2, v3, e.trans ?_⟩
  show den none (Mean d) none tQ_X6_gatherGifts (128, _, [], 176, zs Z, J', _) = _
  rw [k_X6_gatherGifts_128_a]
  simp (disch := omega) only [k_X6_gatherGifts_0_a, k_X6_gatherGifts_8_a, k_X6_gatherGifts_21_a, k_X6_gatherGifts_27_a, k_X6_gatherGifts_36_a, k_X6_gatherGifts_42_a, k_X6_gatherGifts_51_a, k_X6_gatherGifts_64_a, k_X6_gatherGifts_65_a, k_X6_gatherGifts_76_a, k_X6_gatherGifts_87_a, k_X6_gatherGifts_90_a, k_X6_gatherGifts_98_a, k_X6_gatherGifts_107_a, k_X6_gatherGifts_109_a, k_X6_gatherGifts_112_a, k_X6_gatherGifts_135_a, k_X6_gatherGifts_143_a, k_X6_gatherGifts_153_a, k_X6_gatherGifts_155_a, k_X6_gatherGifts_167_a, li_0, li_1, li_2, li_3, li_4, li_5, li_6, li_9, li_10, li_40, lm_1, lm_2, lm_3, lm_4, zs_ap, i32_add, i32_sub, i32_mul, i32_neg, i32_lt, i32_le, i32_eq, i32_nat, ckn, pka_r, pka_v, if_pos, if_neg, if_true, if_false]
theorem h_gather_a (hp : p2 = 5 ∨ p2 = 20) (hw : wf m) (hm : KM m p2 Z) (hk : KW m 35 Z) (hr : ∀ i : Nat, i < qS m → Z 48 i = lbh m i) {s : Nat} (hs : s < qN m) (ho : okS m s) (hst : ∀ k : Nat, k < qP m → Z 49 k = qhas m s k) : ∃ J' : Nat → Nat → Int64, (∀ a : Nat, a ≠ 50 → J' a = J a) ∧ (∀ i n : Nat, i < 3 → gb (J' 50 i) n = givs m s (fun k => decide (qown m k = i)) (fun u => gb (J (45 + lbh m i) u) n)) ∧ Mean (d + 2) 70 [.ref 43, .int (i32 (s : Int))] (176, zs Z, J, RP p0 p1 p2 35 p2 p5 p6 p7) = some (none, (176, zs Z, J', RP p0 p1 p2 35 p2 p5 p6 p7)) := by
  have hS := hw.1
  have hP := hw.2.1
  have hN := qpl_b hw (k := qP m) (Nat.le_refl _)
  have hN' : qN m = qpl m (qP m) := rfl
  have z2 : Z p2 2 = (qP m : Int) := hm.1.2.1
  have z12 : Z p2 12 = (qlump m : Int) := hm.1.2.2.2.1
  have hlump := hw.2.2.2.2.2.1.2.1
  have fl := h_fillJ (d := d) (J := J) (Z := Z) (p0 := p0) (p1 := p1) (p2 := p2) (p3 := 35) (p4 := p2) (p5 := p5) (p6 := p6) (p7 := p7) (g := 50) rfl 0
  obtain ⟨y, ⟨v1, v2⟩, e⟩ := up_inv (fun (k : Nat) (y : (Nat → Nat → Int64) × Option Value × Option Value × Option Value × Option Value × Option Value × Option Value) => den none (Mean (d + 1)) none tQ_X6_gatherGifts (10, [some (.ref 43), some (.int (i32 (s : Int))), some (.int (i32 (k : Int))), y.2.1, y.2.2.1, y.2.2.2.1, y.2.2.2.2.1, y.2.2.2.2.2.1, y.2.2.2.2.2.2], [], 176, zs Z, y.1, RP p0 p1 p2 35 p2 p5 p6 p7)) (qP m) (fun k y => (∀ a : Nat, a ≠ 50 → y.1 a = J a) ∧ ∀ i n : Nat, i < 3 → gb (y.1 50 i) n = anyN (fun k => decide (qown m k = i) && giv m s k (fun u => gb (J (45 + lbh m i) u) n)) k) (fun k y hkP hv => by
    obtain ⟨J1, o3, o4, o5, o6, o7, o8⟩ := y
    obtain ⟨v1, v2⟩ := hv
    simp only at v1 v2
    have zq : Z 49 k = (qhas m s k : Int) := hst k hkP
    have z4 : Z (p2 + 4) k = (qkept m k : Int) := (hm.2.1 k hkP).2.2.1
    have zo : Z (p2 + 2) k = (qown m k : Int) := (hm.2.1 k hkP).1
    have zu : Z (p2 + 5) k = (qund m k : Int) := (hm.2.1 k hkP).2.2.2
    have zw : Z 36 k = (qpl m k : Int) := hk.2 k hkP
    have hc := hw.2.2.1 k hkP
    have hle := qhas_le m s k
    have hok := ho k hkP
    have pk := qpl_b hw (k := k) (by omega)
    have zl : Z 48 (qown m k) = (lbh m (qown m k) : Int) := hr _ hc.1
    have hlb := lbh_lt hw hc.1
    obtain ⟨r1, r2⟩ := RPl (p0 := p0) (p1 := p1) (p2 := p2) (p3 := 35) (p4 := p2) (p5 := p5) (p6 := p6) (p7 := p7) (q := 43) (by omega) hlb.2
    have r1' : RP p0 p1 p2 35 p2 p5 p6 p7 44 (lbh m (qown m k)) = some (45 + lbh m (qown m k)) := r1
    have r2' : pshn (45 + lbh m (qown m k)) = some (.inl (.long, 400)) := r2
    by_cases c0 : qhas m s k = qkept m k
    · refine ⟨(J1, some (.int (i32 0)), o4, o5, o6, o7, o8), ⟨v1, fun i n hi => ?_⟩, ?_⟩
      · show gb (J1 50 i) n = _
        rw [v2 i n hi, anyN_s]
        have e0 : giv m s k (fun u => gb (J (45 + lbh m i) u) n) = false := by
          cases cg : giv m s k (fun u => gb (J (45 + lbh m i) u) n)
          · rfl
          · obtain ⟨q, _, q2, _⟩ := giv_iff.mp cg
            have := may_le q2
            omega
        rw [e0, Bool.and_false, Bool.or_false]
      · show den none (Mean (d + 1)) none tQ_X6_gatherGifts (10, _, [], 176, zs Z, J1, _) = den none (Mean (d + 1)) none tQ_X6_gatherGifts (10, _, [], 176, zs Z, J1, _)
        rw [k_X6_gatherGifts_10_a (hv_p4 := by omega)]
        simp (disch := omega) only [k_X6_gatherGifts_0_a, k_X6_gatherGifts_8_a, k_X6_gatherGifts_21_a, k_X6_gatherGifts_27_a, k_X6_gatherGifts_36_a, k_X6_gatherGifts_42_a, k_X6_gatherGifts_51_a, k_X6_gatherGifts_64_a, k_X6_gatherGifts_65_a, k_X6_gatherGifts_76_a, k_X6_gatherGifts_87_a, k_X6_gatherGifts_90_a, k_X6_gatherGifts_98_a, k_X6_gatherGifts_107_a, k_X6_gatherGifts_109_a, k_X6_gatherGifts_112_a, k_X6_gatherGifts_135_a, k_X6_gatherGifts_143_a, k_X6_gatherGifts_153_a, k_X6_gatherGifts_155_a, k_X6_gatherGifts_161_a, k_X6_gatherGifts_167_a, li_0, li_1, li_2, li_3, li_4, li_5, li_6, li_9, li_10, li_40, lm_1, lm_2, lm_3, lm_4, zs_ap, i32_add, i32_sub, i32_mul, i32_neg, i32_lt, i32_le, i32_eq, i32_nat, ckn, pka_r, pka_v, if_pos, if_neg, if_true, if_false, z2, zq, z4, c0, Int.toNat_natCast, Int.sub_self]
        rfl
    · have esp : ((qhas m s k : Nat) : Int) - ((qkept m k : Nat) : Int) = ((qhas m s k - qkept m k : Nat) : Int) := by omega
      have ej : J1 (45 + lbh m (qown m k)) = J (45 + lbh m (qown m k)) := v1 _ (by omega)
      by_cases cu : qund m k = 0
      · have hM : ∃ M : Nat, M ≤ qhas m s k ∧ M ≤ 9 ∧ (∀ q : Nat, qmay m s k (q + 1) = true ↔ q < M) ∧ (if (qlump m : Int) < ((qhas m s k - qkept m k : Nat) : Int) then (qlump m : Int) else ((qhas m s k - qkept m k : Nat) : Int)) = (M : Int) := by
          have hq : ∀ q : Nat, qmay m s k (q + 1) = true ↔ ((1 ≤ q + 1 ∧ q + 1 ≤ qlump m) ∧ q + 1 + qkept m k ≤ qhas m s k) := fun q => by
            unfold qmay
            rw [if_pos cu, decide_eq_true_iff]
          by_cases cl : (qlump m : Int) < ((qhas m s k - qkept m k : Nat) : Int)
          · exact ⟨qlump m, by omega, by omega, fun q => by rw [hq q]; omega, if_pos cl⟩
          · exact ⟨qhas m s k - qkept m k, by omega, by omega, fun q => by rw [hq q]; omega, if_neg cl⟩
        obtain ⟨M, m1, m2, m3, m4⟩ := hM
        obtain ⟨J2, b1, b2, b3, b4⟩ := gg_in_a (d := d + 1) (J := J1) (Z := Z) (p0 := p0) (p1 := p1) (p2 := p2) (p5 := p5) (p6 := p6) (p7 := p7) hw (k := k) hs r2' (by omega) (o := qown m k) (by omega) m1 m2 (i32 (k : Int)) (i32 ((qhas m s k - qkept m k : Nat) : Int))
        refine ⟨(J2, some (.int (i32 ((qhas m s k - qkept m k : Nat) : Int))), some (.int (i32 ((qown m k : Nat) : Int))), some (.ref (45 + lbh m (qown m k))), some (.int (i32 ((qpl m k : Nat) : Int))), some (.int (i32 (M : Int))), some (.int (i32 ((M + 1 : Nat) : Int)))), ⟨fun a ha => (b1 a ha).trans (v1 a ha), fun i n hi => ?_⟩, ?_⟩
        · show gb (J2 50 i) n = _
          rw [anyN_s, ← v2 i n hi]
          by_cases ci : i = qown m k
          · subst ci
            rw [b3 n, decide_eq_true rfl, Bool.true_and]
            congr 1
            apply beq_iff
            rw [anyN_iff, giv_iff]
            constructor
            · intro ⟨q, q1, q2⟩
              rw [ej] at q2
              exact ⟨q, by omega, (m3 q).mpr q1, q2⟩
            · intro ⟨q, q1, q2, q3⟩
              rw [ej]
              exact ⟨q, (m3 q).mp q2, q3⟩
          · rw [b2 i ci, decide_eq_false (fun z => ci z.symm), Bool.false_and, Bool.or_false]
        · show den none (Mean (d + 1)) none tQ_X6_gatherGifts (10, _, [], 176, zs Z, J1, _) = den none (Mean (d + 1)) none tQ_X6_gatherGifts (10, _, [], 176, zs Z, J2, _)
          have e5 : den none (Mean (d + 1)) none tQ_X6_gatherGifts (10, [some (.ref 43), some (.int (i32 (s : Int))), some (.int (i32 (k : Int))), o3, o4, o5, o6, o7, o8], [], 176, zs Z, J1, RP p0 p1 p2 35 p2 p5 p6 p7) = den none (Mean (d + 1)) none tQ_X6_gatherGifts (112, [some (.ref 43), some (.int (i32 (s : Int))), some (.int (i32 (k : Int))), some (.int (i32 ((qhas m s k - qkept m k : Nat) : Int))), some (.int (i32 ((qown m k : Nat) : Int))), some (.ref (45 + lbh m (qown m k))), some (.int (i32 ((qpl m k : Nat) : Int))), o7, o8], [], 176, zs Z, J1, RP p0 p1 p2 35 p2 p5 p6 p7) := by
            rw [k_X6_gatherGifts_10_a (hv_p4 := by omega)]
            simp (disch := omega) only [k_X6_gatherGifts_0_a, k_X6_gatherGifts_8_a, k_X6_gatherGifts_21_a, k_X6_gatherGifts_27_a, k_X6_gatherGifts_36_a, k_X6_gatherGifts_42_a, k_X6_gatherGifts_51_a, k_X6_gatherGifts_64_a, k_X6_gatherGifts_65_a, k_X6_gatherGifts_76_a, k_X6_gatherGifts_87_a, k_X6_gatherGifts_90_a, k_X6_gatherGifts_98_a, k_X6_gatherGifts_107_a, k_X6_gatherGifts_109_a, k_X6_gatherGifts_135_a, k_X6_gatherGifts_143_a, k_X6_gatherGifts_153_a, k_X6_gatherGifts_155_a, k_X6_gatherGifts_161_a, k_X6_gatherGifts_167_a, li_0, li_1, li_2, li_3, li_4, li_5, li_6, li_9, li_10, li_40, lm_1, lm_2, lm_3, lm_4, zs_ap, i32_add, i32_sub, i32_mul, i32_neg, i32_lt, i32_le, i32_eq, i32_nat, ckn, pka_r, pka_v, if_pos, if_neg, if_true, if_false, z2, zq, z4, Int.toNat_natCast, esp, zo, zl, r1', va_rf, zw, zu, cu]
          have e6 : (if zs Z p2 12 < i32 ((qhas m s k - qkept m k : Nat) : Int) then zs Z p2 12 else i32 ((qhas m s k - qkept m k : Nat) : Int)) = i32 (M : Int) := by
            rw [← m4, zs_ap, z12]
            simp (disch := omega) only [i32_lt]
            split <;> rfl
          show den none (Mean (d + 1)) none tQ_X6_gatherGifts (10, [some (.ref 43), some (.int (i32 (s : Int))), some (.int (i32 (k : Int))), o3, o4, o5, o6, o7, o8], [], 176, zs Z, J1, RP p0 p1 p2 35 p2 p5 p6 p7) = _
          rw [e5, k_X6_gatherGifts_112_a (hv_p4 := by omega), e6]
          refine Eq.trans b4 ?_
          rw [k_X6_gatherGifts_161_a, li_1, i32_add]
          rfl
      · have hu : ∀ q : Nat, qmay m s k (q + 1) = true ↔ q + 1 = qhas m s k - qkept m k := fun q => by
          unfold qmay
          rw [if_neg cu, decide_eq_true_iff]
          omega
        have hsub := sub_le (m := m) (s := s) (k := k) (q := qhas m s k - qkept m k) (by omega)
        have ei : i32 (s : Int) - i32 ((qhas m s k - qkept m k : Nat) : Int) * i32 ((qpl m k : Nat) : Int) = i32 ((s - (qhas m s k - qkept m k) * qpl m k : Nat) : Int) := by
          rw [i32_mul, i32_sub, sub_c hsub]
        refine ⟨(u2 J1 50 (qown m k) (J1 50 (qown m k) ||| J (45 + lbh m (qown m k)) (s - (qhas m s k - qkept m k) * qpl m k)), some (.int (i32 ((qhas m s k - qkept m k : Nat) : Int))), some (.int (i32 ((qown m k : Nat) : Int))), some (.ref (45 + lbh m (qown m k))), some (.int (i32 ((qpl m k : Nat) : Int))), o7, o8), ⟨fun a ha => (u2_ne ha).trans (v1 a ha), fun i n hi => ?_⟩, ?_⟩
        · show gb (u2 J1 50 (qown m k) _ 50 i) n = _
          rw [anyN_s, ← v2 i n hi]
          by_cases ci : i = qown m k
          · subst ci
            rw [u2s, gb_or, decide_eq_true rfl, Bool.true_and]
            congr 1
            apply beq_iff
            rw [giv_iff]
            constructor
            · intro q2
              refine ⟨qhas m s k - qkept m k - 1, by omega, (hu _).mpr (by omega), ?_⟩
              rw [show qhas m s k - qkept m k - 1 + 1 = qhas m s k - qkept m k by omega]
              exact q2
            · intro ⟨q, q1, q2, q3⟩
              rw [(hu q).mp q2] at q3
              exact q3
          · rw [u2f ci, decide_eq_false (fun z => ci z.symm), Bool.false_and, Bool.or_false]
        · show den none (Mean (d + 1)) none tQ_X6_gatherGifts (10, [some (.ref 43), some (.int (i32 (s : Int))), some (.int (i32 (k : Int))), o3, o4, o5, o6, o7, o8], [], 176, zs Z, J1, RP p0 p1 p2 35 p2 p5 p6 p7) = den none (Mean (d + 1)) none tQ_X6_gatherGifts (10, _, [], 176, zs Z, _, _)
          have hu1 : qund m k = 1 := by omega
          have et : ((s : Int) - ((qhas m s k - qkept m k : Nat) : Int) * ((qpl m k : Nat) : Int)).toNat = s - (qhas m s k - qkept m k) * qpl m k := by
            rw [sub_c hsub, Int.toNat_natCast]
          have eb : (s : Int) - ((qhas m s k - qkept m k : Nat) : Int) * ((qpl m k : Nat) : Int) = ((s - (qhas m s k - qkept m k) * qpl m k : Nat) : Int) := sub_c hsub
          rw [k_X6_gatherGifts_10_a (hv_p4 := by omega)]
          simp (disch := first | omega | assumption) only [k_X6_gatherGifts_0_a, k_X6_gatherGifts_8_a, k_X6_gatherGifts_21_a, k_X6_gatherGifts_27_a, k_X6_gatherGifts_36_a, k_X6_gatherGifts_42_a, k_X6_gatherGifts_51_a, k_X6_gatherGifts_64_a, k_X6_gatherGifts_65_a, k_X6_gatherGifts_76_a, k_X6_gatherGifts_87_a, k_X6_gatherGifts_90_a, k_X6_gatherGifts_98_a, k_X6_gatherGifts_107_a, k_X6_gatherGifts_109_a, k_X6_gatherGifts_112_a, k_X6_gatherGifts_135_a, k_X6_gatherGifts_143_a, k_X6_gatherGifts_153_a, k_X6_gatherGifts_155_a, k_X6_gatherGifts_161_a, k_X6_gatherGifts_167_a, li_0, li_1, li_2, li_3, li_4, li_5, li_6, li_9, li_10, li_40, lm_1, lm_2, lm_3, lm_4, zs_ap, i32_add, i32_sub, i32_mul, i32_neg, i32_lt, i32_le, i32_eq, i32_nat, ckn, pka_r, pka_v, if_pos, if_neg, if_true, if_false, z2, zq, z4, Int.toNat_natCast, esp, zo, zl, r1', va_rf, zw, zu, hu1, ei, ej, eb]
          rfl) (fl3 J 50 0, none, none, none, none, none, none) ⟨fun a ha => fl3_a ha, fun i n hi => by
    show gb (fl3 J 50 0 50 i) n = _
    rw [fl3_s hi, gb_0]
    rfl⟩
  obtain ⟨J1, o3, o4, o5, o6, o7, o8⟩ := y
  simp only at v1 v2 e
  refine ⟨J1, v1, fun i n hi => v2 i n hi, ?_⟩
  rw [e_X6_gatherGifts, k_X6_gatherGifts_0_a]
  simp only [fl, pka_v, k_X6_gatherGifts_8_a]
  refine Eq.trans e ?_
  show den none (Mean (d + 1)) none tQ_X6_gatherGifts (10, _, [], 176, zs Z, J1, _) = _
  rw [k_X6_gatherGifts_10_a (hv_p4 := by omega)]
  simp (disch := omega) only [k_X6_gatherGifts_0_a, k_X6_gatherGifts_8_a, k_X6_gatherGifts_21_a, k_X6_gatherGifts_27_a, k_X6_gatherGifts_36_a, k_X6_gatherGifts_42_a, k_X6_gatherGifts_51_a, k_X6_gatherGifts_64_a, k_X6_gatherGifts_65_a, k_X6_gatherGifts_76_a, k_X6_gatherGifts_87_a, k_X6_gatherGifts_90_a, k_X6_gatherGifts_98_a, k_X6_gatherGifts_107_a, k_X6_gatherGifts_109_a, k_X6_gatherGifts_112_a, k_X6_gatherGifts_135_a, k_X6_gatherGifts_143_a, k_X6_gatherGifts_153_a, k_X6_gatherGifts_155_a, k_X6_gatherGifts_161_a, k_X6_gatherGifts_167_a, li_0, li_1, li_2, li_3, li_4, li_5, li_6, li_9, li_10, li_40, lm_1, lm_2, lm_3, lm_4, zs_ap, i32_add, i32_sub, i32_mul, i32_neg, i32_lt, i32_le, i32_eq, i32_nat, ckn, pka_r, pka_v, if_pos, if_neg, if_true, if_false, z2]
end
section
variable {d : Nat} {J : Nat → Nat → Int64} {Z : Nat → Nat → Int} {p0 p1 p2 p3 p4 p7 : Nat} {m : Mat} {b : Nat → Int}
theorem ns_loop_b (hp : p2 = 5 ∨ p2 = 20) (hw : wf m) {s : Nat} (hs : s < qN m) (hne : s ≠ qbeg m) (Z0 : Nat → Nat → Int) (hm : KM m p2 Z0) (hk : ∀ k : Nat, k < qP m → Z0 36 k = qpl m k) (x1 : Int32) : ∀ (j k : Nat) (Z : Nat → Nat → Int), k + j = qP m → (∀ a : Nat, a ≠ 118 → Z a = Z0 a) → (∀ i : Nat, i < k → qhas m s i = qcut m i) → (∀ i : Nat, i < k → Z 118 i = qkept m i) → (∀ i : Nat, k ≤ i → i < qP m → Z 118 i = qhas m s i) →
    ∃ (k0 : Nat) (Z' : Nat → Nat → Int), k0 < qP m ∧ (∀ i : Nat, i < k0 → qhas m s i = qcut m i) ∧ qhas m s k0 < qcut m k0 ∧ (∀ a : Nat, a ≠ 118 → Z' a = Z0 a) ∧ (∀ i : Nat, i < qP m → Z' 118 i = nxd m s k0 i) ∧ den none (Mean d) (some .int) tQ_X6_nextState (4, [some (.ref 112), some (.int x1), some (.int (i32 ((s : Int) + (qdot m (qkept m) k : Nat) - (qdot m (qcut m) k : Nat)))), some (.int (i32 (k : Int)))], [], 176, zs Z, J, RP p0 p1 p2 p3 p4 35 p2 p7) = some (some (.int (i32 ((s + qdot m (qkept m) k0 + 1 : Nat) : Int))), (176, zs Z', J, RP p0 p1 p2 p3 p4 35 p2 p7)) := by
  have hP := hw.2.1
  have hN := qpl_b hw (k := qP m) (Nat.le_refl _)
  have hN' : qN m = qpl m (qP m) := rfl
  intro j
  induction j with
  | zero =>
    intro k Z hkj hz hf _ _
    exact absurd (full_beg hs (fun i hi => hf i (by omega))) hne
  | succ j ih =>
    intro k Z hkj hz hf h1 h2
    have hk' : k < qP m := by omega
    have hm1 : KM m p2 Z := KM_fr hP hm (fun a h1 h2 => hz a (by omega))
    have z2 : Z p2 2 = (qP m : Int) := hm1.1.2.1
    have z3 : Z (p2 + 3) k = (qcut m k : Int) := (hm1.2.1 k hk').2.1
    have z4 : Z (p2 + 4) k = (qkept m k : Int) := (hm1.2.1 k hk').2.2.1
    have zw : Z 36 k = (qpl m k : Int) := by rw [hz _ (by decide)]; exact hk k hk'
    have zq : Z 118 k = (qhas m s k : Int) := h2 k (Nat.le_refl _) hk'
    have hc := hw.2.2.1 k hk'
    have hle := qhas_le m s k
    have pk := qpl_b hw (k := k) (by omega)
    have cf := cut_full m k
    have kl := qdot_b hw (g := qkept m) (fun k hk => Nat.le_of_lt (hw.2.2.1 k hk).2.2.1) (n := k) (by omega)
    by_cases c : qhas m s k < qcut m k
    · refine ⟨k, u2 Z 118 k ((qhas m s k : Int) + 1), hk', hf, c, fun a ha => (u2_ne ha).trans (hz a ha), fun i hi => ?_, ?_⟩
      · unfold nxd
        by_cases c1 : i = k
        · rw [c1, u2s, if_neg (by omega), if_pos rfl]
          omega
        · rw [u2f c1]
          by_cases c2 : i < k
          · rw [if_pos c2]
            exact h1 i c2
          · rw [if_neg c2, if_neg c1]
            exact h2 i (by omega) hi
      · rw [k_X6_nextState_4_b (hv_p6 := by omega)]
        simp (disch := omega) only [k_X6_nextState_0_b, k_X6_nextState_15_b, k_X6_nextState_21_b, k_X6_nextState_30_b, k_X6_nextState_33_b, k_X6_nextState_40_b, k_X6_nextState_43_b, k_X6_nextState_53_b, k_X6_nextState_55_b, k_X6_nextState_62_b, k_X6_nextState_71_b, k_X6_nextState_81_b, k_X6_nextState_98_b, k_X6_nextState_99_b, k_X6_nextState_105_b, li_0, li_1, li_2, li_3, li_4, li_5, li_6, li_9, li_10, li_40, lm_1, lm_2, lm_3, lm_4, zs_ap, i32_add, i32_sub, i32_mul, i32_neg, i32_lt, i32_le, i32_eq, i32_nat, ckn, pka_r, pka_v, if_pos, if_neg, if_true, if_false, z2, z3, zq, zw, Int.toNat_natCast, zs_u2, u2a]
        rw [show (s : Int) + (qdot m (qkept m) k : Nat) - (qdot m (qcut m) k : Nat) + (qpl m k : Nat) = ((s + qdot m (qkept m) k + 1 : Nat) : Int) by omega]
    · have e0 : qhas m s k = qcut m k := by omega
      obtain ⟨k0, Z', a1, a2, a3, a4, a5, a6⟩ := ih (k + 1) (u2 Z 118 k (qkept m k : Int)) (by omega) (fun a ha => (u2_ne ha).trans (hz a ha)) (fun i hi => by
        by_cases c1 : i = k
        · rw [c1]; exact e0
        · exact hf i (by omega)) (fun i hi => by
        by_cases c1 : i = k
        · rw [c1, u2s]
        · rw [u2f c1]; exact h1 i (by omega)) (fun i hi hi2 => by
        rw [u2f (by omega)]
        exact h2 i (by omega) hi2)
      refine ⟨k0, Z', a1, a2, a3, a4, a5, ?_⟩
      have hmul : (((qcut m k : Nat) : Int) - ((qkept m k : Nat) : Int)) * ((qpl m k : Nat) : Int) = ((qpl m k * qcut m k : Nat) : Int) - ((qpl m k * qkept m k : Nat) : Int) := by
        rw [Int.sub_mul, Int.natCast_mul, Int.natCast_mul, Int.mul_comm ((qpl m k : Nat) : Int), Int.mul_comm ((qpl m k : Nat) : Int)]
      have ee : (s : Int) + (qdot m (qkept m) k : Nat) - (qdot m (qcut m) k : Nat) - (((qcut m k : Nat) : Int) - ((qkept m k : Nat) : Int)) * ((qpl m k : Nat) : Int) = (s : Int) + (qdot m (qkept m) (k + 1) : Nat) - (qdot m (qcut m) (k + 1) : Nat) := by
        rw [hmul, dot_s, dot_s]
        omega
      rw [← a6, k_X6_nextState_4_b (hv_p6 := by omega)]
      simp (disch := omega) only [k_X6_nextState_0_b, k_X6_nextState_15_b, k_X6_nextState_21_b, k_X6_nextState_30_b, k_X6_nextState_33_b, k_X6_nextState_40_b, k_X6_nextState_43_b, k_X6_nextState_53_b, k_X6_nextState_55_b, k_X6_nextState_62_b, k_X6_nextState_71_b, k_X6_nextState_81_b, k_X6_nextState_98_b, k_X6_nextState_99_b, k_X6_nextState_105_b, li_0, li_1, li_2, li_3, li_4, li_5, li_6, li_9, li_10, li_40, lm_1, lm_2, lm_3, lm_4, zs_ap, i32_add, i32_sub, i32_mul, i32_neg, i32_lt, i32_le, i32_eq, i32_nat, ckn, pka_r, pka_v, if_pos, if_neg, if_true, if_false, z2, z3, z4, zq, zw, e0, Int.toNat_natCast, zs_u2, u2a, ee]
      rfl
theorem h_nextState_b (hp : p2 = 5 ∨ p2 = 20) (hw : wf m) (hm : KM m p2 Z) (hk : KW m 35 Z) {s : Nat} (hs : s < qN m) (hne : s ≠ qbeg m) (ho : okS m s) (hst : ∀ k : Nat, k < qP m → Z 118 k = qhas m s k) : ∃ (s' : Nat) (Z' : Nat → Nat → Int), (s < s' ∧ s' < qN m ∧ okS m s' ∧ ∀ u : Nat, s < u → u < s' → ¬ okS m u) ∧ (∀ a : Nat, a ≠ 118 → Z' a = Z a) ∧ (∀ k : Nat, k < qP m → Z' 118 k = qhas m s' k) ∧ Mean (d + 1) 67 [.ref 112, .int (i32 (s : Int))] (176, zs Z, J, RP p0 p1 p2 p3 p4 35 p2 p7) = some (some (.int (i32 (s' : Int))), (176, zs Z', J, RP p0 p1 p2 p3 p4 35 p2 p7)) := by
  obtain ⟨k0, Z', a1, a2, a3, a4, a5, a6⟩ := ns_loop_b (d := d) (J := J) (p0 := p0) (p1 := p1) (p2 := p2) (p3 := p3) (p4 := p4) (p7 := p7) hp hw hs hne Z hm hk.2 (i32 (s : Int)) (qP m) 0 Z (by omega) (fun _ _ => rfl) (fun i hi => by omega) (fun i hi => by omega) (fun i _ hi => hst i hi)
  obtain ⟨n1, n2, n3, n4⟩ := nx_state hw hs a1 a2 a3 ho
  refine ⟨s + qdot m (qkept m) k0 + 1, Z', ⟨by omega, n1, n3, n4⟩, a4, fun k hk => ?_, ?_⟩
  · rw [a5 k hk, n2 k hk]
  · rw [e_X6_nextState, k_X6_nextState_0_b, ← a6]
    rw [show (s : Int) + (qdot m (qkept m) 0 : Nat) - (qdot m (qcut m) 0 : Nat) = (s : Int) by
      show (s : Int) + ((0 : Nat) : Int) - ((0 : Nat) : Int) = (s : Int)
      omega]
    rfl
theorem gg_in_b (hw : wf m) {k s : Nat} (hs : s < qN m) {c : Nat} (hg : pshn c = some (.inl (.long, 400))) (hc : c ≠ 119) {o M : Nat} (ho : o < 3) (hM : M ≤ qhas m s k) (hM9 : M ≤ 9) (x2 x3 : Int32) :
    ∃ J' : Nat → Nat → Int64, (∀ a : Nat, a ≠ 119 → J' a = J a) ∧ (∀ i : Nat, i ≠ o → J' 119 i = J 119 i) ∧ (∀ n : Nat, gb (J' 119 o) n = (gb (J 119 o) n || anyN (fun q => gb (J c (s - (q + 1) * qpl m k)) n) M)) ∧ den none (Mean d) none tQ_X6_gatherGifts (128, [some (.ref 112), some (.int (i32 (s : Int))), some (.int x2), some (.int x3), some (.int (i32 (o : Int))), some (.ref c), some (.int (i32 ((qpl m k : Nat) : Int))), some (.int (i32 (M : Int))), some (.int (i32 ((0 + 1 : Nat) : Int)))], [], 176, zs Z, J, RP p0 p1 p2 p3 p4 35 p2 p7) = den none (Mean d) none tQ_X6_gatherGifts (161, [some (.ref 112), some (.int (i32 (s : Int))), some (.int x2), some (.int x3), some (.int (i32 (o : Int))), some (.ref c), some (.int (i32 ((qpl m k : Nat) : Int))), some (.int (i32 (M : Int))), some (.int (i32 ((M + 1 : Nat) : Int)))], [], 176, zs Z, J', RP p0 p1 p2 p3 p4 35 p2 p7) := by
  have hN := qpl_b hw (k := qP m) (Nat.le_refl _)
  have hN' : qN m = qpl m (qP m) := rfl
  obtain ⟨J', ⟨v1, v2, v3⟩, e⟩ := up_inv (fun (q : Nat) (J : Nat → Nat → Int64) => den none (Mean d) none tQ_X6_gatherGifts (128, [some (.ref 112), some (.int (i32 (s : Int))), some (.int x2), some (.int x3), some (.int (i32 (o : Int))), some (.ref c), some (.int (i32 ((qpl m k : Nat) : Int))), some (.int (i32 (M : Int))), some (.int (i32 ((q + 1 : Nat) : Int)))], [], 176, zs Z, J, RP p0 p1 p2 p3 p4 35 p2 p7)) M (fun q J' => (∀ a : Nat, a ≠ 119 → J' a = J a) ∧ (∀ i : Nat, i ≠ o → J' 119 i = J 119 i) ∧ ∀ n : Nat, gb (J' 119 o) n = (gb (J 119 o) n || anyN (fun q => gb (J c (s - (q + 1) * qpl m k)) n) q)) (fun q J' hq hv => by
    obtain ⟨v1, v2, v3⟩ := hv
    have hsub := sub_le (m := m) (s := s) (k := k) (q := q + 1) (by omega)
    have ei : i32 (s : Int) - i32 ((q + 1 : Nat) : Int) * i32 ((qpl m k : Nat) : Int) = i32 ((s - (q + 1) * qpl m k : Nat) : Int) := by
      rw [i32_mul, i32_sub, sub_c hsub]
    have ej : J' c = J c := v1 c hc
    refine ⟨u2 J' 119 o (J' 119 o ||| J c (s - (q + 1) * qpl m k)), ⟨fun a ha => (u2_ne ha).trans (v1 a ha), fun i hi => (u2f hi).trans (v2 i hi), fun n => ?_⟩, ?_⟩
    · rw [u2s, gb_or, v3 n, anyN_s, Bool.or_assoc]
    · show den none (Mean d) none tQ_X6_gatherGifts (128, _, [], 176, zs Z, J', _) = _
      rw [k_X6_gatherGifts_128_b]
      simp (disch := first | omega | assumption) only [k_X6_gatherGifts_135_b, k_X6_gatherGifts_143_b, k_X6_gatherGifts_153_b, k_X6_gatherGifts_155_b, ei, i32_lt, i32_nat, li_0, li_1, i32_add, ckn, if_neg, if_pos, Int.toNat_natCast, ej]
      rfl) J ⟨fun _ _ => rfl, fun _ _ => rfl, fun n => by simp [anyN]⟩
  refine ⟨J', v1, v2, v3, e.trans ?_⟩
  show den none (Mean d) none tQ_X6_gatherGifts (128, _, [], 176, zs Z, J', _) = _
  rw [k_X6_gatherGifts_128_b]
  simp (disch := omega) only [k_X6_gatherGifts_0_b, k_X6_gatherGifts_8_b, k_X6_gatherGifts_21_b, k_X6_gatherGifts_27_b, k_X6_gatherGifts_36_b, k_X6_gatherGifts_42_b, k_X6_gatherGifts_51_b, k_X6_gatherGifts_64_b, k_X6_gatherGifts_65_b, k_X6_gatherGifts_76_b, k_X6_gatherGifts_87_b, k_X6_gatherGifts_90_b, k_X6_gatherGifts_98_b, k_X6_gatherGifts_107_b, k_X6_gatherGifts_109_b, k_X6_gatherGifts_112_b, k_X6_gatherGifts_135_b, k_X6_gatherGifts_143_b, k_X6_gatherGifts_153_b, k_X6_gatherGifts_155_b, k_X6_gatherGifts_167_b, li_0, li_1, li_2, li_3, li_4, li_5, li_6, li_9, li_10, li_40, lm_1, lm_2, lm_3, lm_4, zs_ap, i32_add, i32_sub, i32_mul, i32_neg, i32_lt, i32_le, i32_eq, i32_nat, ckn, pka_r, pka_v, if_pos, if_neg, if_true, if_false]
theorem h_gather_b (hp : p2 = 5 ∨ p2 = 20) (hw : wf m) (hm : KM m p2 Z) (hk : KW m 35 Z) (hr : ∀ i : Nat, i < qS m → Z 117 i = lbh m i) {s : Nat} (hs : s < qN m) (ho : okS m s) (hst : ∀ k : Nat, k < qP m → Z 118 k = qhas m s k) : ∃ J' : Nat → Nat → Int64, (∀ a : Nat, a ≠ 119 → J' a = J a) ∧ (∀ i n : Nat, i < 3 → gb (J' 119 i) n = givs m s (fun k => decide (qown m k = i)) (fun u => gb (J (114 + lbh m i) u) n)) ∧ Mean (d + 2) 70 [.ref 112, .int (i32 (s : Int))] (176, zs Z, J, RP p0 p1 p2 p3 p4 35 p2 p7) = some (none, (176, zs Z, J', RP p0 p1 p2 p3 p4 35 p2 p7)) := by
  have hS := hw.1
  have hP := hw.2.1
  have hN := qpl_b hw (k := qP m) (Nat.le_refl _)
  have hN' : qN m = qpl m (qP m) := rfl
  have z2 : Z p2 2 = (qP m : Int) := hm.1.2.1
  have z12 : Z p2 12 = (qlump m : Int) := hm.1.2.2.2.1
  have hlump := hw.2.2.2.2.2.1.2.1
  have fl := h_fillJ (d := d) (J := J) (Z := Z) (p0 := p0) (p1 := p1) (p2 := p2) (p3 := p3) (p4 := p4) (p5 := 35) (p6 := p2) (p7 := p7) (g := 119) rfl 0
  obtain ⟨y, ⟨v1, v2⟩, e⟩ := up_inv (fun (k : Nat) (y : (Nat → Nat → Int64) × Option Value × Option Value × Option Value × Option Value × Option Value × Option Value) => den none (Mean (d + 1)) none tQ_X6_gatherGifts (10, [some (.ref 112), some (.int (i32 (s : Int))), some (.int (i32 (k : Int))), y.2.1, y.2.2.1, y.2.2.2.1, y.2.2.2.2.1, y.2.2.2.2.2.1, y.2.2.2.2.2.2], [], 176, zs Z, y.1, RP p0 p1 p2 p3 p4 35 p2 p7)) (qP m) (fun k y => (∀ a : Nat, a ≠ 119 → y.1 a = J a) ∧ ∀ i n : Nat, i < 3 → gb (y.1 119 i) n = anyN (fun k => decide (qown m k = i) && giv m s k (fun u => gb (J (114 + lbh m i) u) n)) k) (fun k y hkP hv => by
    obtain ⟨J1, o3, o4, o5, o6, o7, o8⟩ := y
    obtain ⟨v1, v2⟩ := hv
    simp only at v1 v2
    have zq : Z 118 k = (qhas m s k : Int) := hst k hkP
    have z4 : Z (p2 + 4) k = (qkept m k : Int) := (hm.2.1 k hkP).2.2.1
    have zo : Z (p2 + 2) k = (qown m k : Int) := (hm.2.1 k hkP).1
    have zu : Z (p2 + 5) k = (qund m k : Int) := (hm.2.1 k hkP).2.2.2
    have zw : Z 36 k = (qpl m k : Int) := hk.2 k hkP
    have hc := hw.2.2.1 k hkP
    have hle := qhas_le m s k
    have hok := ho k hkP
    have pk := qpl_b hw (k := k) (by omega)
    have zl : Z 117 (qown m k) = (lbh m (qown m k) : Int) := hr _ hc.1
    have hlb := lbh_lt hw hc.1
    obtain ⟨r1, r2⟩ := RPl (p0 := p0) (p1 := p1) (p2 := p2) (p3 := p3) (p4 := p4) (p5 := 35) (p6 := p2) (p7 := p7) (q := 112) (by omega) hlb.2
    have r1' : RP p0 p1 p2 p3 p4 35 p2 p7 113 (lbh m (qown m k)) = some (114 + lbh m (qown m k)) := r1
    have r2' : pshn (114 + lbh m (qown m k)) = some (.inl (.long, 400)) := r2
    by_cases c0 : qhas m s k = qkept m k
    · refine ⟨(J1, some (.int (i32 0)), o4, o5, o6, o7, o8), ⟨v1, fun i n hi => ?_⟩, ?_⟩
      · show gb (J1 119 i) n = _
        rw [v2 i n hi, anyN_s]
        have e0 : giv m s k (fun u => gb (J (114 + lbh m i) u) n) = false := by
          cases cg : giv m s k (fun u => gb (J (114 + lbh m i) u) n)
          · rfl
          · obtain ⟨q, _, q2, _⟩ := giv_iff.mp cg
            have := may_le q2
            omega
        rw [e0, Bool.and_false, Bool.or_false]
      · show den none (Mean (d + 1)) none tQ_X6_gatherGifts (10, _, [], 176, zs Z, J1, _) = den none (Mean (d + 1)) none tQ_X6_gatherGifts (10, _, [], 176, zs Z, J1, _)
        rw [k_X6_gatherGifts_10_b (hv_p6 := by omega)]
        simp (disch := omega) only [k_X6_gatherGifts_0_b, k_X6_gatherGifts_8_b, k_X6_gatherGifts_21_b, k_X6_gatherGifts_27_b, k_X6_gatherGifts_36_b, k_X6_gatherGifts_42_b, k_X6_gatherGifts_51_b, k_X6_gatherGifts_64_b, k_X6_gatherGifts_65_b, k_X6_gatherGifts_76_b, k_X6_gatherGifts_87_b, k_X6_gatherGifts_90_b, k_X6_gatherGifts_98_b, k_X6_gatherGifts_107_b, k_X6_gatherGifts_109_b, k_X6_gatherGifts_112_b, k_X6_gatherGifts_135_b, k_X6_gatherGifts_143_b, k_X6_gatherGifts_153_b, k_X6_gatherGifts_155_b, k_X6_gatherGifts_161_b, k_X6_gatherGifts_167_b, li_0, li_1, li_2, li_3, li_4, li_5, li_6, li_9, li_10, li_40, lm_1, lm_2, lm_3, lm_4, zs_ap, i32_add, i32_sub, i32_mul, i32_neg, i32_lt, i32_le, i32_eq, i32_nat, ckn, pka_r, pka_v, if_pos, if_neg, if_true, if_false, z2, zq, z4, c0, Int.toNat_natCast, Int.sub_self]
        rfl
    · have esp : ((qhas m s k : Nat) : Int) - ((qkept m k : Nat) : Int) = ((qhas m s k - qkept m k : Nat) : Int) := by omega
      have ej : J1 (114 + lbh m (qown m k)) = J (114 + lbh m (qown m k)) := v1 _ (by omega)
      by_cases cu : qund m k = 0
      · have hM : ∃ M : Nat, M ≤ qhas m s k ∧ M ≤ 9 ∧ (∀ q : Nat, qmay m s k (q + 1) = true ↔ q < M) ∧ (if (qlump m : Int) < ((qhas m s k - qkept m k : Nat) : Int) then (qlump m : Int) else ((qhas m s k - qkept m k : Nat) : Int)) = (M : Int) := by
          have hq : ∀ q : Nat, qmay m s k (q + 1) = true ↔ ((1 ≤ q + 1 ∧ q + 1 ≤ qlump m) ∧ q + 1 + qkept m k ≤ qhas m s k) := fun q => by
            unfold qmay
            rw [if_pos cu, decide_eq_true_iff]
          by_cases cl : (qlump m : Int) < ((qhas m s k - qkept m k : Nat) : Int)
          · exact ⟨qlump m, by omega, by omega, fun q => by rw [hq q]; omega, if_pos cl⟩
          · exact ⟨qhas m s k - qkept m k, by omega, by omega, fun q => by rw [hq q]; omega, if_neg cl⟩
        obtain ⟨M, m1, m2, m3, m4⟩ := hM
        obtain ⟨J2, b1, b2, b3, b4⟩ := gg_in_b (d := d + 1) (J := J1) (Z := Z) (p0 := p0) (p1 := p1) (p2 := p2) (p3 := p3) (p4 := p4) (p7 := p7) hw (k := k) hs r2' (by omega) (o := qown m k) (by omega) m1 m2 (i32 (k : Int)) (i32 ((qhas m s k - qkept m k : Nat) : Int))
        refine ⟨(J2, some (.int (i32 ((qhas m s k - qkept m k : Nat) : Int))), some (.int (i32 ((qown m k : Nat) : Int))), some (.ref (114 + lbh m (qown m k))), some (.int (i32 ((qpl m k : Nat) : Int))), some (.int (i32 (M : Int))), some (.int (i32 ((M + 1 : Nat) : Int)))), ⟨fun a ha => (b1 a ha).trans (v1 a ha), fun i n hi => ?_⟩, ?_⟩
        · show gb (J2 119 i) n = _
          rw [anyN_s, ← v2 i n hi]
          by_cases ci : i = qown m k
          · subst ci
            rw [b3 n, decide_eq_true rfl, Bool.true_and]
            congr 1
            apply beq_iff
            rw [anyN_iff, giv_iff]
            constructor
            · intro ⟨q, q1, q2⟩
              rw [ej] at q2
              exact ⟨q, by omega, (m3 q).mpr q1, q2⟩
            · intro ⟨q, q1, q2, q3⟩
              rw [ej]
              exact ⟨q, (m3 q).mp q2, q3⟩
          · rw [b2 i ci, decide_eq_false (fun z => ci z.symm), Bool.false_and, Bool.or_false]
        · show den none (Mean (d + 1)) none tQ_X6_gatherGifts (10, _, [], 176, zs Z, J1, _) = den none (Mean (d + 1)) none tQ_X6_gatherGifts (10, _, [], 176, zs Z, J2, _)
          have e5 : den none (Mean (d + 1)) none tQ_X6_gatherGifts (10, [some (.ref 112), some (.int (i32 (s : Int))), some (.int (i32 (k : Int))), o3, o4, o5, o6, o7, o8], [], 176, zs Z, J1, RP p0 p1 p2 p3 p4 35 p2 p7) = den none (Mean (d + 1)) none tQ_X6_gatherGifts (112, [some (.ref 112), some (.int (i32 (s : Int))), some (.int (i32 (k : Int))), some (.int (i32 ((qhas m s k - qkept m k : Nat) : Int))), some (.int (i32 ((qown m k : Nat) : Int))), some (.ref (114 + lbh m (qown m k))), some (.int (i32 ((qpl m k : Nat) : Int))), o7, o8], [], 176, zs Z, J1, RP p0 p1 p2 p3 p4 35 p2 p7) := by
            rw [k_X6_gatherGifts_10_b (hv_p6 := by omega)]
            simp (disch := omega) only [k_X6_gatherGifts_0_b, k_X6_gatherGifts_8_b, k_X6_gatherGifts_21_b, k_X6_gatherGifts_27_b, k_X6_gatherGifts_36_b, k_X6_gatherGifts_42_b, k_X6_gatherGifts_51_b, k_X6_gatherGifts_64_b, k_X6_gatherGifts_65_b, k_X6_gatherGifts_76_b, k_X6_gatherGifts_87_b, k_X6_gatherGifts_90_b, k_X6_gatherGifts_98_b, k_X6_gatherGifts_107_b, k_X6_gatherGifts_109_b, k_X6_gatherGifts_135_b, k_X6_gatherGifts_143_b, k_X6_gatherGifts_153_b, k_X6_gatherGifts_155_b, k_X6_gatherGifts_161_b, k_X6_gatherGifts_167_b, li_0, li_1, li_2, li_3, li_4, li_5, li_6, li_9, li_10, li_40, lm_1, lm_2, lm_3, lm_4, zs_ap, i32_add, i32_sub, i32_mul, i32_neg, i32_lt, i32_le, i32_eq, i32_nat, ckn, pka_r, pka_v, if_pos, if_neg, if_true, if_false, z2, zq, z4, Int.toNat_natCast, esp, zo, zl, r1', va_rf, zw, zu, cu]
          have e6 : (if zs Z p2 12 < i32 ((qhas m s k - qkept m k : Nat) : Int) then zs Z p2 12 else i32 ((qhas m s k - qkept m k : Nat) : Int)) = i32 (M : Int) := by
            rw [← m4, zs_ap, z12]
            simp (disch := omega) only [i32_lt]
            split <;> rfl
          show den none (Mean (d + 1)) none tQ_X6_gatherGifts (10, [some (.ref 112), some (.int (i32 (s : Int))), some (.int (i32 (k : Int))), o3, o4, o5, o6, o7, o8], [], 176, zs Z, J1, RP p0 p1 p2 p3 p4 35 p2 p7) = _
          rw [e5, k_X6_gatherGifts_112_b (hv_p6 := by omega), e6]
          refine Eq.trans b4 ?_
          rw [k_X6_gatherGifts_161_b, li_1, i32_add]
          rfl
      · have hu : ∀ q : Nat, qmay m s k (q + 1) = true ↔ q + 1 = qhas m s k - qkept m k := fun q => by
          unfold qmay
          rw [if_neg cu, decide_eq_true_iff]
          omega
        have hsub := sub_le (m := m) (s := s) (k := k) (q := qhas m s k - qkept m k) (by omega)
        have ei : i32 (s : Int) - i32 ((qhas m s k - qkept m k : Nat) : Int) * i32 ((qpl m k : Nat) : Int) = i32 ((s - (qhas m s k - qkept m k) * qpl m k : Nat) : Int) := by
          rw [i32_mul, i32_sub, sub_c hsub]
        refine ⟨(u2 J1 119 (qown m k) (J1 119 (qown m k) ||| J (114 + lbh m (qown m k)) (s - (qhas m s k - qkept m k) * qpl m k)), some (.int (i32 ((qhas m s k - qkept m k : Nat) : Int))), some (.int (i32 ((qown m k : Nat) : Int))), some (.ref (114 + lbh m (qown m k))), some (.int (i32 ((qpl m k : Nat) : Int))), o7, o8), ⟨fun a ha => (u2_ne ha).trans (v1 a ha), fun i n hi => ?_⟩, ?_⟩
        · show gb (u2 J1 119 (qown m k) _ 119 i) n = _
          rw [anyN_s, ← v2 i n hi]
          by_cases ci : i = qown m k
          · subst ci
            rw [u2s, gb_or, decide_eq_true rfl, Bool.true_and]
            congr 1
            apply beq_iff
            rw [giv_iff]
            constructor
            · intro q2
              refine ⟨qhas m s k - qkept m k - 1, by omega, (hu _).mpr (by omega), ?_⟩
              rw [show qhas m s k - qkept m k - 1 + 1 = qhas m s k - qkept m k by omega]
              exact q2
            · intro ⟨q, q1, q2, q3⟩
              rw [(hu q).mp q2] at q3
              exact q3
          · rw [u2f ci, decide_eq_false (fun z => ci z.symm), Bool.false_and, Bool.or_false]
        · show den none (Mean (d + 1)) none tQ_X6_gatherGifts (10, [some (.ref 112), some (.int (i32 (s : Int))), some (.int (i32 (k : Int))), o3, o4, o5, o6, o7, o8], [], 176, zs Z, J1, RP p0 p1 p2 p3 p4 35 p2 p7) = den none (Mean (d + 1)) none tQ_X6_gatherGifts (10, _, [], 176, zs Z, _, _)
          have hu1 : qund m k = 1 := by omega
          have et : ((s : Int) - ((qhas m s k - qkept m k : Nat) : Int) * ((qpl m k : Nat) : Int)).toNat = s - (qhas m s k - qkept m k) * qpl m k := by
            rw [sub_c hsub, Int.toNat_natCast]
          have eb : (s : Int) - ((qhas m s k - qkept m k : Nat) : Int) * ((qpl m k : Nat) : Int) = ((s - (qhas m s k - qkept m k) * qpl m k : Nat) : Int) := sub_c hsub
          rw [k_X6_gatherGifts_10_b (hv_p6 := by omega)]
          simp (disch := first | omega | assumption) only [k_X6_gatherGifts_0_b, k_X6_gatherGifts_8_b, k_X6_gatherGifts_21_b, k_X6_gatherGifts_27_b, k_X6_gatherGifts_36_b, k_X6_gatherGifts_42_b, k_X6_gatherGifts_51_b, k_X6_gatherGifts_64_b, k_X6_gatherGifts_65_b, k_X6_gatherGifts_76_b, k_X6_gatherGifts_87_b, k_X6_gatherGifts_90_b, k_X6_gatherGifts_98_b, k_X6_gatherGifts_107_b, k_X6_gatherGifts_109_b, k_X6_gatherGifts_112_b, k_X6_gatherGifts_135_b, k_X6_gatherGifts_143_b, k_X6_gatherGifts_153_b, k_X6_gatherGifts_155_b, k_X6_gatherGifts_161_b, k_X6_gatherGifts_167_b, li_0, li_1, li_2, li_3, li_4, li_5, li_6, li_9, li_10, li_40, lm_1, lm_2, lm_3, lm_4, zs_ap, i32_add, i32_sub, i32_mul, i32_neg, i32_lt, i32_le, i32_eq, i32_nat, ckn, pka_r, pka_v, if_pos, if_neg, if_true, if_false, z2, zq, z4, Int.toNat_natCast, esp, zo, zl, r1', va_rf, zw, zu, hu1, ei, ej, eb]
          rfl) (fl3 J 119 0, none, none, none, none, none, none) ⟨fun a ha => fl3_a ha, fun i n hi => by
    show gb (fl3 J 119 0 119 i) n = _
    rw [fl3_s hi, gb_0]
    rfl⟩
  obtain ⟨J1, o3, o4, o5, o6, o7, o8⟩ := y
  simp only at v1 v2 e
  refine ⟨J1, v1, fun i n hi => v2 i n hi, ?_⟩
  rw [e_X6_gatherGifts, k_X6_gatherGifts_0_b]
  simp only [fl, pka_v, k_X6_gatherGifts_8_b]
  refine Eq.trans e ?_
  show den none (Mean (d + 1)) none tQ_X6_gatherGifts (10, _, [], 176, zs Z, J1, _) = _
  rw [k_X6_gatherGifts_10_b (hv_p6 := by omega)]
  simp (disch := omega) only [k_X6_gatherGifts_0_b, k_X6_gatherGifts_8_b, k_X6_gatherGifts_21_b, k_X6_gatherGifts_27_b, k_X6_gatherGifts_36_b, k_X6_gatherGifts_42_b, k_X6_gatherGifts_51_b, k_X6_gatherGifts_64_b, k_X6_gatherGifts_65_b, k_X6_gatherGifts_76_b, k_X6_gatherGifts_87_b, k_X6_gatherGifts_90_b, k_X6_gatherGifts_98_b, k_X6_gatherGifts_107_b, k_X6_gatherGifts_109_b, k_X6_gatherGifts_112_b, k_X6_gatherGifts_135_b, k_X6_gatherGifts_143_b, k_X6_gatherGifts_153_b, k_X6_gatherGifts_155_b, k_X6_gatherGifts_161_b, k_X6_gatherGifts_167_b, li_0, li_1, li_2, li_3, li_4, li_5, li_6, li_9, li_10, li_40, lm_1, lm_2, lm_3, lm_4, zs_ap, i32_add, i32_sub, i32_mul, i32_neg, i32_lt, i32_le, i32_eq, i32_nat, ckn, pka_r, pka_v, if_pos, if_neg, if_true, if_false, z2]
end
section
variable {d : Nat} {J : Nat → Nat → Int64} {Z : Nat → Nat → Int} {p0 p1 p2 p3 p4 : Nat} {m : Mat} {b : Nat → Int}
theorem ns_loop_c  (hw : wf m) {s : Nat} (hs : s < qN m) (hne : s ≠ qbeg m) (Z0 : Nat → Nat → Int) (hm : KM m 97 Z0) (hk : ∀ k : Nat, k < qP m → Z0 122 k = qpl m k) (x1 : Int32) : ∀ (j k : Nat) (Z : Nat → Nat → Int), k + j = qP m → (∀ a : Nat, a ≠ 118 → Z a = Z0 a) → (∀ i : Nat, i < k → qhas m s i = qcut m i) → (∀ i : Nat, i < k → Z 118 i = qkept m i) → (∀ i : Nat, k ≤ i → i < qP m → Z 118 i = qhas m s i) →
    ∃ (k0 : Nat) (Z' : Nat → Nat → Int), k0 < qP m ∧ (∀ i : Nat, i < k0 → qhas m s i = qcut m i) ∧ qhas m s k0 < qcut m k0 ∧ (∀ a : Nat, a ≠ 118 → Z' a = Z0 a) ∧ (∀ i : Nat, i < qP m → Z' 118 i = nxd m s k0 i) ∧ den none (Mean d) (some .int) tQ_X6_nextState (4, [some (.ref 112), some (.int x1), some (.int (i32 ((s : Int) + (qdot m (qkept m) k : Nat) - (qdot m (qcut m) k : Nat)))), some (.int (i32 (k : Int)))], [], 176, zs Z, J, RP p0 p1 p2 p3 p4 121 97 97) = some (some (.int (i32 ((s + qdot m (qkept m) k0 + 1 : Nat) : Int))), (176, zs Z', J, RP p0 p1 p2 p3 p4 121 97 97)) := by
  have hP := hw.2.1
  have hN := qpl_b hw (k := qP m) (Nat.le_refl _)
  have hN' : qN m = qpl m (qP m) := rfl
  intro j
  induction j with
  | zero =>
    intro k Z hkj hz hf _ _
    exact absurd (full_beg hs (fun i hi => hf i (by omega))) hne
  | succ j ih =>
    intro k Z hkj hz hf h1 h2
    have hk' : k < qP m := by omega
    have hm1 : KM m 97 Z := KM_fr hP hm (fun a h1 h2 => hz a (by omega))
    have z2 : Z 97 2 = (qP m : Int) := hm1.1.2.1
    have z3 : Z 100 k = (qcut m k : Int) := (hm1.2.1 k hk').2.1
    have z4 : Z 101 k = (qkept m k : Int) := (hm1.2.1 k hk').2.2.1
    have zw : Z 122 k = (qpl m k : Int) := by rw [hz _ (by decide)]; exact hk k hk'
    have zq : Z 118 k = (qhas m s k : Int) := h2 k (Nat.le_refl _) hk'
    have hc := hw.2.2.1 k hk'
    have hle := qhas_le m s k
    have pk := qpl_b hw (k := k) (by omega)
    have cf := cut_full m k
    have kl := qdot_b hw (g := qkept m) (fun k hk => Nat.le_of_lt (hw.2.2.1 k hk).2.2.1) (n := k) (by omega)
    by_cases c : qhas m s k < qcut m k
    · refine ⟨k, u2 Z 118 k ((qhas m s k : Int) + 1), hk', hf, c, fun a ha => (u2_ne ha).trans (hz a ha), fun i hi => ?_, ?_⟩
      · unfold nxd
        by_cases c1 : i = k
        · rw [c1, u2s, if_neg (by omega), if_pos rfl]
          omega
        · rw [u2f c1]
          by_cases c2 : i < k
          · rw [if_pos c2]
            exact h1 i c2
          · rw [if_neg c2, if_neg c1]
            exact h2 i (by omega) hi
      · rw [k_X6_nextState_4_c]
        simp (disch := omega) only [k_X6_nextState_0_c, k_X6_nextState_15_c, k_X6_nextState_21_c, k_X6_nextState_30_c, k_X6_nextState_33_c, k_X6_nextState_40_c, k_X6_nextState_43_c, k_X6_nextState_53_c, k_X6_nextState_55_c, k_X6_nextState_62_c, k_X6_nextState_71_c, k_X6_nextState_81_c, k_X6_nextState_98_c, k_X6_nextState_99_c, k_X6_nextState_105_c, li_0, li_1, li_2, li_3, li_4, li_5, li_6, li_9, li_10, li_40, lm_1, lm_2, lm_3, lm_4, zs_ap, i32_add, i32_sub, i32_mul, i32_neg, i32_lt, i32_le, i32_eq, i32_nat, ckn, pka_r, pka_v, if_pos, if_neg, if_true, if_false, z2, z3, zq, zw, Int.toNat_natCast, zs_u2, u2a]
        rw [show (s : Int) + (qdot m (qkept m) k : Nat) - (qdot m (qcut m) k : Nat) + (qpl m k : Nat) = ((s + qdot m (qkept m) k + 1 : Nat) : Int) by omega]
    · have e0 : qhas m s k = qcut m k := by omega
      obtain ⟨k0, Z', a1, a2, a3, a4, a5, a6⟩ := ih (k + 1) (u2 Z 118 k (qkept m k : Int)) (by omega) (fun a ha => (u2_ne ha).trans (hz a ha)) (fun i hi => by
        by_cases c1 : i = k
        · rw [c1]; exact e0
        · exact hf i (by omega)) (fun i hi => by
        by_cases c1 : i = k
        · rw [c1, u2s]
        · rw [u2f c1]; exact h1 i (by omega)) (fun i hi hi2 => by
        rw [u2f (by omega)]
        exact h2 i (by omega) hi2)
      refine ⟨k0, Z', a1, a2, a3, a4, a5, ?_⟩
      have hmul : (((qcut m k : Nat) : Int) - ((qkept m k : Nat) : Int)) * ((qpl m k : Nat) : Int) = ((qpl m k * qcut m k : Nat) : Int) - ((qpl m k * qkept m k : Nat) : Int) := by
        rw [Int.sub_mul, Int.natCast_mul, Int.natCast_mul, Int.mul_comm ((qpl m k : Nat) : Int), Int.mul_comm ((qpl m k : Nat) : Int)]
      have ee : (s : Int) + (qdot m (qkept m) k : Nat) - (qdot m (qcut m) k : Nat) - (((qcut m k : Nat) : Int) - ((qkept m k : Nat) : Int)) * ((qpl m k : Nat) : Int) = (s : Int) + (qdot m (qkept m) (k + 1) : Nat) - (qdot m (qcut m) (k + 1) : Nat) := by
        rw [hmul, dot_s, dot_s]
        omega
      rw [← a6, k_X6_nextState_4_c]
      simp (disch := omega) only [k_X6_nextState_0_c, k_X6_nextState_15_c, k_X6_nextState_21_c, k_X6_nextState_30_c, k_X6_nextState_33_c, k_X6_nextState_40_c, k_X6_nextState_43_c, k_X6_nextState_53_c, k_X6_nextState_55_c, k_X6_nextState_62_c, k_X6_nextState_71_c, k_X6_nextState_81_c, k_X6_nextState_98_c, k_X6_nextState_99_c, k_X6_nextState_105_c, li_0, li_1, li_2, li_3, li_4, li_5, li_6, li_9, li_10, li_40, lm_1, lm_2, lm_3, lm_4, zs_ap, i32_add, i32_sub, i32_mul, i32_neg, i32_lt, i32_le, i32_eq, i32_nat, ckn, pka_r, pka_v, if_pos, if_neg, if_true, if_false, z2, z3, z4, zq, zw, e0, Int.toNat_natCast, zs_u2, u2a, ee]
      rfl
theorem h_nextState_c  (hw : wf m) (hm : KM m 97 Z) (hk : KW m 121 Z) {s : Nat} (hs : s < qN m) (hne : s ≠ qbeg m) (ho : okS m s) (hst : ∀ k : Nat, k < qP m → Z 118 k = qhas m s k) : ∃ (s' : Nat) (Z' : Nat → Nat → Int), (s < s' ∧ s' < qN m ∧ okS m s' ∧ ∀ u : Nat, s < u → u < s' → ¬ okS m u) ∧ (∀ a : Nat, a ≠ 118 → Z' a = Z a) ∧ (∀ k : Nat, k < qP m → Z' 118 k = qhas m s' k) ∧ Mean (d + 1) 67 [.ref 112, .int (i32 (s : Int))] (176, zs Z, J, RP p0 p1 p2 p3 p4 121 97 97) = some (some (.int (i32 (s' : Int))), (176, zs Z', J, RP p0 p1 p2 p3 p4 121 97 97)) := by
  obtain ⟨k0, Z', a1, a2, a3, a4, a5, a6⟩ := ns_loop_c (d := d) (J := J) (p0 := p0) (p1 := p1) (p2 := p2) (p3 := p3) (p4 := p4)  hw hs hne Z hm hk.2 (i32 (s : Int)) (qP m) 0 Z (by omega) (fun _ _ => rfl) (fun i hi => by omega) (fun i hi => by omega) (fun i _ hi => hst i hi)
  obtain ⟨n1, n2, n3, n4⟩ := nx_state hw hs a1 a2 a3 ho
  refine ⟨s + qdot m (qkept m) k0 + 1, Z', ⟨by omega, n1, n3, n4⟩, a4, fun k hk => ?_, ?_⟩
  · rw [a5 k hk, n2 k hk]
  · rw [e_X6_nextState, k_X6_nextState_0_c, ← a6]
    rw [show (s : Int) + (qdot m (qkept m) 0 : Nat) - (qdot m (qcut m) 0 : Nat) = (s : Int) by
      show (s : Int) + ((0 : Nat) : Int) - ((0 : Nat) : Int) = (s : Int)
      omega]
    rfl
theorem gg_in_c (hw : wf m) {k s : Nat} (hs : s < qN m) {c : Nat} (hg : pshn c = some (.inl (.long, 400))) (hc : c ≠ 119) {o M : Nat} (ho : o < 3) (hM : M ≤ qhas m s k) (hM9 : M ≤ 9) (x2 x3 : Int32) :
    ∃ J' : Nat → Nat → Int64, (∀ a : Nat, a ≠ 119 → J' a = J a) ∧ (∀ i : Nat, i ≠ o → J' 119 i = J 119 i) ∧ (∀ n : Nat, gb (J' 119 o) n = (gb (J 119 o) n || anyN (fun q => gb (J c (s - (q + 1) * qpl m k)) n) M)) ∧ den none (Mean d) none tQ_X6_gatherGifts (128, [some (.ref 112), some (.int (i32 (s : Int))), some (.int x2), some (.int x3), some (.int (i32 (o : Int))), some (.ref c), some (.int (i32 ((qpl m k : Nat) : Int))), some (.int (i32 (M : Int))), some (.int (i32 ((0 + 1 : Nat) : Int)))], [], 176, zs Z, J, RP p0 p1 p2 p3 p4 121 97 97) = den none (Mean d) none tQ_X6_gatherGifts (161, [some (.ref 112), some (.int (i32 (s : Int))), some (.int x2), some (.int x3), some (.int (i32 (o : Int))), some (.ref c), some (.int (i32 ((qpl m k : Nat) : Int))), some (.int (i32 (M : Int))), some (.int (i32 ((M + 1 : Nat) : Int)))], [], 176, zs Z, J', RP p0 p1 p2 p3 p4 121 97 97) := by
  have hN := qpl_b hw (k := qP m) (Nat.le_refl _)
  have hN' : qN m = qpl m (qP m) := rfl
  obtain ⟨J', ⟨v1, v2, v3⟩, e⟩ := up_inv (fun (q : Nat) (J : Nat → Nat → Int64) => den none (Mean d) none tQ_X6_gatherGifts (128, [some (.ref 112), some (.int (i32 (s : Int))), some (.int x2), some (.int x3), some (.int (i32 (o : Int))), some (.ref c), some (.int (i32 ((qpl m k : Nat) : Int))), some (.int (i32 (M : Int))), some (.int (i32 ((q + 1 : Nat) : Int)))], [], 176, zs Z, J, RP p0 p1 p2 p3 p4 121 97 97)) M (fun q J' => (∀ a : Nat, a ≠ 119 → J' a = J a) ∧ (∀ i : Nat, i ≠ o → J' 119 i = J 119 i) ∧ ∀ n : Nat, gb (J' 119 o) n = (gb (J 119 o) n || anyN (fun q => gb (J c (s - (q + 1) * qpl m k)) n) q)) (fun q J' hq hv => by
    obtain ⟨v1, v2, v3⟩ := hv
    have hsub := sub_le (m := m) (s := s) (k := k) (q := q + 1) (by omega)
    have ei : i32 (s : Int) - i32 ((q + 1 : Nat) : Int) * i32 ((qpl m k : Nat) : Int) = i32 ((s - (q + 1) * qpl m k : Nat) : Int) := by
      rw [i32_mul, i32_sub, sub_c hsub]
    have ej : J' c = J c := v1 c hc
    refine ⟨u2 J' 119 o (J' 119 o ||| J c (s - (q + 1) * qpl m k)), ⟨fun a ha => (u2_ne ha).trans (v1 a ha), fun i hi => (u2f hi).trans (v2 i hi), fun n => ?_⟩, ?_⟩
    · rw [u2s, gb_or, v3 n, anyN_s, Bool.or_assoc]
    · show den none (Mean d) none tQ_X6_gatherGifts (128, _, [], 176, zs Z, J', _) = _
      rw [k_X6_gatherGifts_128_c]
      simp (disch := first | omega | assumption) only [k_X6_gatherGifts_135_c, k_X6_gatherGifts_143_c, k_X6_gatherGifts_153_c, k_X6_gatherGifts_155_c, ei, i32_lt, i32_nat, li_0, li_1, i32_add, ckn, if_neg, if_pos, Int.toNat_natCast, ej]
      rfl) J ⟨fun _ _ => rfl, fun _ _ => rfl, fun n => by simp [anyN]⟩
  refine ⟨J', v1, v2, v3, e.trans ?_⟩
  show den none (Mean d) none tQ_X6_gatherGifts (128, _, [], 176, zs Z, J', _) = _
  rw [k_X6_gatherGifts_128_c]
  simp (disch := omega) only [k_X6_gatherGifts_0_c, k_X6_gatherGifts_8_c, k_X6_gatherGifts_21_c, k_X6_gatherGifts_27_c, k_X6_gatherGifts_36_c, k_X6_gatherGifts_42_c, k_X6_gatherGifts_51_c, k_X6_gatherGifts_64_c, k_X6_gatherGifts_65_c, k_X6_gatherGifts_76_c, k_X6_gatherGifts_87_c, k_X6_gatherGifts_90_c, k_X6_gatherGifts_98_c, k_X6_gatherGifts_107_c, k_X6_gatherGifts_109_c, k_X6_gatherGifts_112_c, k_X6_gatherGifts_135_c, k_X6_gatherGifts_143_c, k_X6_gatherGifts_153_c, k_X6_gatherGifts_155_c, k_X6_gatherGifts_167_c, li_0, li_1, li_2, li_3, li_4, li_5, li_6, li_9, li_10, li_40, lm_1, lm_2, lm_3, lm_4, zs_ap, i32_add, i32_sub, i32_mul, i32_neg, i32_lt, i32_le, i32_eq, i32_nat, ckn, pka_r, pka_v, if_pos, if_neg, if_true, if_false]
theorem h_gather_c  (hw : wf m) (hm : KM m 97 Z) (hk : KW m 121 Z) (hr : ∀ i : Nat, i < qS m → Z 117 i = lbh m i) {s : Nat} (hs : s < qN m) (ho : okS m s) (hst : ∀ k : Nat, k < qP m → Z 118 k = qhas m s k) : ∃ J' : Nat → Nat → Int64, (∀ a : Nat, a ≠ 119 → J' a = J a) ∧ (∀ i n : Nat, i < 3 → gb (J' 119 i) n = givs m s (fun k => decide (qown m k = i)) (fun u => gb (J (114 + lbh m i) u) n)) ∧ Mean (d + 2) 70 [.ref 112, .int (i32 (s : Int))] (176, zs Z, J, RP p0 p1 p2 p3 p4 121 97 97) = some (none, (176, zs Z, J', RP p0 p1 p2 p3 p4 121 97 97)) := by
  have hS := hw.1
  have hP := hw.2.1
  have hN := qpl_b hw (k := qP m) (Nat.le_refl _)
  have hN' : qN m = qpl m (qP m) := rfl
  have z2 : Z 97 2 = (qP m : Int) := hm.1.2.1
  have z12 : Z 97 12 = (qlump m : Int) := hm.1.2.2.2.1
  have hlump := hw.2.2.2.2.2.1.2.1
  have fl := h_fillJ (d := d) (J := J) (Z := Z) (p0 := p0) (p1 := p1) (p2 := p2) (p3 := p3) (p4 := p4) (p5 := 121) (p6 := 97) (p7 := 97) (g := 119) rfl 0
  obtain ⟨y, ⟨v1, v2⟩, e⟩ := up_inv (fun (k : Nat) (y : (Nat → Nat → Int64) × Option Value × Option Value × Option Value × Option Value × Option Value × Option Value) => den none (Mean (d + 1)) none tQ_X6_gatherGifts (10, [some (.ref 112), some (.int (i32 (s : Int))), some (.int (i32 (k : Int))), y.2.1, y.2.2.1, y.2.2.2.1, y.2.2.2.2.1, y.2.2.2.2.2.1, y.2.2.2.2.2.2], [], 176, zs Z, y.1, RP p0 p1 p2 p3 p4 121 97 97)) (qP m) (fun k y => (∀ a : Nat, a ≠ 119 → y.1 a = J a) ∧ ∀ i n : Nat, i < 3 → gb (y.1 119 i) n = anyN (fun k => decide (qown m k = i) && giv m s k (fun u => gb (J (114 + lbh m i) u) n)) k) (fun k y hkP hv => by
    obtain ⟨J1, o3, o4, o5, o6, o7, o8⟩ := y
    obtain ⟨v1, v2⟩ := hv
    simp only at v1 v2
    have zq : Z 118 k = (qhas m s k : Int) := hst k hkP
    have z4 : Z 101 k = (qkept m k : Int) := (hm.2.1 k hkP).2.2.1
    have zo : Z 99 k = (qown m k : Int) := (hm.2.1 k hkP).1
    have zu : Z 102 k = (qund m k : Int) := (hm.2.1 k hkP).2.2.2
    have zw : Z 122 k = (qpl m k : Int) := hk.2 k hkP
    have hc := hw.2.2.1 k hkP
    have hle := qhas_le m s k
    have hok := ho k hkP
    have pk := qpl_b hw (k := k) (by omega)
    have zl : Z 117 (qown m k) = (lbh m (qown m k) : Int) := hr _ hc.1
    have hlb := lbh_lt hw hc.1
    obtain ⟨r1, r2⟩ := RPl (p0 := p0) (p1 := p1) (p2 := p2) (p3 := p3) (p4 := p4) (p5 := 121) (p6 := 97) (p7 := 97) (q := 112) (by omega) hlb.2
    have r1' : RP p0 p1 p2 p3 p4 121 97 97 113 (lbh m (qown m k)) = some (114 + lbh m (qown m k)) := r1
    have r2' : pshn (114 + lbh m (qown m k)) = some (.inl (.long, 400)) := r2
    by_cases c0 : qhas m s k = qkept m k
    · refine ⟨(J1, some (.int (i32 0)), o4, o5, o6, o7, o8), ⟨v1, fun i n hi => ?_⟩, ?_⟩
      · show gb (J1 119 i) n = _
        rw [v2 i n hi, anyN_s]
        have e0 : giv m s k (fun u => gb (J (114 + lbh m i) u) n) = false := by
          cases cg : giv m s k (fun u => gb (J (114 + lbh m i) u) n)
          · rfl
          · obtain ⟨q, _, q2, _⟩ := giv_iff.mp cg
            have := may_le q2
            omega
        rw [e0, Bool.and_false, Bool.or_false]
      · show den none (Mean (d + 1)) none tQ_X6_gatherGifts (10, _, [], 176, zs Z, J1, _) = den none (Mean (d + 1)) none tQ_X6_gatherGifts (10, _, [], 176, zs Z, J1, _)
        rw [k_X6_gatherGifts_10_c]
        simp (disch := omega) only [k_X6_gatherGifts_0_c, k_X6_gatherGifts_8_c, k_X6_gatherGifts_21_c, k_X6_gatherGifts_27_c, k_X6_gatherGifts_36_c, k_X6_gatherGifts_42_c, k_X6_gatherGifts_51_c, k_X6_gatherGifts_64_c, k_X6_gatherGifts_65_c, k_X6_gatherGifts_76_c, k_X6_gatherGifts_87_c, k_X6_gatherGifts_90_c, k_X6_gatherGifts_98_c, k_X6_gatherGifts_107_c, k_X6_gatherGifts_109_c, k_X6_gatherGifts_112_c, k_X6_gatherGifts_135_c, k_X6_gatherGifts_143_c, k_X6_gatherGifts_153_c, k_X6_gatherGifts_155_c, k_X6_gatherGifts_161_c, k_X6_gatherGifts_167_c, li_0, li_1, li_2, li_3, li_4, li_5, li_6, li_9, li_10, li_40, lm_1, lm_2, lm_3, lm_4, zs_ap, i32_add, i32_sub, i32_mul, i32_neg, i32_lt, i32_le, i32_eq, i32_nat, ckn, pka_r, pka_v, if_pos, if_neg, if_true, if_false, z2, zq, z4, c0, Int.toNat_natCast, Int.sub_self]
        rfl
    · have esp : ((qhas m s k : Nat) : Int) - ((qkept m k : Nat) : Int) = ((qhas m s k - qkept m k : Nat) : Int) := by omega
      have ej : J1 (114 + lbh m (qown m k)) = J (114 + lbh m (qown m k)) := v1 _ (by omega)
      by_cases cu : qund m k = 0
      · have hM : ∃ M : Nat, M ≤ qhas m s k ∧ M ≤ 9 ∧ (∀ q : Nat, qmay m s k (q + 1) = true ↔ q < M) ∧ (if (qlump m : Int) < ((qhas m s k - qkept m k : Nat) : Int) then (qlump m : Int) else ((qhas m s k - qkept m k : Nat) : Int)) = (M : Int) := by
          have hq : ∀ q : Nat, qmay m s k (q + 1) = true ↔ ((1 ≤ q + 1 ∧ q + 1 ≤ qlump m) ∧ q + 1 + qkept m k ≤ qhas m s k) := fun q => by
            unfold qmay
            rw [if_pos cu, decide_eq_true_iff]
          by_cases cl : (qlump m : Int) < ((qhas m s k - qkept m k : Nat) : Int)
          · exact ⟨qlump m, by omega, by omega, fun q => by rw [hq q]; omega, if_pos cl⟩
          · exact ⟨qhas m s k - qkept m k, by omega, by omega, fun q => by rw [hq q]; omega, if_neg cl⟩
        obtain ⟨M, m1, m2, m3, m4⟩ := hM
        obtain ⟨J2, b1, b2, b3, b4⟩ := gg_in_c (d := d + 1) (J := J1) (Z := Z) (p0 := p0) (p1 := p1) (p2 := p2) (p3 := p3) (p4 := p4) hw (k := k) hs r2' (by omega) (o := qown m k) (by omega) m1 m2 (i32 (k : Int)) (i32 ((qhas m s k - qkept m k : Nat) : Int))
        refine ⟨(J2, some (.int (i32 ((qhas m s k - qkept m k : Nat) : Int))), some (.int (i32 ((qown m k : Nat) : Int))), some (.ref (114 + lbh m (qown m k))), some (.int (i32 ((qpl m k : Nat) : Int))), some (.int (i32 (M : Int))), some (.int (i32 ((M + 1 : Nat) : Int)))), ⟨fun a ha => (b1 a ha).trans (v1 a ha), fun i n hi => ?_⟩, ?_⟩
        · show gb (J2 119 i) n = _
          rw [anyN_s, ← v2 i n hi]
          by_cases ci : i = qown m k
          · subst ci
            rw [b3 n, decide_eq_true rfl, Bool.true_and]
            congr 1
            apply beq_iff
            rw [anyN_iff, giv_iff]
            constructor
            · intro ⟨q, q1, q2⟩
              rw [ej] at q2
              exact ⟨q, by omega, (m3 q).mpr q1, q2⟩
            · intro ⟨q, q1, q2, q3⟩
              rw [ej]
              exact ⟨q, (m3 q).mp q2, q3⟩
          · rw [b2 i ci, decide_eq_false (fun z => ci z.symm), Bool.false_and, Bool.or_false]
        · show den none (Mean (d + 1)) none tQ_X6_gatherGifts (10, _, [], 176, zs Z, J1, _) = den none (Mean (d + 1)) none tQ_X6_gatherGifts (10, _, [], 176, zs Z, J2, _)
          have e5 : den none (Mean (d + 1)) none tQ_X6_gatherGifts (10, [some (.ref 112), some (.int (i32 (s : Int))), some (.int (i32 (k : Int))), o3, o4, o5, o6, o7, o8], [], 176, zs Z, J1, RP p0 p1 p2 p3 p4 121 97 97) = den none (Mean (d + 1)) none tQ_X6_gatherGifts (112, [some (.ref 112), some (.int (i32 (s : Int))), some (.int (i32 (k : Int))), some (.int (i32 ((qhas m s k - qkept m k : Nat) : Int))), some (.int (i32 ((qown m k : Nat) : Int))), some (.ref (114 + lbh m (qown m k))), some (.int (i32 ((qpl m k : Nat) : Int))), o7, o8], [], 176, zs Z, J1, RP p0 p1 p2 p3 p4 121 97 97) := by
            rw [k_X6_gatherGifts_10_c]
            simp (disch := omega) only [k_X6_gatherGifts_0_c, k_X6_gatherGifts_8_c, k_X6_gatherGifts_21_c, k_X6_gatherGifts_27_c, k_X6_gatherGifts_36_c, k_X6_gatherGifts_42_c, k_X6_gatherGifts_51_c, k_X6_gatherGifts_64_c, k_X6_gatherGifts_65_c, k_X6_gatherGifts_76_c, k_X6_gatherGifts_87_c, k_X6_gatherGifts_90_c, k_X6_gatherGifts_98_c, k_X6_gatherGifts_107_c, k_X6_gatherGifts_109_c, k_X6_gatherGifts_135_c, k_X6_gatherGifts_143_c, k_X6_gatherGifts_153_c, k_X6_gatherGifts_155_c, k_X6_gatherGifts_161_c, k_X6_gatherGifts_167_c, li_0, li_1, li_2, li_3, li_4, li_5, li_6, li_9, li_10, li_40, lm_1, lm_2, lm_3, lm_4, zs_ap, i32_add, i32_sub, i32_mul, i32_neg, i32_lt, i32_le, i32_eq, i32_nat, ckn, pka_r, pka_v, if_pos, if_neg, if_true, if_false, z2, zq, z4, Int.toNat_natCast, esp, zo, zl, r1', va_rf, zw, zu, cu]
          have e6 : (if zs Z 97 12 < i32 ((qhas m s k - qkept m k : Nat) : Int) then zs Z 97 12 else i32 ((qhas m s k - qkept m k : Nat) : Int)) = i32 (M : Int) := by
            rw [← m4, zs_ap, z12]
            simp (disch := omega) only [i32_lt]
            split <;> rfl
          show den none (Mean (d + 1)) none tQ_X6_gatherGifts (10, [some (.ref 112), some (.int (i32 (s : Int))), some (.int (i32 (k : Int))), o3, o4, o5, o6, o7, o8], [], 176, zs Z, J1, RP p0 p1 p2 p3 p4 121 97 97) = _
          rw [e5, k_X6_gatherGifts_112_c, e6]
          refine Eq.trans b4 ?_
          rw [k_X6_gatherGifts_161_c, li_1, i32_add]
          rfl
      · have hu : ∀ q : Nat, qmay m s k (q + 1) = true ↔ q + 1 = qhas m s k - qkept m k := fun q => by
          unfold qmay
          rw [if_neg cu, decide_eq_true_iff]
          omega
        have hsub := sub_le (m := m) (s := s) (k := k) (q := qhas m s k - qkept m k) (by omega)
        have ei : i32 (s : Int) - i32 ((qhas m s k - qkept m k : Nat) : Int) * i32 ((qpl m k : Nat) : Int) = i32 ((s - (qhas m s k - qkept m k) * qpl m k : Nat) : Int) := by
          rw [i32_mul, i32_sub, sub_c hsub]
        refine ⟨(u2 J1 119 (qown m k) (J1 119 (qown m k) ||| J (114 + lbh m (qown m k)) (s - (qhas m s k - qkept m k) * qpl m k)), some (.int (i32 ((qhas m s k - qkept m k : Nat) : Int))), some (.int (i32 ((qown m k : Nat) : Int))), some (.ref (114 + lbh m (qown m k))), some (.int (i32 ((qpl m k : Nat) : Int))), o7, o8), ⟨fun a ha => (u2_ne ha).trans (v1 a ha), fun i n hi => ?_⟩, ?_⟩
        · show gb (u2 J1 119 (qown m k) _ 119 i) n = _
          rw [anyN_s, ← v2 i n hi]
          by_cases ci : i = qown m k
          · subst ci
            rw [u2s, gb_or, decide_eq_true rfl, Bool.true_and]
            congr 1
            apply beq_iff
            rw [giv_iff]
            constructor
            · intro q2
              refine ⟨qhas m s k - qkept m k - 1, by omega, (hu _).mpr (by omega), ?_⟩
              rw [show qhas m s k - qkept m k - 1 + 1 = qhas m s k - qkept m k by omega]
              exact q2
            · intro ⟨q, q1, q2, q3⟩
              rw [(hu q).mp q2] at q3
              exact q3
          · rw [u2f ci, decide_eq_false (fun z => ci z.symm), Bool.false_and, Bool.or_false]
        · show den none (Mean (d + 1)) none tQ_X6_gatherGifts (10, [some (.ref 112), some (.int (i32 (s : Int))), some (.int (i32 (k : Int))), o3, o4, o5, o6, o7, o8], [], 176, zs Z, J1, RP p0 p1 p2 p3 p4 121 97 97) = den none (Mean (d + 1)) none tQ_X6_gatherGifts (10, _, [], 176, zs Z, _, _)
          have hu1 : qund m k = 1 := by omega
          have et : ((s : Int) - ((qhas m s k - qkept m k : Nat) : Int) * ((qpl m k : Nat) : Int)).toNat = s - (qhas m s k - qkept m k) * qpl m k := by
            rw [sub_c hsub, Int.toNat_natCast]
          have eb : (s : Int) - ((qhas m s k - qkept m k : Nat) : Int) * ((qpl m k : Nat) : Int) = ((s - (qhas m s k - qkept m k) * qpl m k : Nat) : Int) := sub_c hsub
          rw [k_X6_gatherGifts_10_c]
          simp (disch := first | omega | assumption) only [k_X6_gatherGifts_0_c, k_X6_gatherGifts_8_c, k_X6_gatherGifts_21_c, k_X6_gatherGifts_27_c, k_X6_gatherGifts_36_c, k_X6_gatherGifts_42_c, k_X6_gatherGifts_51_c, k_X6_gatherGifts_64_c, k_X6_gatherGifts_65_c, k_X6_gatherGifts_76_c, k_X6_gatherGifts_87_c, k_X6_gatherGifts_90_c, k_X6_gatherGifts_98_c, k_X6_gatherGifts_107_c, k_X6_gatherGifts_109_c, k_X6_gatherGifts_112_c, k_X6_gatherGifts_135_c, k_X6_gatherGifts_143_c, k_X6_gatherGifts_153_c, k_X6_gatherGifts_155_c, k_X6_gatherGifts_161_c, k_X6_gatherGifts_167_c, li_0, li_1, li_2, li_3, li_4, li_5, li_6, li_9, li_10, li_40, lm_1, lm_2, lm_3, lm_4, zs_ap, i32_add, i32_sub, i32_mul, i32_neg, i32_lt, i32_le, i32_eq, i32_nat, ckn, pka_r, pka_v, if_pos, if_neg, if_true, if_false, z2, zq, z4, Int.toNat_natCast, esp, zo, zl, r1', va_rf, zw, zu, hu1, ei, ej, eb]
          rfl) (fl3 J 119 0, none, none, none, none, none, none) ⟨fun a ha => fl3_a ha, fun i n hi => by
    show gb (fl3 J 119 0 119 i) n = _
    rw [fl3_s hi, gb_0]
    rfl⟩
  obtain ⟨J1, o3, o4, o5, o6, o7, o8⟩ := y
  simp only at v1 v2 e
  refine ⟨J1, v1, fun i n hi => v2 i n hi, ?_⟩
  rw [e_X6_gatherGifts, k_X6_gatherGifts_0_c]
  simp only [fl, pka_v, k_X6_gatherGifts_8_c]
  refine Eq.trans e ?_
  show den none (Mean (d + 1)) none tQ_X6_gatherGifts (10, _, [], 176, zs Z, J1, _) = _
  rw [k_X6_gatherGifts_10_c]
  simp (disch := omega) only [k_X6_gatherGifts_0_c, k_X6_gatherGifts_8_c, k_X6_gatherGifts_21_c, k_X6_gatherGifts_27_c, k_X6_gatherGifts_36_c, k_X6_gatherGifts_42_c, k_X6_gatherGifts_51_c, k_X6_gatherGifts_64_c, k_X6_gatherGifts_65_c, k_X6_gatherGifts_76_c, k_X6_gatherGifts_87_c, k_X6_gatherGifts_90_c, k_X6_gatherGifts_98_c, k_X6_gatherGifts_107_c, k_X6_gatherGifts_109_c, k_X6_gatherGifts_112_c, k_X6_gatherGifts_135_c, k_X6_gatherGifts_143_c, k_X6_gatherGifts_153_c, k_X6_gatherGifts_155_c, k_X6_gatherGifts_161_c, k_X6_gatherGifts_167_c, li_0, li_1, li_2, li_3, li_4, li_5, li_6, li_9, li_10, li_40, lm_1, lm_2, lm_3, lm_4, zs_ap, i32_add, i32_sub, i32_mul, i32_neg, i32_lt, i32_le, i32_eq, i32_nat, ckn, pka_r, pka_v, if_pos, if_neg, if_true, if_false, z2]
end
