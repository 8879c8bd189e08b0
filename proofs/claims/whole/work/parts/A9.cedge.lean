/-! THE CLASS'S edge -/
theorem KM_aw {m : Mat} {k i : Nat} {v v' : Int} {Z : Nat → Nat → Int} (hk : k < 6) (hP : qP m ≤ 6) (hm : KM (awor m k i v) 97 Z) : KM (awor m k i v') 97 (u2 Z (104 + k) i v') := by
  refine ⟨?_, fun j hj => ?_, fun j hj a ha => ?_, fun a ha => ?_⟩
  · rw [u2_ne (by omega)]
    exact hm.1
  · rw [u2_ne (by omega), u2_ne (by omega), u2_ne (by omega), u2_ne (by omega)]
    exact hm.2.1 j hj
  · have hj2 : j < qP m := hj
    have t := hm.2.2.1 j hj a ha
    have e : ∀ v : Int, qwor (awor m k i v) j a = if j = k ∧ a = i then v else m.2.2 j a := fun v => rfl
    rw [e] at t
    rw [e]
    by_cases c : j = k
    · subst c
      by_cases c2 : a = i
      · subst c2
        rw [if_pos ⟨rfl, rfl⟩, show 97 + 7 + j = 104 + j by omega, u2s]
      · rw [if_neg (fun q => c2 q.2)] at t
        rw [if_neg (fun q => c2 q.2), show 97 + 7 + j = 104 + j by omega, u2f c2]
        exact t
    · rw [if_neg (fun q => c q.1)] at t
      rw [if_neg (fun q => c q.1), u2_ne (by omega)]
      exact t
  · have t := hm.2.2.2 a ha
    rw [awor_bre hk, awor_pea hk] at t
    rw [awor_bre hk, awor_pea hk, u2_ne (by omega), u2_ne (by omega)]
    exact t
theorem sm_aw {m : Mat} {k i : Nat} {v v' : Int} (g : Nat → Nat) {j : Nat} (hj : j ≠ i) : ∀ n : Nat, qsm (awor m k i v) g j n = qsm (awor m k i v') g j n
  | 0 => rfl
  | n + 1 => by
    show qsm (awor m k i v) g j n + (qwor (awor m k i v) n j * (g n : Int)).tdiv (qcut m n : Int) = qsm (awor m k i v') g j n + (qwor (awor m k i v') n j * (g n : Int)).tdiv (qcut m n : Int)
    rw [sm_aw g hj n, show qwor (awor m k i v) n j = qwor (awor m k i v') n j from (if_neg (fun q => hj q.2)).trans (if_neg (fun q => hj q.2)).symm]
theorem stop_aw {m : Mat} {k i : Nat} {v v' : Int} {j : Nat} (hj : j ≠ i) (s : Nat) : qstop (awor m k i v) s j = qstop (awor m k i v') s j := by
  unfold qstop
  rw [show qhas (awor m k i v) s = qhas (awor m k i v') s from funext (fun x => c_has (m := awor m k i v') (m' := awor m k i v) rfl rfl s x)]
  exact sm_aw _ hj _
theorem goal_aw {m : Mat} {k i : Nat} {v v' : Int} (hk : k < 6) {j : Nat} (hj : j ≠ i) : qgoal (awor m k i v) j = qgoal (awor m k i v') j := by
  unfold qgoal
  rw [c_fin (m := awor m k i v') (m' := awor m k i v) rfl rfl, stop_aw hj, awor_pea hk, awor_pea hk]
theorem KW_aw {m : Mat} {k i : Nat} {v v' : Int} {Z : Nat → Nat → Int} (h : KW (awor m k i v) 121 Z) : KW (awor m k i v') 121 Z := by
  obtain ⟨⟨h1, h2, h3⟩, h4⟩ := h
  refine ⟨⟨?_, ?_, ?_⟩, fun j hj => ?_⟩
  · rw [h1, c_N (m := awor m k i v') (m' := awor m k i v) rfl rfl]
  · rw [h2, c_beg (m := awor m k i v') (m' := awor m k i v) rfl rfl]
  · rw [h3, c_fin (m := awor m k i v') (m' := awor m k i v) rfl rfl]
  · rw [h4 j hj, c_pl (m := awor m k i v') (m' := awor m k i v) rfl rfl]
section
variable {d : Nat} {J : Nat → Nat → Int64} {Z : Nat → Nat → Int} {p0 p1 p5 p6 : Nat} {m : Mat}
/-- what the class's trials of a worth keep, n moves done -/
def KE (m : Mat) (k i : Nat) (Z : Nat → Nat → Int) (J : Nat → Nat → Int64) (n : Nat) (y : (Nat → Nat → Int) × (Nat → Nat → Int64) × Nat × Nat) : Prop := TF Z y.1 ∧ TJf J y.2.1 ∧ KM (eM m k i n) 97 y.1 ∧ KS (eM m k i n) 121 y.1
theorem edge_it (h : KI m p0 Z) (hT : wfT m) {k i n : Nat} (hk : k < qP m) (hi : i < qS m) (hn : n < 60) {y : (Nat → Nat → Int) × (Nat → Nat → Int64) × Nat × Nat} (hy : KE m k i Z J n y) : ∃ y' : (Nat → Nat → Int) × (Nat → Nat → Int64) × Nat × Nat, KE m k i Z J (n + 1) y' ∧ den none (Mean (d + 5)) (some .int) tQ_X9_leastMove (28, [some (.ref 95), some (.int (i32 (k : Int))), some (.int (i32 (i : Int))), some (.int (i32 (bB (hdm m (qbre m))))), some (.int (i32 ((n + 1 : Nat) : Int)))], [], 176, zs y.1, y.2.1, RP p0 p1 p0 35 p0 y.2.2.1 y.2.2.2 97) = if pEdge m k i n then some (some (.int (i32 ((n + 1 : Nat) : Int))), (176, zs y'.1, y'.2.1, RP p0 p1 p0 35 p0 y'.2.2.1 y'.2.2.2 97)) else den none (Mean (d + 5)) (some .int) tQ_X9_leastMove (28, [some (.ref 95), some (.int (i32 (k : Int))), some (.int (i32 (i : Int))), some (.int (i32 (bB (hdm m (qbre m))))), some (.int (i32 ((n + 1 + 1 : Nat) : Int)))], [], 176, zs y'.1, y'.2.1, RP p0 p1 p0 35 p0 y'.2.2.1 y'.2.2.2 97) := by
  obtain ⟨Z1, J1, q5, q6⟩ := y
  obtain ⟨y1, y2, y3, y4⟩ := hy
  simp only at y1 y2 y3 y4
  dsimp only
  obtain ⟨hw, hp, hm, hs⟩ := h
  have hP := hw.2.1
  have hS := hw.1
  have hwk := hT.2 k hk i hi
  have hw2 : wf (eM m k i (n + 1)) := awor_wf hw (by omega) (by omega)
  have hm2 : KM (eM m k i (n + 1)) 97 (u2 Z1 (104 + k) i (qwor m k i + ((n + 1 : Nat) : Int))) := KM_aw (by omega) hP y3
  have zo : Z1 (104 + k) i = qwor m k i + (n : Int) := by
    have t := y3.2.2.1 k hk i hi
    rw [show 97 + 7 + k = 104 + k by omega] at t
    rw [t]
    exact if_pos ⟨rfl, rfl⟩
  generalize hZ2 : u2 Z1 (104 + k) i (qwor m k i + ((n + 1 : Nat) : Int)) = Z2 at hm2
  have n2 : ∀ a : Nat, a ≠ 104 + k → Z2 a = Z1 a := fun a ha => by rw [← hZ2, u2_ne ha]
  have hk2 : KS (eM m k i n) 121 Z2 := KS_fr hS.2 y4 (fun a h1 h2 => n2 a (by omega))
  obtain ⟨Z3, l1, l2, l3, l4, l5⟩ := h_layStops_b (d := d + 3) (J := J1) (p0 := p0) (p1 := p1) (p2 := p0) (p3 := 35) (p4 := p0) (p5 := q5) (p6 := q6) hw2 hm2 (KW_aw hk2.1) (i := i) hi
  have ks3 : KS (eM m k i (n + 1)) 121 Z3 := by
    have kw : KW (eM m k i (n + 1)) 121 Z2 := KW_aw hk2.1
    refine ⟨?_, fun j hj s hs => ?_, fun j hj => ?_⟩
    · unfold KW
      rw [l1 121 (by omega) (by omega), l1 (121 + 1) (by omega) (by omega)]
      exact kw
    · by_cases c : j = i
      · subst c
        exact l2 s hs
      · rw [l1 _ (by omega) (by have : j < qS m := hj; omega), hk2.2.1 j hj s (by rw [c_N (m := m) (m' := eM m k i n) rfl rfl]; rw [c_N (m := m) (m' := eM m k i (n + 1)) rfl rfl] at hs; exact hs)]
        exact stop_aw c s
    · by_cases c : j = i
      · subst c
        exact l4
      · rw [show (121 + 6 : Nat) = 127 from rfl, l3 j c, hk2.2.2 j hj]
        exact goal_aw (by omega) c
  have f3 : TF Z Z3 := fun a ha => by rw [l1 a (by omega) (by omega), n2 a (by omega)]; exact y1 a ha
  have hm3 : KM (eM m k i (n + 1)) 97 Z3 := KM_fr hP hm2 (fun a h1 h2 => l1 a (by omega) (by omega))
  obtain ⟨Z4, J4, o1, o2, o3⟩ := h_holds_b (d := d) (J := J1) (p0 := p0) (p1 := p1) (p5 := q5) (p6 := q6) hp hw2 hm3 ks3 (b := qbre m) (fun a ha => by
    refine ⟨?_, (hw.2.2.2.2.1 a ha).2⟩
    have hp' := hp
    unfold hv2 at hp'
    rw [f3 _ (by omega)]
    exact (hm.2.2.2 a ha).2)
  refine ⟨(Z4, J4, 121, 97), ⟨fun a ha => (o1 a (by omega) (by omega) (by omega) (by omega)).trans (f3 a ha), TJ_tr y2 o2, KM_fr hP hm3 (fun a h1 h2 => o1 a (by omega) (by omega) (by omega) (by omega)), KS_fr hS.2 ks3 (fun a h1 h2 => o1 a (by omega) (by omega) (by omega) (by omega))⟩, ?_⟩
  have r1 : RP p0 p1 p0 35 p0 q5 q6 97 103 k = some (104 + k) := by
    have : k = 0 ∨ k = 1 ∨ k = 2 ∨ k = 3 ∨ k = 4 ∨ k = 5 := by omega
    rcases this with rfl | rfl | rfl | rfl | rfl | rfl <;> rfl
  have s1 : pshn (104 + k) = some (.inl (.int, 3)) := by
    have : k = 0 ∨ k = 1 ∨ k = 2 ∨ k = 3 ∨ k = 4 ∨ k = 5 := by omega
    rcases this with rfl | rfl | rfl | rfl | rfl | rfl <;> rfl
  have ea : qwor m k i + (n : Int) + 1 = qwor m k i + ((n + 1 : Nat) : Int) := by omega
  rw [k_X9_leastMove_28]
  unfold pEdge
  change Mean (d + 5) 96 _ _ = some (some (.int (i32 (bB (eH m k i (n + 1))))), _) at o3
  cases c1 : eH m k i (n + 1)
  · rw [c1, bBf] at o3
    cases c2 : hdm m (qbre m)
    · simp (disch := first | omega | assumption) only [k_X9_leastMove_14, k_X9_leastMove_25, k_X9_leastMove_35, k_X9_leastMove_44, k_X9_leastMove_47, k_X9_leastMove_50, k_X9_leastMove_58, k_X9_leastMove_69, k_X9_leastMove_73, k_X9_leastMove_76, k_X9_leastMove_82, li_0, li_1, li_2, li_3, li_4, li_5, li_6, li_9, li_10, li_40, lm_1, lm_2, lm_3, lm_4, zs_ap, i32_add, i32_sub, i32_mul, i32_neg, i32_lt, i32_le, i32_eq, i32_nat, ckn, pka_r, pka_v, if_pos, if_neg, if_true, if_false, li_60, Int.toNat_natCast, r1, va_rf, zo, ea, zs_u2, hZ2, l5, o3, bBf, Bool.xor_false, Bool.false_eq_true]
      rfl
    · simp (disch := first | omega | assumption) only [k_X9_leastMove_14, k_X9_leastMove_25, k_X9_leastMove_35, k_X9_leastMove_44, k_X9_leastMove_47, k_X9_leastMove_50, k_X9_leastMove_58, k_X9_leastMove_69, k_X9_leastMove_73, k_X9_leastMove_76, k_X9_leastMove_82, li_0, li_1, li_2, li_3, li_4, li_5, li_6, li_9, li_10, li_40, lm_1, lm_2, lm_3, lm_4, zs_ap, i32_add, i32_sub, i32_mul, i32_neg, i32_lt, i32_le, i32_eq, i32_nat, ckn, pka_r, pka_v, if_pos, if_neg, if_true, if_false, li_60, Int.toNat_natCast, r1, va_rf, zo, ea, zs_u2, hZ2, l5, o3, bBt, Bool.false_xor]
  · rw [c1, bBt] at o3
    cases c2 : hdm m (qbre m)
    · simp (disch := first | omega | assumption) only [k_X9_leastMove_14, k_X9_leastMove_25, k_X9_leastMove_35, k_X9_leastMove_44, k_X9_leastMove_47, k_X9_leastMove_50, k_X9_leastMove_58, k_X9_leastMove_69, k_X9_leastMove_73, k_X9_leastMove_76, k_X9_leastMove_82, li_0, li_1, li_2, li_3, li_4, li_5, li_6, li_9, li_10, li_40, lm_1, lm_2, lm_3, lm_4, zs_ap, i32_add, i32_sub, i32_mul, i32_neg, i32_lt, i32_le, i32_eq, i32_nat, ckn, pka_r, pka_v, if_pos, if_neg, if_true, if_false, li_60, Int.toNat_natCast, r1, va_rf, zo, ea, zs_u2, hZ2, l5, o3, bBf, Bool.xor_false]
    · simp (disch := first | omega | assumption) only [k_X9_leastMove_14, k_X9_leastMove_25, k_X9_leastMove_35, k_X9_leastMove_44, k_X9_leastMove_47, k_X9_leastMove_50, k_X9_leastMove_58, k_X9_leastMove_69, k_X9_leastMove_73, k_X9_leastMove_76, k_X9_leastMove_82, li_0, li_1, li_2, li_3, li_4, li_5, li_6, li_9, li_10, li_40, lm_1, lm_2, lm_3, lm_4, zs_ap, i32_add, i32_sub, i32_mul, i32_neg, i32_lt, i32_le, i32_eq, i32_nat, ckn, pka_r, pka_v, if_pos, if_neg, if_true, if_false, li_60, Int.toNat_natCast, r1, va_rf, zo, ea, zs_u2, hZ2, l5, o3, bBt, Bool.xor_self, Bool.false_eq_true]
      rfl
theorem h_edge (h : KL m (qbre m) p0 Z J) (hT : wfT m) {k i : Int} (hk : -2147483648 ≤ k ∧ k < 2147483648) (hi : -2147483648 ≤ i ∧ i < 2147483648) : ∃ (Z' : Nat → Nat → Int) (J' : Nat → Nat → Int64) (q5 q6 : Nat), TF Z Z' ∧ TJf J J' ∧ Mean (d + 7) 127 [.ref 0, .int (i32 k), .int (i32 i)] (176, zs Z, J, RP p0 p1 p0 35 p0 p5 p6 97) = some (some (.int (i32 (aEdge m k i))), (176, zs Z', J', RP p0 p1 p0 35 p0 q5 q6 97)) := by
  have hw := h.1.1
  have hp := h.1.2.1
  have hm := h.1.2.2.1
  have hP := hw.2.1
  have hS := hw.1
  have hp' := hp
  unfold hv2 at hp'
  have hpc := h_hasPiece (d := d + 5) (J := J) (Z := Z) (p0 := p0) (p1 := p1) (p2 := p0) (p3 := 35) (p4 := p0) (p5 := p5) (p6 := p6) (p7 := 97) (h := p0) (by unfold hv3; omega) hP hm.1.2.1 (a := k) hk
  have hsd := h_hasSide (d := d + 5) (J := J) (Z := Z) (p0 := p0) (p1 := p1) (p2 := p0) (p3 := 35) (p4 := p0) (p5 := p5) (p6 := p6) (p7 := 97) (h := p0) (by unfold hv3; omega) hS.2 hm.1.1 (a := i) hi
  unfold aEdge
  by_cases c : 0 ≤ k ∧ k < qP m
  · rw [bI_t c] at hpc
    by_cases c2 : 0 ≤ i ∧ i < qS m
    · rw [bI_t c2] at hsd
      obtain ⟨k', rfl⟩ := Int.eq_ofNat_of_zero_le c.1
      obtain ⟨i', rfl⟩ := Int.eq_ofNat_of_zero_le c2.1
      have hkP : k' < qP m := by omega
      have hiS : i' < qS m := by omega
      rw [if_pos (show (0 ≤ (k' : Int) ∧ (k' : Int) < qP m) ∧ (0 ≤ (i' : Int) ∧ (i' : Int) < qS m) from ⟨c, c2⟩), Int.toNat_natCast, Int.toNat_natCast]
      have hfst := hw.2.2.2.2.2.1.2.2.2.1
      have fw := h_fewest_a (d := d + 4) (J := J) (p0 := p0) (p1 := p1) (p2 := p0) (p5 := p5) (p6 := p6) (p7 := 97) hp' hw hm h.2.2 (qbeg_lt m) hfst
      have z2 : Z 35 2 = (qbeg m : Int) := h.1.2.2.2.1.1.2.1
      have z14 : Z p0 14 = (qfst m : Int) := hm.1.2.2.2.2.2.1
      obtain ⟨Z1, J1, a1, a2, a3, a4⟩ := h_copyFrom (d := d + 3) (J := J) (Z := Z) (p0 := p0) (p1 := p1) (p2 := p0) (p3 := 35) (p4 := p0) (p5 := p5) (p6 := p6) (p7 := 97) (a0 := p0) hp' hw hm
      obtain ⟨Z2, l1, l2, l3⟩ := h_lay_b (d := d + 2) (J := J1) (p0 := p0) (p1 := p1) (p2 := p0) (p3 := 35) (p4 := p0) (p5 := p5) (p6 := p6) (q9 := 97) hw a3
      have e0 : eM m k' i' 0 = m := by
        unfold eM
        rw [show qwor m k' i' + ((0 : Nat) : Int) = qwor m k' i' by omega, awor_id]
      have key := srchW (fun (n : Nat) (y : (Nat → Nat → Int) × (Nat → Nat → Int64) × Nat × Nat) => den none (Mean (d + 5)) (some .int) tQ_X9_leastMove (28, [some (.ref 95), some (.int (i32 (k' : Int))), some (.int (i32 (i' : Int))), some (.int (i32 (bB (hdm m (qbre m))))), some (.int (i32 ((n + 1 : Nat) : Int)))], [], 176, zs y.1, y.2.1, RP p0 p1 p0 35 p0 y.2.2.1 y.2.2.2 97)) (fun n y => KE m k' i' Z J n y) (pEdge m k' i') 60 (fun n r => ∃ y : (Nat → Nat → Int) × (Nat → Nat → Int64) × Nat × Nat, KE m k' i' Z J (n + 1) y ∧ r = some (some (.int (i32 ((n + 1 : Nat) : Int))), (176, zs y.1, y.2.1, RP p0 p1 p0 35 p0 y.2.2.1 y.2.2.2 97))) (fun n y hn hy hpe => by
        obtain ⟨y', b1, b2⟩ := edge_it (d := d) (p1 := p1) h.1 hT hkP hiS hn hy
        rw [if_pos hpe] at b2
        exact ⟨y', b1, b2⟩) (fun n y hn hy hpe => by
        obtain ⟨y', b1, b2⟩ := edge_it (d := d) (p1 := p1) h.1 hT hkP hiS hn hy
        rw [if_neg (by rw [hpe]; exact Bool.false_ne_true)] at b2
        exact ⟨y', b1, b2⟩) (Z2, J1, p5, p6) ⟨fun a ha => (l1 a (by omega) (by omega) (by omega)).trans (a1 a (by omega)), fun a ha => a2 a (by omega), by rw [e0]; exact KM_fr hP a3 (fun a h1 h2 => l1 a (by omega) (by omega) (by omega)), by rw [e0]; exact l2⟩
      have e1 : Mean (d + 6) 103 [.ref 95, .int (i32 (k' : Int)), .int (i32 (i' : Int)), .int (i32 (bB (hdm m (qbre m))))] (176, zs Z, J, RP p0 p1 p0 35 p0 p5 p6 97) = den none (Mean (d + 5)) (some .int) tQ_X9_leastMove (28, [some (.ref 95), some (.int (i32 (k' : Int))), some (.int (i32 (i' : Int))), some (.int (i32 (bB (hdm m (qbre m))))), some (.int (i32 ((0 + 1 : Nat) : Int)))], [], 176, zs Z2, J1, RP p0 p1 p0 35 p0 p5 p6 97) := by
        rw [e_X9_leastMove, k_X9_leastMove_0]
        simp (disch := omega) only [k_X9_leastMove_14, k_X9_leastMove_25, k_X9_leastMove_35, k_X9_leastMove_44, k_X9_leastMove_47, k_X9_leastMove_50, k_X9_leastMove_58, k_X9_leastMove_69, k_X9_leastMove_73, k_X9_leastMove_76, k_X9_leastMove_82, li_0, li_1, li_2, li_3, li_4, li_5, li_6, li_9, li_10, li_40, lm_1, lm_2, lm_3, lm_4, zs_ap, i32_add, i32_sub, i32_mul, i32_neg, i32_lt, i32_le, i32_eq, i32_nat, ckn, pka_r, pka_v, if_pos, if_neg, if_true, if_false, a4, l3]
        rfl
      have ab := afew_b (m := m) (b := qbre m) (s := qbeg m) (t := qtt m (qfst m))
      have ah := afew_hld (m := m) (b := qbre m) (s := qbeg m) (t := qtt m (qfst m))
      have mid : ∀ r : Option (Option Value × pW), Mean (d + 6) 103 [.ref 95, .int (i32 (k' : Int)), .int (i32 (i' : Int)), .int (i32 (bB (hdm m (qbre m))))] (176, zs Z, J, RP p0 p1 p0 35 p0 p5 p6 97) = r → Mean (d + 7) 127 [.ref 0, .int (i32 (k' : Int)), .int (i32 (i' : Int))] (176, zs Z, J, RP p0 p1 p0 35 p0 p5 p6 97) = pka r (fun v w => den none (Mean (d + 6)) (some .int) tQ_X10_edge (66, [some (.ref 0), some (.int (i32 (k' : Int))), some (.int (i32 (i' : Int))), some (.int (i32 (bB (hdm m (qbre m)))))], [v], w)) (fun w => den none (Mean (d + 6)) (some .int) tQ_X10_edge (66, [some (.ref 0), some (.int (i32 (k' : Int))), some (.int (i32 (i' : Int))), some (.int (i32 (bB (hdm m (qbre m)))))], [], w)) := by
        intro r hr
        rw [← hr, e_X10_edge, k_X10_edge_0 (hv_p0 := by omega)]
        unfold hdm
        cases ch : hld m (qbre m) (qbeg m) (qtt m (qfst m))
        · have e9 : afew m (qbre m) (qbeg m) (qtt m (qfst m)) = -1 := by rw [ah]; exact ch
          rw [e9] at fw
          simp (disch := omega) only [k_X10_edge_8, k_X10_edge_11, k_X10_edge_19, k_X10_edge_22, k_X10_edge_25, k_X10_edge_46, k_X10_edge_50, k_X10_edge_54, k_X10_edge_55, li_0, li_1, li_2, li_3, li_4, li_5, li_6, li_9, li_10, li_40, lm_1, lm_2, lm_3, lm_4, zs_ap, i32_add, i32_sub, i32_mul, i32_neg, i32_lt, i32_le, i32_eq, i32_nat, ckn, pka_r, pka_v, if_pos, if_neg, if_true, if_false, hpc, hsd, z2, z14, fw, bBf]
        · have e9 : afew m (qbre m) (qbeg m) (qtt m (qfst m)) ≠ -1 := fun q => by rw [ah, ch] at q; cases q
          simp (disch := omega) only [k_X10_edge_8, k_X10_edge_11, k_X10_edge_19, k_X10_edge_22, k_X10_edge_25, k_X10_edge_46, k_X10_edge_50, k_X10_edge_54, k_X10_edge_55, li_0, li_1, li_2, li_3, li_4, li_5, li_6, li_9, li_10, li_40, lm_1, lm_2, lm_3, lm_4, zs_ap, i32_add, i32_sub, i32_mul, i32_neg, i32_lt, i32_le, i32_eq, i32_nat, ckn, pka_r, pka_v, if_pos, if_neg, if_true, if_false, hpc, hsd, z2, z14, fw, bBt]
      cases ca : anyN (pEdge m k' i') 60
      · obtain ⟨y', b1, b2⟩ := key.2 ca
        refine ⟨y'.1, y'.2.1, y'.2.2.1, y'.2.2.2, b1.1, b1.2.1, ?_⟩
        have e2 := e1.trans b2
        rw [k_X9_leastMove_28] at e2
        simp (disch := omega) only [k_X9_leastMove_82, li_60, i32_lt, if_pos] at e2
        rw [if_neg Bool.false_ne_true, mid _ e2]
        simp (disch := omega) only [k_X10_edge_8, k_X10_edge_11, k_X10_edge_19, k_X10_edge_22, k_X10_edge_25, k_X10_edge_46, k_X10_edge_50, k_X10_edge_54, k_X10_edge_55, k_X10_edge_66, li_0, li_1, li_2, li_3, li_4, li_5, li_6, li_9, li_10, li_40, lm_1, lm_2, lm_3, lm_4, zs_ap, i32_add, i32_sub, i32_mul, i32_neg, i32_lt, i32_le, i32_eq, i32_nat, ckn, pka_r, pka_v, if_pos, if_neg, if_true, if_false]
      · obtain ⟨y', b1, b2⟩ := key.1 ca
        refine ⟨y'.1, y'.2.1, y'.2.2.1, y'.2.2.2, b1.1, b1.2.1, ?_⟩
        rw [if_pos rfl, mid _ (e1.trans b2)]
        simp (disch := omega) only [k_X10_edge_8, k_X10_edge_11, k_X10_edge_19, k_X10_edge_22, k_X10_edge_25, k_X10_edge_46, k_X10_edge_50, k_X10_edge_54, k_X10_edge_55, k_X10_edge_66, li_0, li_1, li_2, li_3, li_4, li_5, li_6, li_9, li_10, li_40, lm_1, lm_2, lm_3, lm_4, zs_ap, i32_add, i32_sub, i32_mul, i32_neg, i32_lt, i32_le, i32_eq, i32_nat, ckn, pka_r, pka_v, if_pos, if_neg, if_true, if_false]
    · rw [bI_f c2] at hsd
      refine ⟨Z, J, p5, p6, fun _ _ => rfl, fun _ _ => rfl, ?_⟩
      rw [if_neg (fun q => c2 q.2), e_X10_edge, k_X10_edge_0 (hv_p0 := by omega)]
      simp (disch := omega) only [k_X10_edge_8, k_X10_edge_11, k_X10_edge_19, k_X10_edge_22, k_X10_edge_25, k_X10_edge_46, k_X10_edge_50, k_X10_edge_54, k_X10_edge_55, k_X10_edge_66, li_0, li_1, li_2, li_3, li_4, li_5, li_6, li_9, li_10, li_40, lm_1, lm_2, lm_3, lm_4, zs_ap, i32_add, i32_sub, i32_mul, i32_neg, i32_lt, i32_le, i32_eq, i32_nat, ckn, pka_r, pka_v, if_pos, if_neg, if_true, if_false, hpc, hsd]
  · rw [bI_f c] at hpc
    refine ⟨Z, J, p5, p6, fun _ _ => rfl, fun _ _ => rfl, ?_⟩
    rw [if_neg (fun q => c q.1), e_X10_edge, k_X10_edge_0 (hv_p0 := by omega)]
    simp (disch := omega) only [k_X10_edge_8, k_X10_edge_11, k_X10_edge_19, k_X10_edge_22, k_X10_edge_25, k_X10_edge_46, k_X10_edge_50, k_X10_edge_54, k_X10_edge_55, k_X10_edge_66, li_0, li_1, li_2, li_3, li_4, li_5, li_6, li_9, li_10, li_40, lm_1, lm_2, lm_3, lm_4, zs_ap, i32_add, i32_sub, i32_mul, i32_neg, i32_lt, i32_le, i32_eq, i32_nat, ckn, pka_r, pka_v, if_pos, if_neg, if_true, if_false, hpc]
end
