/-! THE CLASS'S Trials: holds, need, pledge, again -/
def TF (Z Z' : Nat → Nat → Int) : Prop := ∀ a : Nat, (a < 96 ∨ 128 < a) → Z' a = Z a
def TJf (J J' : Nat → Nat → Int64) : Prop := ∀ a : Nat, (a < 98 ∨ 119 < a) → J' a = J a
def b3 (m : Mat) (x y z : Int) (i : Nat) : Int := qbre m i + (if i = 0 then x else if i = 1 then y else z)
theorem hdm_congrB {m : Mat} (hw : wf m) {b b' : Nat → Int} (hb : ∀ i : Nat, i < qS m → b i = b' i) : hdm m b = hdm m b' := by
  unfold hdm hld
  exact anyN_congr _ (fun n _ => sf_congrB hw hb n _ _)
theorem afew_hld {m : Mat} {b : Nat → Int} {s t : Nat} : (afew m b s t = -1) = (hld m b s t = false) := by
  unfold afew hld
  cases c : anyN (fun n => sf m b n s t) 41
  · simp
  · simp
theorem afew_b {m : Mat} {b : Nat → Int} {s t : Nat} : -1 ≤ afew m b s t ∧ afew m b s t ≤ 41 := by
  unfold afew
  split
  · next h => have := (fstN_lt _ h).1; omega
  · omega
section
variable {d : Nat} {J : Nat → Nat → Int64} {Z : Nat → Nat → Int} {p0 p1 p5 p6 : Nat} {m : Mat}
theorem h_holds_a (h : KI m p0 Z) {x y z : Int} (hx : -2000 ≤ x ∧ x ≤ 2000) (hy : -2000 ≤ y ∧ y ≤ 2000) (hz : -2000 ≤ z ∧ z ≤ 2000) : ∃ (Z' : Nat → Nat → Int) (J' : Nat → Nat → Int64), TF Z Z' ∧ TJf J J' ∧ Mean (d + 5) 96 [.ref 95, .ref 35, .int (i32 x), .int (i32 y), .int (i32 z)] (176, zs Z, J, RP p0 p1 p0 35 p0 p5 p6 97) = some (some (.int (i32 (bB (hdm m (b3 m x y z))))), (176, zs Z', J', RP p0 p1 p0 35 p0 35 p0 97)) := by
  obtain ⟨hw, hp, hm, hk⟩ := h
  have hS := hw.1
  have hP := hw.2.1
  have bre := fun (i : Nat) (hi : i < 3) => (hw.2.2.2.2.1 i hi).2
  generalize hZ1 : u2 (u2 (u2 Z 96 0 (qbre m 0 + x)) 96 1 (qbre m 1 + y)) 96 2 (qbre m 2 + z) = Z1
  have n1 : ∀ a : Nat, a ≠ 96 → Z1 a = Z a := fun a ha => by rw [← hZ1, u2_ne ha, u2_ne ha, u2_ne ha]
  have n2 : ∀ i : Nat, i < qS m → Z1 96 i = b3 m x y z i := fun i hi => by
    have : i = 0 ∨ i = 1 ∨ i = 2 := by omega
    rw [← hZ1]
    rcases this with rfl | rfl | rfl <;> simp [u2, b3]
  have hm1 : KM m p0 Z1 := KM_fr hP hm (fun a h1 h2 => n1 a (by omega))
  have hk1 : KS m 35 Z1 := KS_fr hS.2 hk (fun a h1 h2 => n1 a (by omega))
  have hb : bOK m (b3 m x y z) := fun i hi => by
    have := bre i (by omega)
    unfold b3
    split
    · omega
    · split <;> omega
  obtain ⟨Z2, J2, a1, a2, a3, a4⟩ := h_solve_b (d := d) (J := J) (p0 := p0) (p1 := p1) (p2 := p0) (p3 := 35) (p4 := p0) (p7 := 97) (q8 := p5) (q9 := p6) hp hw hb hm1 hk1 (g2 := 96) rfl (by omega) n2
  have hm2 : KM m p0 Z2 := KM_fr hP hm1 (fun a h1 h2 => a1 a (by omega) (by omega) (by omega))
  have hbl := qbeg_lt m
  have hfst := hw.2.2.2.2.2.1.2.2.2.1
  have fw := h_fewest_b (d := d + 2) (J := J2) (p0 := p0) (p1 := p1) (p2 := p0) (p3 := 35) (p4 := p0) (p7 := 97) hp hw hm2 a3.2 hbl hfst
  have z2 : Z2 35 2 = (qbeg m : Int) := by rw [a1 _ (by omega) (by omega) (by omega)]; exact hk1.1.1.2.1
  have z14 : Z2 p0 14 = (qfst m : Int) := hm2.1.2.2.2.2.2.1
  refine ⟨Z2, J2, fun a ha => (a1 a (by omega) (by omega) (by omega)).trans (n1 a (by omega)), fun a ha => a2 a (by omega) (by omega), ?_⟩
  have q0 := (hm.2.2.2 0 (by omega)).2
  have q1 : u2 Z 96 0 (qbre m 0 + x) (p0 + 14) 1 = qbre m 1 := by rw [u2_ne (by omega)]; exact (hm.2.2.2 1 (by omega)).2
  have q2 : u2 (u2 Z 96 0 (qbre m 0 + x)) 96 1 (qbre m 1 + y) (p0 + 14) 2 = qbre m 2 := by rw [u2_ne (by omega), u2_ne (by omega)]; exact (hm.2.2.2 2 (by omega)).2
  have t0 : (0 : Int).toNat = 0 := rfl
  have t1 : (1 : Int).toNat = 1 := rfl
  have t2 : (2 : Int).toNat = 2 := rfl
  have e1 : Mean (d + 5) 96 [.ref 95, .ref 35, .int (i32 x), .int (i32 y), .int (i32 z)] (176, zs Z, J, RP p0 p1 p0 35 p0 p5 p6 97) = den none (Mean (d + 4)) (some .boolean) tQ_X9_holds (49, [some (.ref 95), some (.ref 35), some (.int (i32 x)), some (.int (i32 y)), some (.int (i32 z)), some (.ref (p0 + 14))], [], 176, zs Z1, J, RP p0 p1 p0 35 p0 p5 p6 97) := by
    rw [e_X9_holds, k_X9_holds_0_a (hv_p2 := by omega)]
    simp (disch := omega) only [k_X9_holds_21_a, k_X9_holds_24_a, k_X9_holds_33_a, k_X9_holds_36_a, k_X9_holds_45_a, k_X9_holds_61_a, k_X9_holds_79_a, k_X9_holds_83_a, k_X9_holds_87_a, k_X9_holds_88_a, li_0, li_1, li_2, li_3, li_4, li_5, li_6, li_9, li_10, li_40, lm_1, lm_2, lm_3, lm_4, zs_ap, i32_add, i32_sub, i32_mul, i32_neg, i32_lt, i32_le, i32_eq, i32_nat, ckn, pka_r, pka_v, if_pos, if_neg, if_true, if_false, t0, t1, t2, q0, q1, q2, zs_u2, hZ1]
  have ab := afew_b (m := m) (b := b3 m x y z) (s := qbeg m) (t := qtt m (qfst m))
  have ah := afew_hld (m := m) (b := b3 m x y z) (s := qbeg m) (t := qtt m (qfst m))
  rw [e1, k_X9_holds_49_a]
  unfold hdm
  cases ch : hld m (b3 m x y z) (qbeg m) (qtt m (qfst m))
  · have e9 : afew m (b3 m x y z) (qbeg m) (qtt m (qfst m)) = -1 := by rw [ah]; exact ch
    rw [e9] at fw
    simp (disch := omega) only [k_X9_holds_21_a, k_X9_holds_24_a, k_X9_holds_33_a, k_X9_holds_36_a, k_X9_holds_45_a, k_X9_holds_49_a, k_X9_holds_61_a, k_X9_holds_79_a, k_X9_holds_83_a, k_X9_holds_87_a, k_X9_holds_88_a, li_0, li_1, li_2, li_3, li_4, li_5, li_6, li_9, li_10, li_40, lm_1, lm_2, lm_3, lm_4, zs_ap, i32_add, i32_sub, i32_mul, i32_neg, i32_lt, i32_le, i32_eq, i32_nat, ckn, pka_r, pka_v, if_pos, if_neg, if_true, if_false, a4, z2, z14, fw, bBf, true_or]
  · have e9 : afew m (b3 m x y z) (qbeg m) (qtt m (qfst m)) ≠ -1 := fun q => by rw [ah, ch] at q; cases q
    simp (disch := omega) only [k_X9_holds_21_a, k_X9_holds_24_a, k_X9_holds_33_a, k_X9_holds_36_a, k_X9_holds_45_a, k_X9_holds_49_a, k_X9_holds_61_a, k_X9_holds_79_a, k_X9_holds_83_a, k_X9_holds_87_a, k_X9_holds_88_a, li_0, li_1, li_2, li_3, li_4, li_5, li_6, li_9, li_10, li_40, lm_1, lm_2, lm_3, lm_4, zs_ap, i32_add, i32_sub, i32_mul, i32_neg, i32_lt, i32_le, i32_eq, i32_nat, ckn, pka_r, pka_v, if_pos, if_neg, if_true, if_false, a4, z2, z14, fw, bBt, or_true]
theorem pNeed_b (hw : wf m) (e : Nat) : hdm m (b3 m (e : Int) (e : Int) (e : Int)) = pNeed m e := by
  have hS := hw.1
  unfold pNeed
  apply hdm_congrB hw
  intro i hi
  unfold b3 bpl
  have : i = 0 ∨ i = 1 ∨ i = 2 := by omega
  rcases this with rfl | rfl | rfl <;> rfl
theorem pPl_b (hw : wf m) (a c : Nat) : hdm m (b3 m (a : Int) (c : Int) 0) = pPl m a c := by
  have hS := hw.1
  unfold pPl
  apply hdm_congrB hw
  intro i hi
  unfold b3 bpl
  have : i = 0 ∨ i = 1 ∨ i = 2 := by omega
  rcases this with rfl | rfl | rfl <;> rfl
theorem TF_KI {Z' : Nat → Nat → Int} (h : KI m p0 Z) (hf : TF Z Z') : KI m p0 Z' := KI_fr h (fun a ha => hf a (by omega))
theorem TF_tr {Z1 Z2 Z3 : Nat → Nat → Int} (h1 : TF Z1 Z2) (h2 : TF Z2 Z3) : TF Z1 Z3 := fun a ha => (h2 a ha).trans (h1 a ha)
theorem TJ_tr {J1 J2 J3 : Nat → Nat → Int64} (h1 : TJf J1 J2) (h2 : TJf J2 J3) : TJf J1 J3 := fun a ha => (h2 a ha).trans (h1 a ha)
theorem need_loop : ∀ (n lo hi i : Nat) (Z : Nat → Nat → Int) (J : Nat → Nat → Int64) (o4 : Option Value), KI m p0 Z → lo ≤ hi → hi ≤ 2000 → hi - lo ≤ n → i + n ≤ 2000 → ∃ (Z' : Nat → Nat → Int) (J' : Nat → Nat → Int64), TF Z Z' ∧ TJf J J' ∧ den none (Mean (d + 5)) (some .int) tQ_X9_leastNeed (30, [some (.ref 95), some (.int (i32 (lo : Int))), some (.int (i32 (hi : Int))), some (.int (i32 (i : Int))), o4], [], 176, zs Z, J, RP p0 p1 p0 35 p0 35 p0 97) = some (some (.int (i32 ((bs (pNeed m) n lo hi : Nat) : Int))), (176, zs Z', J', RP p0 p1 p0 35 p0 35 p0 97)) := by
  intro n
  induction n with
  | zero =>
    intro lo hi i Z J o4 h h1 h2 h3 h4
    refine ⟨Z, J, fun _ _ => rfl, fun _ _ => rfl, ?_⟩
    rw [k_X9_leastNeed_30]
    simp (disch := omega) only [k_X9_leastNeed_0, k_X9_leastNeed_17, k_X9_leastNeed_20, k_X9_leastNeed_22, k_X9_leastNeed_37, k_X9_leastNeed_42, k_X9_leastNeed_63, k_X9_leastNeed_66, k_X9_leastNeed_72, k_X9_leastNeed_77, k_X9_leastNeed_83, li_0, li_1, li_2, li_3, li_4, li_5, li_6, li_9, li_10, li_40, lm_1, lm_2, lm_3, lm_4, zs_ap, i32_add, i32_sub, i32_mul, i32_neg, i32_lt, i32_le, i32_eq, i32_nat, ckn, pka_r, pka_v, if_pos, if_neg, if_true, if_false, li_2000]
    rfl
  | succ n ih =>
    intro lo hi i Z J o4 h h1 h2 h3 h4
    by_cases c : lo < hi
    · obtain ⟨Z1, J1, a1, a2, a3⟩ := h_holds_a (d := d) (J := J) (p1 := p1) (p5 := 35) (p6 := p0) h (x := (((lo + hi) / 2 : Nat) : Int)) (y := (((lo + hi) / 2 : Nat) : Int)) (z := (((lo + hi) / 2 : Nat) : Int)) (by omega) (by omega) (by omega)
      rw [pNeed_b h.1] at a3
      have em : (i32 (lo : Int) + i32 (hi : Int)) / i32 2 = i32 (((lo + hi) / 2 : Nat) : Int) := by
        rw [i32_add, i32_div (by omega) (by omega), mid_c]
      rw [i32_add] at em
      rw [show bs (pNeed m) (n + 1) lo hi = if lo < hi then (if pNeed m ((lo + hi) / 2) then bs (pNeed m) n lo ((lo + hi) / 2) else bs (pNeed m) n ((lo + hi) / 2 + 1) hi) else lo from rfl, if_pos c]
      cases cp : pNeed m ((lo + hi) / 2)
      · rw [cp, bBf] at a3
        obtain ⟨Z2, J2, b1, b2, b3⟩ := ih ((lo + hi) / 2 + 1) hi (i + 1) Z1 J1 (some (.int (i32 (((lo + hi) / 2 : Nat) : Int)))) (TF_KI h a1) (by omega) h2 (by omega) (by omega)
        refine ⟨Z2, J2, TF_tr a1 b1, TJ_tr a2 b2, ?_⟩
        rw [if_neg Bool.false_ne_true, ← b3, k_X9_leastNeed_30]
        simp (disch := omega) only [k_X9_leastNeed_37, k_X9_leastNeed_42, k_X9_leastNeed_63, k_X9_leastNeed_72, k_X9_leastNeed_77, li_2000, li_2, em, li_0, li_1, i32_lt, i32_le, i32_eq, if_neg, if_pos, a3, pka_r, i32_add]
        rfl
      · rw [cp, bBt] at a3
        obtain ⟨Z2, J2, b1, b2, b3⟩ := ih lo ((lo + hi) / 2) (i + 1) Z1 J1 (some (.int (i32 (((lo + hi) / 2 : Nat) : Int)))) (TF_KI h a1) (by omega) (by omega) (by omega) (by omega)
        refine ⟨Z2, J2, TF_tr a1 b1, TJ_tr a2 b2, ?_⟩
        rw [if_pos rfl, ← b3, k_X9_leastNeed_30]
        simp (disch := omega) only [k_X9_leastNeed_37, k_X9_leastNeed_42, k_X9_leastNeed_63, k_X9_leastNeed_66, k_X9_leastNeed_77, li_2000, li_2, em, li_0, li_1, i32_lt, i32_le, i32_eq, if_neg, if_pos, a3, pka_r, i32_add]
        rfl
    · refine ⟨Z, J, fun _ _ => rfl, fun _ _ => rfl, ?_⟩
      rw [bs_done (by omega), k_X9_leastNeed_30]
      simp (disch := omega) only [k_X9_leastNeed_0, k_X9_leastNeed_17, k_X9_leastNeed_20, k_X9_leastNeed_22, k_X9_leastNeed_37, k_X9_leastNeed_42, k_X9_leastNeed_63, k_X9_leastNeed_66, k_X9_leastNeed_72, k_X9_leastNeed_77, k_X9_leastNeed_83, li_0, li_1, li_2, li_3, li_4, li_5, li_6, li_9, li_10, li_40, lm_1, lm_2, lm_3, lm_4, zs_ap, i32_add, i32_sub, i32_mul, i32_neg, i32_lt, i32_le, i32_eq, i32_nat, ckn, pka_r, pka_v, if_pos, if_neg, if_true, if_false, li_2000]
theorem h_need (h : KI m p0 Z) : ∃ (Z' : Nat → Nat → Int) (J' : Nat → Nat → Int64) (q5 q6 : Nat), TF Z Z' ∧ TJf J J' ∧ Mean (d + 7) 123 [.ref 0] (176, zs Z, J, RP p0 p1 p0 35 p0 p5 p6 97) = some (some (.int (i32 (aNeed m))), (176, zs Z', J', RP p0 p1 p0 35 p0 q5 q6 97)) := by
  obtain ⟨Z1, J1, a1, a2, a3⟩ := h_holds_a (d := d) (J := J) (p1 := p1) (p5 := p5) (p6 := p6) h (x := ((2000 : Nat) : Int)) (y := ((2000 : Nat) : Int)) (z := ((2000 : Nat) : Int)) (by omega) (by omega) (by omega)
  rw [pNeed_b h.1] at a3
  have e2 : ((2000 : Nat) : Int) = 2000 := rfl
  unfold aNeed
  cases cp : pNeed m 2000
  · rw [cp, bBf, e2] at a3
    refine ⟨Z1, J1, 35, p0, a1, a2, ?_⟩
    rw [if_neg Bool.false_ne_true, e_X10_need, k_X10_need_0, e_X9_leastNeed, k_X9_leastNeed_0]
    simp (disch := omega) only [k_X9_leastNeed_17, k_X9_leastNeed_20, k_X9_leastNeed_22, k_X9_leastNeed_37, k_X9_leastNeed_42, k_X9_leastNeed_63, k_X9_leastNeed_66, k_X9_leastNeed_72, k_X9_leastNeed_77, k_X9_leastNeed_83, li_0, li_1, li_2, li_3, li_4, li_5, li_6, li_9, li_10, li_40, lm_1, lm_2, lm_3, lm_4, zs_ap, i32_add, i32_sub, i32_mul, i32_neg, i32_lt, i32_le, i32_eq, i32_nat, ckn, pka_r, pka_v, if_pos, if_neg, if_true, if_false, k_X10_need_7, li_2000, a3]
  · rw [cp, bBt, e2] at a3
    obtain ⟨Z2, J2, b1, b2, b3⟩ := need_loop (d := d) (p1 := p1) 2000 0 2000 0 Z1 J1 none (TF_KI h a1) (by omega) (by omega) (by omega) (by omega)
    refine ⟨Z2, J2, 35, p0, TF_tr a1 b1, TJ_tr a2 b2, ?_⟩
    rw [if_pos rfl, e_X10_need, k_X10_need_0, e_X9_leastNeed, k_X9_leastNeed_0]
    simp (disch := omega) only [k_X9_leastNeed_17, k_X9_leastNeed_20, k_X9_leastNeed_22, k_X9_leastNeed_37, k_X9_leastNeed_42, k_X9_leastNeed_63, k_X9_leastNeed_66, k_X9_leastNeed_72, k_X9_leastNeed_77, k_X9_leastNeed_83, li_0, li_1, li_2, li_3, li_4, li_5, li_6, li_9, li_10, li_40, lm_1, lm_2, lm_3, lm_4, zs_ap, i32_add, i32_sub, i32_mul, i32_neg, i32_lt, i32_le, i32_eq, i32_nat, ckn, pka_r, pka_v, if_pos, if_neg, if_true, if_false, li_2000, a3]
    have b3' : den none (Mean (d + 5)) (some .int) tQ_X9_leastNeed (30, [some (.ref 95), some (.int (i32 0)), some (.int (i32 2000)), some (.int (i32 0)), none], [], 176, zs Z1, J1, RP p0 p1 p0 35 p0 35 p0 97) = some (some (.int (i32 ((bs (pNeed m) 2000 0 2000 : Nat) : Int))), (176, zs Z2, J2, RP p0 p1 p0 35 p0 35 p0 97)) := b3
    rw [b3']
    simp (disch := omega) only [k_X10_need_7, li_0, li_1, li_2, li_3, li_4, li_5, li_6, li_9, li_10, li_40, lm_1, lm_2, lm_3, lm_4, zs_ap, i32_add, i32_sub, i32_mul, i32_neg, i32_lt, i32_le, i32_eq, i32_nat, ckn, pka_r, pka_v, if_pos, if_neg, if_true, if_false]
theorem h_again (h : KI m p0 Z) {s t w : Int} (hs : -2147483648 ≤ s ∧ s < 2147483648) (ht : -2147483648 ≤ t ∧ t < 2147483648) (hwt : -2147483648 ≤ w ∧ w < 2147483648) : ∃ (Z' : Nat → Nat → Int) (J' : Nat → Nat → Int64) (q5 q6 : Nat), TF Z Z' ∧ TJf J J' ∧ Mean (d + 6) 129 [.ref 0, .int (i32 s), .int (i32 t), .int (i32 w)] (176, zs Z, J, RP p0 p1 p0 35 p0 p5 p6 97) = some (some (.int (i32 (aAgain m s t w))), (176, zs Z', J', RP p0 p1 p0 35 p0 q5 q6 97)) := by
  have st := h_isStand (d := d + 3) (J := J) (p1 := p1) (p5 := p5) (p6 := p6) h hs ht
  have wi := h_within (d := d + 4) (J := J) (Z := Z) (p0 := p0) (p1 := p1) (p2 := p0) (p3 := 35) (p4 := p0) (p5 := p5) (p6 := p6) (p7 := 97) hwt (lo := 0) (hi := 100) (by omega) (by omega)
  obtain ⟨hw, hp, hm, hk⟩ := h
  have hS := hw.1
  have hP := hw.2.1
  unfold aAgain
  by_cases c1 : (0 ≤ s ∧ s < qN m) ∧ (0 ≤ t ∧ t < qS m)
  · by_cases c2 : 0 ≤ w ∧ w ≤ 100
    · rw [if_pos (show ((0 ≤ s ∧ s < qN m) ∧ (0 ≤ t ∧ t < qS m)) ∧ (0 ≤ w ∧ w ≤ 100) from ⟨c1, c2⟩)]
      have hmul : ∀ i : Nat, i < 3 → (0 ≤ qbre m i * w ∧ qbre m i * w ≤ 99900) ∧ (0 ≤ (qbre m i * w).tdiv 100 ∧ (qbre m i * w).tdiv 100 ≤ 99900) := fun i hi => by
        have b1 := (hw.2.2.2.2.1 i hi).2
        have b2 := mul_b (a := qbre m i) (b := w) (A := 999) (B := 100) (by omega) (by omega) (by omega) (by omega) (by omega)
        have b3 := Int.mul_nonneg b1.1 c2.1
        have b4 := Int.tdiv_nonneg b3 (show (0 : Int) ≤ 100 by omega)
        have b5 := Int.tdiv_le_self (a := qbre m i * w) 100 b3
        omega
      obtain ⟨Z1, ⟨v1, v2⟩, e1⟩ := up_inv (fun (i : Nat) (Z : Nat → Nat → Int) => den none (Mean (d + 4)) (some .int) tQ_X9_fewestWithTrust (3, [some (.ref 95), some (.int (i32 s)), some (.int (i32 t)), some (.int (i32 w)), some (.int (i32 (i : Int)))], [], 176, zs Z, J, RP p0 p1 p0 35 p0 p5 p6 97)) (qS m) (fun i Z' => (∀ a : Nat, a ≠ 96 → Z' a = Z a) ∧ ∀ j : Nat, j < i → Z' 96 j = (qbre m j * w).tdiv 100) (fun i Z' hi hv => by
        obtain ⟨v1, v2⟩ := hv
        have z1 : Z' p0 1 = (qS m : Int) := by rw [v1 _ (by omega)]; exact hm.1.1
        have zb : Z' (p0 + 14) i = qbre m i := by rw [v1 _ (by omega)]; exact (hm.2.2.2 i (by omega)).2
        have hml := hmul i (by omega)
        refine ⟨u2 Z' 96 i ((qbre m i * w).tdiv 100), ⟨fun a ha => (u2_ne ha).trans (v1 a ha), fun j hj => ?_⟩, ?_⟩
        · by_cases cj : j = i
          · rw [cj, u2s]
          · rw [u2f cj]
            exact v2 j (by omega)
        · show den none (Mean (d + 4)) (some .int) tQ_X9_fewestWithTrust (3, _, [], 176, zs Z', J, _) = _
          rw [k_X9_fewestWithTrust_3 (hv_p2 := by omega)]
          simp (disch := omega) only [k_X9_fewestWithTrust_0, k_X9_fewestWithTrust_18, k_X9_fewestWithTrust_37, k_X9_fewestWithTrust_43, k_X9_fewestWithTrust_49, k_X9_fewestWithTrust_64, k_X9_fewestWithTrust_73, li_0, li_1, li_2, li_3, li_4, li_5, li_6, li_9, li_10, li_40, lm_1, lm_2, lm_3, lm_4, zs_ap, i32_add, i32_sub, i32_mul, i32_neg, i32_lt, i32_le, i32_eq, i32_nat, ckn, pka_r, pka_v, if_pos, if_neg, if_true, if_false, li_100, z1, zb, Int.toNat_natCast, i32_div, zs_u2]
          rfl) Z ⟨fun _ _ => rfl, fun j hj => by omega⟩
      have hm1 : KM m p0 Z1 := KM_fr hP hm (fun a h1 h2 => v1 a (by omega))
      have hk1 : KS m 35 Z1 := KS_fr hS.2 hk (fun a h1 h2 => v1 a (by omega))
      have z1 : Z1 p0 1 = (qS m : Int) := hm1.1.1
      have eb : ∀ i : Nat, i < qS m → Z1 96 i = bAg m w i := fun i hi => by
        rw [v2 i hi]
        unfold bAg bpl
        dsimp only
        rw [if_pos hi]
        omega
      have hb : bOK m (bAg m w) := fun i hi => by
        have := hmul i (by omega)
        rw [← eb i hi, v2 i hi]
        omega
      obtain ⟨Z2, J2, a1, a2, a3, a4⟩ := h_solve_b (d := d) (J := J) (p0 := p0) (p1 := p1) (p2 := p0) (p3 := 35) (p4 := p0) (p7 := 97) (q8 := p5) (q9 := p6) hp hw hb hm1 hk1 (g2 := 96) rfl (by omega) eb
      have hm2 : KM m p0 Z2 := KM_fr hP hm1 (fun a h1 h2 => a1 a (by omega) (by omega) (by omega))
      have fw := h_fewest_b (d := d + 2) (J := J2) (p0 := p0) (p1 := p1) (p2 := p0) (p3 := 35) (p4 := p0) (p7 := 97) hp hw hm2 a3.2 (s := s.toNat) (t := t.toNat) (by omega) (by omega)
      rw [show ((s.toNat : Nat) : Int) = s by omega, show ((t.toNat : Nat) : Int) = t by omega] at fw
      refine ⟨Z2, J2, 35, p0, fun a ha => (a1 a (by omega) (by omega) (by omega)).trans (v1 a (by omega)), fun a ha => a2 a (by omega) (by omega), ?_⟩
      have e2 : Mean (d + 5) 104 [.ref 95, .int (i32 s), .int (i32 t), .int (i32 w)] (176, zs Z, J, RP p0 p1 p0 35 p0 p5 p6 97) = some (some (.int (i32 (afew m (bAg m w) s.toNat (qtt m t.toNat)))), (176, zs Z2, J2, RP p0 p1 p0 35 p0 35 p0 97)) := by
        rw [e_X9_fewestWithTrust, k_X9_fewestWithTrust_0]
        refine Eq.trans e1 ?_
        show den none (Mean (d + 4)) (some .int) tQ_X9_fewestWithTrust (3, _, [], 176, zs Z1, J, _) = _
        rw [k_X9_fewestWithTrust_3 (hv_p2 := by omega)]
        simp (disch := omega) only [k_X9_fewestWithTrust_0, k_X9_fewestWithTrust_18, k_X9_fewestWithTrust_37, k_X9_fewestWithTrust_43, k_X9_fewestWithTrust_49, k_X9_fewestWithTrust_64, k_X9_fewestWithTrust_73, li_0, li_1, li_2, li_3, li_4, li_5, li_6, li_9, li_10, li_40, lm_1, lm_2, lm_3, lm_4, zs_ap, i32_add, i32_sub, i32_mul, i32_neg, i32_lt, i32_le, i32_eq, i32_nat, ckn, pka_r, pka_v, if_pos, if_neg, if_true, if_false, z1, a4, fw]
      rw [e_X10_again, k_X10_again_0]
      simp (disch := omega) only [k_X10_again_6, k_X10_again_9, k_X10_again_16, k_X10_again_19, k_X10_again_22, k_X10_again_32, li_0, li_1, li_2, li_3, li_4, li_5, li_6, li_9, li_10, li_40, lm_1, lm_2, lm_3, lm_4, zs_ap, i32_add, i32_sub, i32_mul, i32_neg, i32_lt, i32_le, i32_eq, i32_nat, ckn, pka_r, pka_v, if_pos, if_neg, if_true, if_false, st, bI_t c1, li_100, wi, bI_t c2, e2]
    · refine ⟨Z, J, p5, p6, fun _ _ => rfl, fun _ _ => rfl, ?_⟩
      rw [if_neg (show ¬ (((0 ≤ s ∧ s < qN m) ∧ (0 ≤ t ∧ t < qS m)) ∧ (0 ≤ w ∧ w ≤ 100)) from fun q => c2 q.2), e_X10_again, k_X10_again_0]
      simp (disch := omega) only [k_X10_again_6, k_X10_again_9, k_X10_again_16, k_X10_again_19, k_X10_again_22, k_X10_again_32, li_0, li_1, li_2, li_3, li_4, li_5, li_6, li_9, li_10, li_40, lm_1, lm_2, lm_3, lm_4, zs_ap, i32_add, i32_sub, i32_mul, i32_neg, i32_lt, i32_le, i32_eq, i32_nat, ckn, pka_r, pka_v, if_pos, if_neg, if_true, if_false, st, bI_t c1, li_100, wi, bI_f c2]
  · refine ⟨Z, J, p5, p6, fun _ _ => rfl, fun _ _ => rfl, ?_⟩
    rw [if_neg (show ¬ (((0 ≤ s ∧ s < qN m) ∧ (0 ≤ t ∧ t < qS m)) ∧ (0 ≤ w ∧ w ≤ 100)) from fun q => c1 q.1), e_X10_again, k_X10_again_0]
    simp (disch := omega) only [k_X10_again_6, k_X10_again_9, k_X10_again_16, k_X10_again_19, k_X10_again_22, k_X10_again_32, li_0, li_1, li_2, li_3, li_4, li_5, li_6, li_9, li_10, li_40, lm_1, lm_2, lm_3, lm_4, zs_ap, i32_add, i32_sub, i32_mul, i32_neg, i32_lt, i32_le, i32_eq, i32_nat, ckn, pka_r, pka_v, if_pos, if_neg, if_true, if_false, st, bI_f c1]
end
