/-! THE CLASS'S Hearing: who stops first; judge -/
def pick (b0 b1 b2 b3 b4 b5 : Bool) (w : Nat) : Bool := if w = 0 then b0 else if w = 1 then b1 else if w = 2 then b2 else if w = 3 then b3 else if w = 4 then b4 else b5
theorem pick_c (P : Nat → Bool) : ∀ w : Nat, w < 6 → P w = pick (P 0) (P 1) (P 2) (P 3) (P 4) (P 5) w := fun w hw => by
  have : w = 0 ∨ w = 1 ∨ w = 2 ∨ w = 3 ∨ w = 4 ∨ w = 5 := by omega
  rcases this with rfl | rfl | rfl | rfl | rfl | rfl <;> rfl
def jv (P : Nat → Bool) : Int := if anyN P 6 then (qone (fstN P 6) : Nat) else -1
theorem jv_c (P : Nat → Bool) : jv P = jv (pick (P 0) (P 1) (P 2) (P 3) (P 4) (P 5)) := by
  unfold jv
  rw [anyN_congr 6 (pick_c P), fstN_congr 6 (pick_c P)]
theorem lvb_one (P : Nat → Bool) {i : Nat} (hi : i < 3) : ((lvb P 6 >>> (i32 (i : Int) &&& 31)) &&& i32 1 = i32 0) = (P i = false) := by
  have h : ∀ b0 b1 b2 b3 b4 b5 : Bool, ∀ i : Nat, i < 3 → (((lvb (pick b0 b1 b2 b3 b4 b5) 6 >>> (i32 (i : Int) &&& 31)) &&& i32 1 = i32 0) ↔ (pick b0 b1 b2 b3 b4 b5 i = false)) := by decide
  rw [lvb_c 6 (pick_c P), pick_c P i (by omega)]
  exact propext (h _ _ _ _ _ _ i hi)
theorem lvb_zero (P : Nat → Bool) : (lvb P 6 = i32 0) = (P 0 = false ∧ P 1 = false ∧ P 2 = false ∧ P 3 = false ∧ P 4 = false ∧ P 5 = false) := by
  have h : ∀ b0 b1 b2 b3 b4 b5 : Bool, (lvb (pick b0 b1 b2 b3 b4 b5) 6 = i32 0 ↔ (b0 = false ∧ b1 = false ∧ b2 = false ∧ b3 = false ∧ b4 = false ∧ b5 = false)) := by decide
  rw [lvb_c 6 (pick_c P)]
  exact propext (h _ _ _ _ _ _)
theorem lvb_prs (P : Nat → Bool) : ((lvb P 6 >>> (i32 3 &&& 31)) &&& i32 3 = i32 0) = (P 3 = false ∧ P 4 = false) := by
  have h : ∀ b0 b1 b2 b3 b4 b5 : Bool, ((lvb (pick b0 b1 b2 b3 b4 b5) 6 >>> (i32 3 &&& 31)) &&& i32 3 = i32 0 ↔ (b3 = false ∧ b4 = false)) := by decide
  rw [lvb_c 6 (pick_c P)]
  exact propext (h _ _ _ _ _ _)
theorem jv_hit (P : Nat → Bool) {S : Nat} (hS : 2 ≤ S ∧ S ≤ 3) (ha : anyN P S = true) : (fstN P S : Int) = jv P := by
  have h : ∀ b0 b1 b2 b3 b4 b5 : Bool, ∀ S : Nat, S < 4 → 2 ≤ S → anyN (pick b0 b1 b2 b3 b4 b5) S = true → (fstN (pick b0 b1 b2 b3 b4 b5) S : Int) = jv (pick b0 b1 b2 b3 b4 b5) := by decide
  have hc : ∀ w : Nat, w < S → P w = pick (P 0) (P 1) (P 2) (P 3) (P 4) (P 5) w := fun w hw => pick_c P w (by omega)
  rw [anyN_congr S hc] at ha
  rw [fstN_congr S hc, jv_c P]
  exact h _ _ _ _ _ _ S (by omega) hS.1 ha
theorem jv_miss (P : Nat → Bool) {S : Nat} (hS : 2 ≤ S ∧ S ≤ 3) (h2 : S = 2 → P 2 = false) (ha : anyN P S = false) : jv P = if lvb P 6 = i32 0 then -1 else if (lvb P 6 >>> (i32 3 &&& 31)) &&& i32 3 = i32 0 then 1 else 0 := by
  have h : ∀ b0 b1 b2 b3 b4 b5 : Bool, ∀ S : Nat, S < 4 → 2 ≤ S → (S = 2 → b2 = false) → anyN (pick b0 b1 b2 b3 b4 b5) S = false → jv (pick b0 b1 b2 b3 b4 b5) = if lvb (pick b0 b1 b2 b3 b4 b5) 6 = i32 0 then -1 else if (lvb (pick b0 b1 b2 b3 b4 b5) 6 >>> (i32 3 &&& 31)) &&& i32 3 = i32 0 then 1 else 0 := by decide
  have hc : ∀ w : Nat, w < S → P w = pick (P 0) (P 1) (P 2) (P 3) (P 4) (P 5) w := fun w hw => pick_c P w (by omega)
  rw [anyN_congr S hc] at ha
  rw [lvb_c 6 (pick_c P), jv_c P]
  exact h _ _ _ _ _ _ S (by omega) hS.1 h2 ha
def mgM (m : Mat) (now late n i : Nat) : Int := qgoal m i - (n : Int) * (qday m : Int) - qmix m now late i + qbre m i
theorem mg_st {m : Mat} (hw : wf m) {now late n w : Nat} (hw6 : w < 6) : lvP m (mgM m now late n) w = stP m now late n w := by
  unfold lvP stP qcnt
  by_cases c : w < 3
  · rw [if_pos c, if_pos c]
    congr 1
    have e : stM m now late n w = -(mgM m now late n w) := by
      have e1 : qone w = w := by
        unfold qone
        rw [if_neg (by omega), if_pos c]
      have e2 : qtwo w = w := if_pos c
      unfold stM mgM qsh
      rw [e1, e2, if_pos rfl]
      omega
    rw [e]
    apply beq_iff
    rw [decide_eq_true_iff, decide_eq_true_iff]
    omega
  · rw [if_neg c, if_neg c]
    congr 1
    have hne : qone w ≠ qtwo w := by
      have : w = 3 ∨ w = 4 ∨ w = 5 := by omega
      rcases this with rfl | rfl | rfl <;> decide
    have e : stM m now late n w = -(mgM m now late n (qone w) + mgM m now late n (qtwo w)) := by
      unfold stM mgM qsh
      rw [if_neg hne]
      omega
    rw [e]
    apply beq_iff
    rw [decide_eq_true_iff, decide_eq_true_iff]
    omega
section
variable {d : Nat} {J : Nat → Nat → Int64} {Z : Nat → Nat → Int} {p0 p1 p5 p6 : Nat} {m : Mat} {tp : Nat → Nat}
theorem h_first (h : KI m p0 Z) {k n dd now late : Nat} (hk : k < 41) (hn : n ≤ 40) (hd : dd < 41) (hnow : Z 130 k = (now : Int)) (hlate : Z 130 (k - dd) = (late : Int)) (h1 : now < qN m) (h2 : late < qN m) : ∃ Z' : Nat → Nat → Int, (∀ a : Nat, a ≠ 131 → Z' a = Z a) ∧ Mean (d + 3) 14 [.ref 129, .int (i32 (k : Int)), .int (i32 (n : Int)), .int (i32 (dd : Int))] (176, zs Z, J, RP p0 p1 p0 35 p0 p5 p6 97) = some (some (.int (i32 (jst m now late n))), (176, zs Z', J, RP p0 p1 p0 35 p0 p5 p6 97)) := by
  obtain ⟨hw, hp, hm, hks⟩ := h
  have hS := hw.1
  have hP := hw.2.1
  have hp' := hp
  unfold hv2 at hp'
  have z1 : Z p0 1 = (qS m : Int) := hm.1.1
  have e0 : Mean (d + 3) 14 [.ref 129, .int (i32 (k : Int)), .int (i32 (n : Int)), .int (i32 (dd : Int))] (176, zs Z, J, RP p0 p1 p0 35 p0 p5 p6 97) = den none (Mean (d + 2)) (some .int) tQ_X1_firstToStop (26, [some (.ref 129), some (.int (i32 (k : Int))), some (.int (i32 (n : Int))), some (.int (i32 (dd : Int))), some (.ref p0), some (.int (i32 (late : Int))), some (.int (i32 ((0 : Nat) : Int))), none], [], 176, zs Z, J, RP p0 p1 p0 35 p0 p5 p6 97) := by
    rw [e_X1_firstToStop, k_X1_firstToStop_0]
    by_cases c : 0 < (k : Int) - (dd : Int)
    · simp (disch := omega) only [k_X1_firstToStop_21, k_X1_firstToStop_36, k_X1_firstToStop_48, k_X1_firstToStop_53, k_X1_firstToStop_73, k_X1_firstToStop_81, k_X1_firstToStop_83, k_X1_firstToStop_89, k_X1_firstToStop_100, k_X1_firstToStop_115, k_X1_firstToStop_125, k_X1_firstToStop_128, k_X1_firstToStop_134, k_X1_firstToStop_139, k_X1_firstToStop_141, k_X1_firstToStop_150, k_X1_firstToStop_154, k_X1_firstToStop_155, li_0, li_1, li_2, li_3, li_4, li_5, li_6, li_9, li_10, li_40, lm_1, lm_2, lm_3, lm_4, zs_ap, i32_add, i32_sub, i32_mul, i32_neg, i32_lt, i32_le, i32_eq, i32_nat, ckn, pka_r, pka_v, if_pos, if_neg, if_true, if_false, show ((k : Int) - (dd : Int)).toNat = k - dd by omega, hlate]
      rfl
    · have e : k - dd = 0 := by omega
      rw [e] at hlate
      simp (disch := omega) only [k_X1_firstToStop_21, k_X1_firstToStop_36, k_X1_firstToStop_48, k_X1_firstToStop_53, k_X1_firstToStop_73, k_X1_firstToStop_81, k_X1_firstToStop_83, k_X1_firstToStop_89, k_X1_firstToStop_100, k_X1_firstToStop_115, k_X1_firstToStop_125, k_X1_firstToStop_128, k_X1_firstToStop_134, k_X1_firstToStop_139, k_X1_firstToStop_141, k_X1_firstToStop_150, k_X1_firstToStop_154, k_X1_firstToStop_155, li_0, li_1, li_2, li_3, li_4, li_5, li_6, li_9, li_10, li_40, lm_1, lm_2, lm_3, lm_4, zs_ap, i32_add, i32_sub, i32_mul, i32_neg, i32_lt, i32_le, i32_eq, i32_nat, ckn, pka_r, pka_v, if_pos, if_neg, if_true, if_false, show Int.toNat 0 = 0 from rfl, hlate]
      rfl
  have hday : 0 ≤ (n : Int) * (qday m : Int) ∧ (n : Int) * (qday m : Int) ≤ 3960 := by
    have hd := hw.2.2.2.2.2.1.1
    have q1 : 0 ≤ (n : Int) * (qday m : Int) := Int.mul_nonneg (by omega) (by omega)
    have q2 : (n : Int) * (qday m : Int) ≤ 40 * 99 := Int.mul_le_mul (by omega) (by omega) (by omega) (by omega)
    omega
  have hMb : ∀ i : Nat, i < qS m → -1000000 ≤ mgM m now late n i ∧ mgM m now late n i ≤ 1000000 := fun i hi => by
    have b1 := qmix_b hw now late hi
    have b2 := qgoal_b hw hi
    have b3 := (hw.2.2.2.2.1 i (by omega)).2
    unfold mgM
    omega
  obtain ⟨⟨Z1, o7⟩, ⟨v1, v2⟩, e1⟩ := up_inv (fun (i : Nat) (y : (Nat → Nat → Int) × Option Value) => den none (Mean (d + 2)) (some .int) tQ_X1_firstToStop (26, [some (.ref 129), some (.int (i32 (k : Int))), some (.int (i32 (n : Int))), some (.int (i32 (dd : Int))), some (.ref p0), some (.int (i32 (late : Int))), some (.int (i32 (i : Int))), y.2], [], 176, zs y.1, J, RP p0 p1 p0 35 p0 p5 p6 97)) (qS m) (fun i y => (∀ a : Nat, a ≠ 131 → y.1 a = Z a) ∧ ∀ j : Nat, j < i → y.1 131 j = mgM m now late n j) (fun i y hi hv => by
    obtain ⟨Z1, o7⟩ := y
    obtain ⟨v1, v2⟩ := hv
    simp only at v1 v2
    have hm1 : KM m p0 Z1 := KM_fr hP hm (fun a b1 b2 => v1 a (by omega))
    have hk1 : KS m 35 Z1 := KS_fr hS.2 hks (fun a b1 b2 => v1 a (by omega))
    have mx := h_mixed (d := d) (J := J) (Z := Z1) (p0 := p0) (p1 := p1) (p2 := p0) (p3 := 35) (p4 := p0) (p5 := p5) (p6 := p6) (p7 := 97) hp' hw hm1 hk1.1 (i := i) (by omega) h1 h2
    have mg := h_margin (d := d + 1) (J := J) (Z := Z1) (p0 := p0) (p1 := p1) (p2 := p0) (p3 := 35) (p4 := p0) (p5 := p5) (p6 := p6) (p7 := 97) hp' hw hm1 hk1 hi (mxS_lt (m := m) (i := i) (own := now) (oth := late)) (n : Int)
    rw [mxS_stop] at mg
    have zk : Z1 130 k = (now : Int) := by rw [v1 _ (by omega)]; exact hnow
    have zb : Z1 (p0 + 14) i = qbre m i := (hm1.2.2.2 i (by omega)).2
    have zs1 : Z1 p0 1 = (qS m : Int) := hm1.1.1
    refine ⟨(u2 Z1 131 i (mgM m now late n i), some (.int (i32 ((mxS m i now late : Nat) : Int)))), ⟨fun a ha => (u2_ne ha).trans (v1 a ha), fun j hj => ?_⟩, ?_⟩
    · dsimp only
      by_cases c : j = i
      · rw [c, u2s]
      · rw [u2f c]
        exact v2 j (by omega)
    · show den none (Mean (d + 2)) (some .int) tQ_X1_firstToStop (26, _, [], 176, zs Z1, J, _) = _
      rw [k_X1_firstToStop_26 (hv_p2 := by omega)]
      simp (disch := omega) only [k_X1_firstToStop_21, k_X1_firstToStop_36, k_X1_firstToStop_48, k_X1_firstToStop_53, k_X1_firstToStop_73, k_X1_firstToStop_81, k_X1_firstToStop_83, k_X1_firstToStop_89, k_X1_firstToStop_100, k_X1_firstToStop_115, k_X1_firstToStop_125, k_X1_firstToStop_128, k_X1_firstToStop_134, k_X1_firstToStop_139, k_X1_firstToStop_141, k_X1_firstToStop_150, k_X1_firstToStop_154, k_X1_firstToStop_155, li_0, li_1, li_2, li_3, li_4, li_5, li_6, li_9, li_10, li_40, lm_1, lm_2, lm_3, lm_4, zs_ap, i32_add, i32_sub, i32_mul, i32_neg, i32_lt, i32_le, i32_eq, i32_nat, ckn, pka_r, pka_v, if_pos, if_neg, if_true, if_false, zs1, Int.toNat_natCast, zk, mx, mg, zb, zs_u2]
      rfl) (Z, none) ⟨fun _ _ => rfl, fun j hj => by omega⟩
  simp only at v1 v2 e1
  have hm1 : KM m p0 Z1 := KM_fr hP hm (fun a b1 b2 => v1 a (by omega))
  have zs1 : Z1 p0 1 = (qS m : Int) := hm1.1.1
  have lv := h_leaversBy (d := d + 1) (J := J) (Z := Z1) (p0 := p0) (p1 := p1) (p2 := p0) (p3 := 35) (p4 := p0) (p5 := p5) (p6 := p6) (p7 := 97) hp' hw hm1 (g1 := 131) rfl (M := mgM m now late n) (fun i hi => ⟨v2 i hi, hMb i hi⟩)
  rw [lvb_c 6 (fun w hw6 => mg_st hw hw6)] at lv
  have ej : jst m now late n = jv (stP m now late n) := rfl
  have h2' : qS m = 2 → stP m now late n 2 = false := fun q => by
    unfold stP qcnt
    rw [if_pos (by omega), q]
    rfl
  generalize stP m now late n = P at *
  refine ⟨Z1, v1, ?_⟩
  rw [e0]
  refine Eq.trans e1 ?_
  have key := srch (fun (i : Nat) => den none (Mean (d + 2)) (some .int) tQ_X1_firstToStop (105, [some (.ref 129), some (.int (i32 (k : Int))), some (.int (i32 (n : Int))), some (.int (i32 (dd : Int))), some (.ref p0), some (.int (i32 (late : Int))), some (.int (lvb P 6)), some (.int (i32 (i : Int)))], [], 176, zs Z1, J, RP p0 p1 p0 35 p0 p5 p6 97)) P (qS m) (fun i => some (some (.int (i32 (i : Int))), (176, zs Z1, J, RP p0 p1 p0 35 p0 p5 p6 97))) (fun i hi hp => by
    have e := lvb_one P (i := i) (by omega)
    rw [k_X1_firstToStop_105 (hv_p2 := by omega)]
    simp (disch := omega) only [k_X1_firstToStop_21, k_X1_firstToStop_36, k_X1_firstToStop_48, k_X1_firstToStop_53, k_X1_firstToStop_73, k_X1_firstToStop_81, k_X1_firstToStop_83, k_X1_firstToStop_89, k_X1_firstToStop_100, k_X1_firstToStop_115, k_X1_firstToStop_125, k_X1_firstToStop_128, k_X1_firstToStop_134, k_X1_firstToStop_139, k_X1_firstToStop_141, k_X1_firstToStop_150, k_X1_firstToStop_154, k_X1_firstToStop_155, li_0, li_1, li_2, li_3, li_4, li_5, li_6, li_9, li_10, li_40, lm_1, lm_2, lm_3, lm_4, zs_ap, i32_add, i32_sub, i32_mul, i32_neg, i32_lt, i32_le, i32_eq, i32_nat, ckn, pka_r, pka_v, if_pos, if_neg, if_true, if_false, zs1, e, hp, Bool.true_eq_false]) (fun i hi hp => by
    have e := lvb_one P (i := i) (by omega)
    rw [k_X1_firstToStop_105 (hv_p2 := by omega)]
    simp (disch := omega) only [k_X1_firstToStop_21, k_X1_firstToStop_36, k_X1_firstToStop_48, k_X1_firstToStop_53, k_X1_firstToStop_73, k_X1_firstToStop_81, k_X1_firstToStop_83, k_X1_firstToStop_89, k_X1_firstToStop_100, k_X1_firstToStop_115, k_X1_firstToStop_125, k_X1_firstToStop_128, k_X1_firstToStop_134, k_X1_firstToStop_139, k_X1_firstToStop_141, k_X1_firstToStop_150, k_X1_firstToStop_154, k_X1_firstToStop_155, li_0, li_1, li_2, li_3, li_4, li_5, li_6, li_9, li_10, li_40, lm_1, lm_2, lm_3, lm_4, zs_ap, i32_add, i32_sub, i32_mul, i32_neg, i32_lt, i32_le, i32_eq, i32_nat, ckn, pka_r, pka_v, if_pos, if_neg, if_true, if_false, zs1, e, hp]
    rfl)
  rw [k_X1_firstToStop_26 (hv_p2 := by omega)]
  simp (disch := omega) only [k_X1_firstToStop_21, k_X1_firstToStop_36, k_X1_firstToStop_48, k_X1_firstToStop_53, k_X1_firstToStop_73, k_X1_firstToStop_81, k_X1_firstToStop_83, k_X1_firstToStop_89, k_X1_firstToStop_100, k_X1_firstToStop_115, k_X1_firstToStop_125, k_X1_firstToStop_128, k_X1_firstToStop_134, k_X1_firstToStop_139, k_X1_firstToStop_141, k_X1_firstToStop_150, k_X1_firstToStop_154, k_X1_firstToStop_155, li_0, li_1, li_2, li_3, li_4, li_5, li_6, li_9, li_10, li_40, lm_1, lm_2, lm_3, lm_4, zs_ap, i32_add, i32_sub, i32_mul, i32_neg, i32_lt, i32_le, i32_eq, i32_nat, ckn, pka_r, pka_v, if_pos, if_neg, if_true, if_false, zs1, lv]
  refine Eq.trans key ?_
  rw [ej]
  cases ca : anyN P (qS m)
  · rw [if_neg Bool.false_ne_true, k_X1_firstToStop_105 (hv_p2 := by omega), jv_miss P hS h2' ca]
    by_cases c1 : lvb P 6 = i32 0
    · rw [if_pos c1]
      simp (disch := omega) only [k_X1_firstToStop_21, k_X1_firstToStop_36, k_X1_firstToStop_48, k_X1_firstToStop_53, k_X1_firstToStop_73, k_X1_firstToStop_81, k_X1_firstToStop_83, k_X1_firstToStop_89, k_X1_firstToStop_100, k_X1_firstToStop_115, k_X1_firstToStop_125, k_X1_firstToStop_128, k_X1_firstToStop_134, k_X1_firstToStop_139, k_X1_firstToStop_141, k_X1_firstToStop_150, k_X1_firstToStop_154, k_X1_firstToStop_155, li_0, li_1, li_2, li_3, li_4, li_5, li_6, li_9, li_10, li_40, lm_1, lm_2, lm_3, lm_4, zs_ap, i32_add, i32_sub, i32_mul, i32_neg, i32_lt, i32_le, i32_eq, i32_nat, ckn, pka_r, pka_v, if_pos, if_neg, if_true, if_false, zs1, c1]
    · rw [if_neg c1]
      by_cases c2 : (lvb P 6 >>> (i32 3 &&& 31)) &&& i32 3 = i32 0
      · rw [if_pos c2]
        simp (disch := omega) only [k_X1_firstToStop_21, k_X1_firstToStop_36, k_X1_firstToStop_48, k_X1_firstToStop_53, k_X1_firstToStop_73, k_X1_firstToStop_81, k_X1_firstToStop_83, k_X1_firstToStop_89, k_X1_firstToStop_100, k_X1_firstToStop_115, k_X1_firstToStop_125, k_X1_firstToStop_128, k_X1_firstToStop_134, k_X1_firstToStop_139, k_X1_firstToStop_141, k_X1_firstToStop_150, k_X1_firstToStop_154, k_X1_firstToStop_155, li_0, li_1, li_2, li_3, li_4, li_5, li_6, li_9, li_10, li_40, lm_1, lm_2, lm_3, lm_4, zs_ap, i32_add, i32_sub, i32_mul, i32_neg, i32_lt, i32_le, i32_eq, i32_nat, ckn, pka_r, pka_v, if_pos, if_neg, if_true, if_false, zs1, if_neg c1, if_pos c2]
      · rw [if_neg c2]
        simp (disch := omega) only [k_X1_firstToStop_21, k_X1_firstToStop_36, k_X1_firstToStop_48, k_X1_firstToStop_53, k_X1_firstToStop_73, k_X1_firstToStop_81, k_X1_firstToStop_83, k_X1_firstToStop_89, k_X1_firstToStop_100, k_X1_firstToStop_115, k_X1_firstToStop_125, k_X1_firstToStop_128, k_X1_firstToStop_134, k_X1_firstToStop_139, k_X1_firstToStop_141, k_X1_firstToStop_150, k_X1_firstToStop_154, k_X1_firstToStop_155, li_0, li_1, li_2, li_3, li_4, li_5, li_6, li_9, li_10, li_40, lm_1, lm_2, lm_3, lm_4, zs_ap, i32_add, i32_sub, i32_mul, i32_neg, i32_lt, i32_le, i32_eq, i32_nat, ckn, pka_r, pka_v, if_pos, if_neg, if_true, if_false, zs1, if_neg c1, if_neg c2]
  · rw [if_pos rfl, jv_hit P hS ca]
/-- what a hearing changes -/
def HX (Z Z' : Nat → Nat → Int) : Prop := ∀ a : Nat, a ≠ 129 → a ≠ 130 → a ≠ 131 → Z' a = Z a
def HG (Z : Nat → Nat → Int) (r : Int × Int × Nat × Nat) : Prop := Z 129 4 = 1 ∧ Z 129 5 = r.1 ∧ Z 129 6 = r.2.1 ∧ Z 129 7 = r.2.2.1 ∧ Z 129 8 = r.2.2.2
theorem h_concl (h : KI m p0 Z) {bs sd : Int} (hb : -1 ≤ bs ∧ bs < 41) {k s : Nat} (hk : k < 41) (hs : Z 130 k = (s : Int)) (hsN : s < qN m) : ∃ Z' : Nat → Nat → Int, HX Z Z' ∧ HG Z' (bs, sd, s, k) ∧ Mean (d + 1) 13 [.ref 129, .int (i32 bs), .int (i32 sd), .int (i32 (k : Int))] (176, zs Z, J, RP p0 p1 p0 35 p0 p5 p6 97) = some (some (.int (i32 (if bs = -1 ∧ s = qfin m then 1 else 0))), (176, zs Z', J, RP p0 p1 p0 35 p0 p5 p6 97)) := by
  have hw := h.1
  have hN := hw.2.2.2.2.2.2
  have hf := qfin_lt hw
  have z3 : Z 35 3 = (qfin m : Int) := h.2.2.2.1.1.2.2
  refine ⟨u2 (u2 (u2 (u2 (u2 Z 129 4 1) 129 5 bs) 129 6 sd) 129 7 (s : Int)) 129 8 (k : Int), fun a h1 h2 h3 => by rw [u2_ne h1, u2_ne h1, u2_ne h1, u2_ne h1, u2_ne h1], ?_, ?_⟩
  · unfold HG
    simp [u2]
  · have e130 : u2 (u2 (u2 Z 129 4 1) 129 5 bs) 129 6 sd 130 k = (s : Int) := by rw [u2_ne (by omega), u2_ne (by omega), u2_ne (by omega)]; exact hs
    have e7 : u2 (u2 (u2 (u2 (u2 Z 129 4 1) 129 5 bs) 129 6 sd) 129 7 (s : Int)) 129 8 (k : Int) 129 7 = (s : Int) := by simp [u2]
    have e35 : u2 (u2 (u2 (u2 (u2 Z 129 4 1) 129 5 bs) 129 6 sd) 129 7 (s : Int)) 129 8 (k : Int) 35 3 = (qfin m : Int) := by
      rw [u2_ne (by omega), u2_ne (by omega), u2_ne (by omega), u2_ne (by omega), u2_ne (by omega)]
      exact z3
    rw [e_X1_conclude, k_X1_conclude_0]
    by_cases c1 : bs = -1
    · by_cases c2 : s = qfin m
      · rw [if_pos (show bs = -1 ∧ s = qfin m from ⟨c1, c2⟩)]
        simp (disch := omega) only [k_X1_conclude_22, k_X1_conclude_35, k_X1_conclude_49, k_X1_conclude_53, k_X1_conclude_54, li_0, li_1, li_2, li_3, li_4, li_5, li_6, li_9, li_10, li_40, lm_1, lm_2, lm_3, lm_4, zs_ap, i32_add, i32_sub, i32_mul, i32_neg, i32_lt, i32_le, i32_eq, i32_nat, ckn, pka_r, pka_v, if_pos, if_neg, if_true, if_false, zs_u2, Int.toNat_natCast, e130, e7, e35]
      · rw [if_neg (show ¬ (bs = -1 ∧ s = qfin m) from fun q => c2 q.2)]
        simp (disch := omega) only [k_X1_conclude_22, k_X1_conclude_35, k_X1_conclude_49, k_X1_conclude_53, k_X1_conclude_54, li_0, li_1, li_2, li_3, li_4, li_5, li_6, li_9, li_10, li_40, lm_1, lm_2, lm_3, lm_4, zs_ap, i32_add, i32_sub, i32_mul, i32_neg, i32_lt, i32_le, i32_eq, i32_nat, ckn, pka_r, pka_v, if_pos, if_neg, if_true, if_false, zs_u2, Int.toNat_natCast, e130, e7, e35]
    · rw [if_neg (show ¬ (bs = -1 ∧ s = qfin m) from fun q => c1 q.1)]
      simp (disch := omega) only [k_X1_conclude_22, k_X1_conclude_35, k_X1_conclude_49, k_X1_conclude_53, k_X1_conclude_54, li_0, li_1, li_2, li_3, li_4, li_5, li_6, li_9, li_10, li_40, lm_1, lm_2, lm_3, lm_4, zs_ap, i32_add, i32_sub, i32_mul, i32_neg, i32_lt, i32_le, i32_eq, i32_nat, ckn, pka_r, pka_v, if_pos, if_neg, if_true, if_false, zs_u2, Int.toNat_natCast, e130, e7, e35]
end
