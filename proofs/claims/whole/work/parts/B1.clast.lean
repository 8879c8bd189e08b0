/-! THE CLASS'S last -/
theorem tdiv_s {V : Int} (hV : -1100 ≤ V ∧ V ≤ 1100) {g c : Nat} (h1 : g ≤ c) (hc : 1 ≤ c) : -1100 ≤ (V * (g : Int)).tdiv (c : Int) ∧ (V * (g : Int)).tdiv (c : Int) ≤ 1100 := by
  have e := Int.natAbs_tdiv (V * (g : Int)) (c : Int)
  rw [Int.natAbs_mul, Int.natAbs_natCast, Int.natAbs_natCast] at e
  have h2 : V.natAbs * g ≤ 1100 * c := Nat.mul_le_mul (by omega) h1
  have h3 : V.natAbs * g / c ≤ 1100 := Nat.div_le_of_le_mul (by rw [Nat.mul_comm c]; exact h2)
  have h4 : ((V * (g : Int)).tdiv (c : Int)).natAbs ≤ 1100 := Nat.le_trans (Nat.le_of_eq e) h3
  clear e h2 h3
  omega
theorem qsm_s {m : Mat} (h : wf m) {g : Nat → Nat} (hg : ∀ k : Nat, k < qP m → g k ≤ qcut m k) {i : Nat} (hi : i < qS m) : ∀ n : Nat, n ≤ qP m → -1100 * (n : Int) ≤ qsm m g i n ∧ qsm m g i n ≤ 1100 * (n : Int)
  | 0, _ => by unfold qsm; omega
  | n + 1, hn => by
    have h1 := qsm_s h hg hi n (by omega)
    have h2 := tdiv_s (h.2.2.2.1 n (by omega) i hi) (hg n (by omega)) (h.2.2.1 n (by omega)).2.1.1
    unfold qsm
    omega
theorem qstop_s {m : Mat} (h : wf m) (s : Nat) {i : Nat} (hi : i < qS m) : -6600 ≤ qstop m s i ∧ qstop m s i ≤ 6600 := by
  have h1 := qsm_s h (g := qhas m s) (fun k _ => qhas_le m s k) hi (qP m) (Nat.le_refl _)
  have h2 := h.2.1
  unfold qstop
  omega
theorem plenty {m : Mat} (hw : wf m) (s : Nat) : qstay m (fun _ => 100000) s 1 = true := by
  refine (qstay_iff hw).mpr ⟨by omega, fun i hi => ?_⟩
  have h1 := qstop_s hw s hi
  have h2 := qstop_s hw (qfin m) hi
  have h3 := hw.1
  have h4 := (hw.2.2.2.2.1 i (by omega)).1
  have h5 := hw.2.2.2.2.2.1.1
  unfold qgoal
  omega
theorem near_sf {m : Mat} (hw : wf m) {s : Nat} (hs : s < qN m) {b : Nat → Int} (hst : qstay m b s 1 = true) : anyN (fun t => sf m b 1 s (qtt m t)) (qS m) = qnear m s := by
  have hS := hw.1
  have hmd := hw.2.2.2.2.2.1.2.2.1
  apply beq_iff
  rw [anyN_iff, near_iff hw]
  have es : ∀ t : Nat, sf m b 1 s t = (!decide (s = qfin m) && onw m (fun u _ => decide (u = qfin m)) s t) := fun t => by
    show ((!decide (s = qfin m) && qstay m b s (0 + 1)) && onw m (sf m b 0) s t) = _
    rw [show 0 + 1 = 1 from rfl, hst, Bool.and_true]
    rfl
  have hnf : s ≠ qfin m ↔ ∃ k : Nat, k < qP m ∧ dif m s k := by
    rw [Ne, fin_dif hw hs]
    constructor
    · intro h
      refine Classical.byContradiction (fun q => h (fun k hk hd => q ⟨k, hk, hd⟩))
    · intro ⟨k, hk, hd⟩ h
      exact h k hk hd
  have mk : ∀ k : Nat, k < qP m → dif m s k → gd m s k → (∀ k2 : Nat, k2 < qP m → dif m s k2 → k2 = k) → (∃ k : Nat, k < qP m ∧ dif m s k) ∧ NS m s ∧ (qmode m = 2 ∨ ∀ k k2 : Nat, k < qP m → k2 < qP m → dif m s k → dif m s k2 → qown m k = qown m k2) := fun k h1 h2 h3 h4 => by
    refine ⟨⟨k, h1, h2⟩, fun k' b1 b2 => ?_, Or.inr (fun a c a1 c1 a2 c2 => by rw [h4 a a1 a2, h4 c c1 c2])⟩
    rw [h4 k' b1 b2]
    exact ⟨h3, fun k2 c1 c2 _ => h4 k2 c1 c2⟩
  by_cases c2 : qmode m = 2
  · have eo : ∀ t : Nat, onw m (fun u _ => decide (u = qfin m)) s t = TJ m s (fun u => decide (u = qfin m)) (qS m) := fun t => by
      unfold onw
      rw [if_pos c2]
      exact tg_TJ hs (qS m) 0 (by omega)
    have ea : s ≠ qfin m → AL m (fun u => decide (u = qfin m)) (qS m) s = TJ m s (fun u => decide (u = qfin m)) (qS m) := fun h => by
      rw [AL_TJ]
      show (decide (s = qfin m) || _) = _
      rw [decide_eq_false h, Bool.false_or]
    constructor
    · intro ⟨t, h1, h2⟩
      rw [es, eo, Bool.and_eq_true, Bool.not_eq_true', decide_eq_false_iff_not] at h2
      rw [← ea h2.1, AL_fin hw (qS m) s (Nat.le_refl _) hs] at h2
      exact ⟨hnf.mp h2.1, h2.2.2, Or.inl c2⟩
    · intro ⟨h1, h2, _⟩
      have h3 := hnf.mpr h1
      refine ⟨0, by omega, ?_⟩
      rw [es, eo, Bool.and_eq_true, Bool.not_eq_true', decide_eq_false_iff_not, ← ea h3, AL_fin hw (qS m) s (Nat.le_refl _) hs]
      exact ⟨h3, fun k hk hd => by omega, h2⟩
  · by_cases c0 : qmode m = 0
    · have eo : ∀ t : Nat, s ≠ qfin m → onw m (fun u _ => decide (u = qfin m)) s t = givs m s (fun k => decide (qown m k = t)) (fun u => decide (u = qfin m)) := fun t h => by
        unfold onw
        rw [if_neg c2, if_pos c0]
        show (decide (s = qfin m) || _) = _
        rw [decide_eq_false h, Bool.false_or]
      constructor
      · intro ⟨t, h1, h2⟩
        rw [es, Bool.and_eq_true, Bool.not_eq_true', decide_eq_false_iff_not] at h2
        rw [eo _ h2.1, one_fin hw hs] at h2
        obtain ⟨_, k, a1, _, a3, a4, a5⟩ := h2
        exact mk k a1 a3 a4 a5
      · intro ⟨⟨k, h1, h2⟩, h3, h4⟩
        have h5 := hnf.mpr ⟨k, h1, h2⟩
        obtain ⟨g1, g2⟩ := h3 k h1 h2
        have h6 := h4.resolve_left c2
        refine ⟨qown m k, (hw.2.2.1 k h1).1, ?_⟩
        rw [es, Bool.and_eq_true, Bool.not_eq_true', decide_eq_false_iff_not, eo _ h5, one_fin hw hs]
        refine ⟨h5, k, h1, decide_eq_true ?_, h2, g1, fun k2 b1 b2 => g2 k2 b1 b2 (h6 k2 k b1 h1 b2 h2)⟩
        unfold qtt
        rw [if_pos c0]
    · have eo : ∀ t : Nat, onw m (fun u _ => decide (u = qfin m)) s t = givs m s (fun _ => true) (fun u => decide (u = qfin m)) := fun t => by
        unfold onw
        rw [if_neg c2, if_neg c0]
      constructor
      · intro ⟨t, h1, h2⟩
        rw [es, Bool.and_eq_true, eo, one_fin hw hs] at h2
        obtain ⟨_, k, a1, _, a3, a4, a5⟩ := h2
        exact mk k a1 a3 a4 a5
      · intro ⟨⟨k, h1, h2⟩, h3, h4⟩
        have h5 := hnf.mpr ⟨k, h1, h2⟩
        obtain ⟨g1, g2⟩ := h3 k h1 h2
        have h6 := h4.resolve_left c2
        refine ⟨0, by omega, ?_⟩
        rw [es, Bool.and_eq_true, Bool.not_eq_true', decide_eq_false_iff_not, eo, one_fin hw hs]
        exact ⟨h5, k, h1, rfl, h2, g1, fun k2 b1 b2 => g2 k2 b1 b2 (h6 k2 k b1 h1 b2 h2)⟩
theorem ndV_1 {m : Mat} {s i : Nat} (hi : i < 3) : ndV m s i = qsh m (qbre m) i (qstop m s i) + qday m := by
  have e1 : qone i = i := by
    unfold qone
    rw [if_neg (by omega), if_pos hi]
  have e2 : qtwo i = i := if_pos hi
  unfold ndV qmore
  rw [if_pos hi, e1, e2, if_pos rfl]
theorem cnt_1 {m : Mat} {i : Nat} (hi : i < 3) (h : i < qS m) : qcnt m i = true := by
  unfold qcnt
  rw [if_pos hi]
  exact decide_eq_true h
theorem ndF_up {m : Mat} {s w : Nat} : ndF m s w ≤ ndF m s (w + 1) := by
  show _ ≤ (if qcnt m w then (if ndF m s w < ndV m s w then ndV m s w else ndF m s w) else ndF m s w)
  split
  · split <;> omega
  · omega
theorem ndF_ge {m : Mat} {s w : Nat} (hc : qcnt m w = true) : ndV m s w ≤ ndF m s (w + 1) := by
  rw [ndF_t hc]
  split <;> omega
theorem ndF_no {m : Mat} {s w : Nat} (hc : qcnt m w = false) : ndF m s (w + 1) = ndF m s w := by
  show (if qcnt m w = true then _ else _) = _
  rw [hc, if_neg Bool.false_ne_true]
theorem ndF_S {m : Mat} (hw : wf m) {s : Nat} : ndF m s 6 = ndF m s (qS m) := by
  have hS := hw.1
  have h3 : ndF m s 3 = ndF m s (qS m) := by
    have : qS m = 2 ∨ qS m = 3 := by omega
    rcases this with q | q
    · rw [q]
      exact ndF_no (by unfold qcnt; rw [if_pos (by omega), q]; rfl)
    · rw [q]
  have ge3 : ∀ i : Nat, i < qS m → ndV m s i ≤ ndF m s 3 := fun i hi => by
    have h0 := ndF_ge (s := s) (cnt_1 (m := m) (i := i) (by omega) hi)
    have u1 := ndF_up (m := m) (s := s) (w := 1)
    have u2 := ndF_up (m := m) (s := s) (w := 2)
    have : i = 0 ∨ i = 1 ∨ i = 2 := by omega
    rcases this with rfl | rfl | rfl
    · exact Int.le_trans h0 (Int.le_trans u1 u2)
    · exact Int.le_trans h0 u2
    · exact h0
  have z3 : 0 ≤ ndF m s 3 := (ndF_b hw s 3 (by omega)).1
  have pr : ∀ w : Nat, 3 ≤ w → w < 6 → ndF m s w = ndF m s 3 → ndF m s (w + 1) = ndF m s 3 := fun w h1 h2 h => by
    cases hc : qcnt m w
    · rw [ndF_no hc, h]
    · obtain ⟨l1, l2⟩ := qcnt_lt h2 hS.1 hc
      rw [ndF_t hc, h]
      have a1 := ge3 _ l1
      have a2 := ge3 _ l2
      rw [ndV_1 (by omega)] at a1 a2
      have hne : qone w ≠ qtwo w := by
        have : w = 3 ∨ w = 4 ∨ w = 5 := by omega
        rcases this with rfl | rfl | rfl <;> decide
      have e : ndV m s w = (qsh m (qbre m) (qone w) (qstop m s (qone w)) + qsh m (qbre m) (qtwo w) (qstop m s (qtwo w)) + 2 * qday m + 1).tdiv 2 := by
        unfold ndV qmore
        rw [if_neg (by omega), if_neg hne]
      generalize qsh m (qbre m) (qone w) (qstop m s (qone w)) = A at *
      generalize qsh m (qbre m) (qtwo w) (qstop m s (qtwo w)) = B at *
      have hd : ndV m s w ≤ ndF m s 3 := by
        rw [e]
        by_cases cn : 0 ≤ A + B + 2 * (qday m : Int) + 1
        · rw [Int.tdiv_eq_ediv_of_nonneg cn]
          omega
        · have : (A + B + 2 * (qday m : Int) + 1).tdiv 2 ≤ 0 := by
            have h9 := Int.neg_tdiv (a := -(A + B + 2 * (qday m : Int) + 1)) (b := 2)
            rw [Int.neg_neg] at h9
            rw [h9, Int.tdiv_eq_ediv_of_nonneg (by omega)]
            omega
          omega
      rw [if_neg (by omega)]
  rw [← h3]
  exact pr 5 (by omega) (by omega) (pr 4 (by omega) (by omega) (pr 3 (by omega) (by omega) rfl))
def lsL (m : Mat) (s : Nat) : Int := if lastF m s = -1 then 2001 else lastF m s
theorem lsL_s {m : Mat} (hw : wf m) {s : Nat} : lsL m (s + 1) = if qnear m s = true then (if ndF m s 6 < lsL m s then ndF m s 6 else lsL m s) else lsL m s := by
  have h1 := lastF_b hw s
  have h2 := ndF_b hw s 6 (by omega)
  have e : lastF m (s + 1) = if qnear m s = true ∧ ndF m s 6 ≤ 2000 ∧ (lastF m s = -1 ∨ ndF m s 6 < lastF m s) then ndF m s 6 else lastF m s := rfl
  unfold lsL
  by_cases cn : qnear m s = true
  · rw [if_pos cn]
    by_cases c1 : ndF m s 6 ≤ 2000 ∧ (lastF m s = -1 ∨ ndF m s 6 < lastF m s)
    · rw [e.trans (if_pos ⟨cn, c1⟩)]
      clear e
      split <;> split <;> split <;> omega
    · rw [e.trans (if_neg (fun q => c1 q.2))]
      clear e
      split <;> split <;> omega
  · rw [if_neg cn, e.trans (if_neg (fun q => cn q.1))]
theorem and2_z {y : Int64} : ((y &&& 2) = 0) = (gb y 1 = false) := by
  apply propext
  rw [gb_nz]
  have g2 : ∀ n : Nat, n < 64 → gb 2 n = decide (n = 1) := by decide
  constructor
  · intro h
    have := h 1 (by omega)
    rw [gb_and, g2 1 (by omega), decide_eq_true rfl, Bool.and_true] at this
    exact this
  · intro h n hn
    rw [gb_and, g2 n hn]
    by_cases c : n = 1
    · rw [c, h, Bool.false_and]
    · rw [decide_eq_false c, Bool.and_false]
section
variable {d : Nat} {J : Nat → Nat → Int64} {Z : Nat → Nat → Int} {p0 p1 p5 p6 : Nat} {m : Mat}
theorem h_hasLast (h : KI m p0 Z) (hr : ∀ u : Nat, u < qN m → LR m (fun _ => 100000) 112 J u) {s : Nat} (hs : s < qN m) : Mean (d + 2) 99 [.ref 95, .int (i32 (s : Int))] (176, zs Z, J, RP p0 p1 p0 35 p0 35 p0 97) = some (some (.int (i32 (bB (qnear m s)))), (176, zs Z, J, RP p0 p1 p0 35 p0 35 p0 97)) := by
  obtain ⟨hw, hp, hm, hk⟩ := h
  have hS := hw.1
  have hmd := hw.2.2.2.2.2.1.2.2.1
  have hp' := hp
  unfold hv2 at hp'
  have z1 : Z p0 1 = (qS m : Int) := hm.1.1
  have sb := fun (t : Nat) (ht : t < qS m) => h_safeBits_b (d := d) (J := J) (p0 := p0) (p1 := p1) (p2 := p0) (p3 := 35) (p4 := p0) (p7 := 97) hp' hw hm hs ht
  have hb : ∀ t : Nat, t < qS m → gb (J (112 + 2 + qtt m t) s) 1 = sf m (fun _ => 100000) 1 s (qtt m t) := fun t ht => by
    have hl : qtt m t < nlay m := by
      unfold qtt nlay
      split <;> split <;> omega
    rw [hr s hs (qtt m t) 1 hl (by omega)]
    unfold LB
    by_cases c2 : qmode m = 2
    · rw [if_pos c2]
      unfold qtt
      rw [if_neg (by omega)]
      rfl
    · rw [if_neg c2]
  have key := srch (fun t => den none (Mean (d + 1)) (some .boolean) tQ_X9_hasLastStep (2, [some (.ref 95), some (.int (i32 (s : Int))), some (.int (i32 (t : Int)))], [], 176, zs Z, J, RP p0 p1 p0 35 p0 35 p0 97)) (fun t => sf m (fun _ => 100000) 1 s (qtt m t)) (qS m) (fun _ => some (some (.int (i32 1)), (176, zs Z, J, RP p0 p1 p0 35 p0 35 p0 97))) (fun t ht hp => by
    have e : gb (J (112 + 2 + qtt m t) s) 1 = true := (hb t ht).trans hp
    have e' : ¬ (gb (J (112 + 2 + qtt m t) s) 1 = false) := by rw [e]; exact Bool.noConfusion
    have sb' := sb t ht
    rw [k_X9_hasLastStep_2 (hv_p2 := by omega)]
    simp (disch := omega) only [k_X9_hasLastStep_0, k_X9_hasLastStep_16, k_X9_hasLastStep_25, k_X9_hasLastStep_34, k_X9_hasLastStep_36, k_X9_hasLastStep_42, li_0, li_1, li_2, li_3, li_4, li_5, li_6, li_9, li_10, li_40, lm_1, lm_2, lm_3, lm_4, zs_ap, i32_add, i32_sub, i32_mul, i32_neg, i32_lt, i32_le, i32_eq, i32_nat, ckn, pka_r, pka_v, if_pos, if_neg, if_true, if_false, z1, sb', cmp_z, and2_z, e, Bool.true_eq_false, true_or, or_true]) (fun t ht hp => by
    have e : gb (J (112 + 2 + qtt m t) s) 1 = false := (hb t ht).trans hp
    have sb' := sb t ht
    rw [k_X9_hasLastStep_2 (hv_p2 := by omega)]
    simp (disch := omega) only [k_X9_hasLastStep_0, k_X9_hasLastStep_16, k_X9_hasLastStep_25, k_X9_hasLastStep_34, k_X9_hasLastStep_36, k_X9_hasLastStep_42, li_0, li_1, li_2, li_3, li_4, li_5, li_6, li_9, li_10, li_40, lm_1, lm_2, lm_3, lm_4, zs_ap, i32_add, i32_sub, i32_mul, i32_neg, i32_lt, i32_le, i32_eq, i32_nat, ckn, pka_r, pka_v, if_pos, if_neg, if_true, if_false, z1, sb', cmp_z, and2_z, e]
    rfl)
  rw [near_sf hw hs (plenty hw s)] at key
  rw [e_X9_hasLastStep, k_X9_hasLastStep_0, li_0]
  refine Eq.trans key ?_
  cases qnear m s
  · rw [if_neg Bool.false_ne_true, bBf, k_X9_hasLastStep_2 (hv_p2 := by omega)]
    simp (disch := omega) only [k_X9_hasLastStep_0, k_X9_hasLastStep_16, k_X9_hasLastStep_25, k_X9_hasLastStep_34, k_X9_hasLastStep_36, k_X9_hasLastStep_42, li_0, li_1, li_2, li_3, li_4, li_5, li_6, li_9, li_10, li_40, lm_1, lm_2, lm_3, lm_4, zs_ap, i32_add, i32_sub, i32_mul, i32_neg, i32_lt, i32_le, i32_eq, i32_nat, ckn, pka_r, pka_v, if_pos, if_neg, if_true, if_false, z1, true_or]
  · rw [if_pos rfl, bBt]
theorem h_added (h : KI m p0 Z) {s : Nat} (hs : s < qN m) : Mean (d + 2) 100 [.ref 95, .int (i32 (s : Int))] (176, zs Z, J, RP p0 p1 p0 35 p0 35 p0 97) = some (some (.int (i32 (ndF m s 6))), (176, zs Z, J, RP p0 p1 p0 35 p0 35 p0 97)) := by
  obtain ⟨hw, hp, hm, hk⟩ := h
  have hS := hw.1
  have hp' := hp
  unfold hv2 at hp'
  have z1 : Z p0 1 = (qS m : Int) := hm.1.1
  obtain ⟨o4, _, e⟩ := up_inv (fun (i : Nat) (o4 : Option Value) => den none (Mean (d + 1)) (some .int) tQ_X9_addedToStay (4, [some (.ref 95), some (.int (i32 (s : Int))), some (.int (i32 (ndF m s i))), some (.int (i32 (i : Int))), o4], [], 176, zs Z, J, RP p0 p1 p0 35 p0 35 p0 97)) (qS m) (fun _ _ => True) (fun i o4 hi _ => by
    have mg := h_margin (d := d) (J := J) (Z := Z) (p0 := p0) (p1 := p1) (p2 := p0) (p3 := 35) (p4 := p0) (p5 := 35) (p6 := p0) (p7 := 97) hp' hw hm hk hi hs 1
    have zb : Z (p0 + 14) i = qbre m i := (hm.2.2.2 i (by omega)).2
    have b1 := qstop_b hw s hi
    have b2 := qgoal_b hw hi
    have b3 := (hw.2.2.2.2.1 i (by omega)).2
    have b4 := hw.2.2.2.2.2.1.1
    have b5 := ndF_b hw s i (by omega)
    have ev : -(qgoal m i - 1 * (qday m : Int) - qstop m s i + qbre m i) = ndV m s i := by
      rw [ndV_1 (by omega)]
      unfold qsh
      omega
    have bv : -600000 ≤ ndV m s i ∧ ndV m s i ≤ 600000 := by rw [← ev]; omega
    have en := ndF_t (s := s) (cnt_1 (m := m) (i := i) (by omega) hi)
    refine ⟨some (.int (i32 (qgoal m i - 1 * (qday m : Int) - qstop m s i + qbre m i))), trivial, ?_⟩
    rw [k_X9_addedToStay_4 (hv_p2 := by omega)]
    by_cases c : ndF m s i < ndV m s i
    · rw [if_pos c] at en
      simp (disch := omega) only [k_X9_addedToStay_0, k_X9_addedToStay_18, k_X9_addedToStay_28, k_X9_addedToStay_40, k_X9_addedToStay_57, li_0, li_1, li_2, li_3, li_4, li_5, li_6, li_9, li_10, li_40, lm_1, lm_2, lm_3, lm_4, zs_ap, i32_add, i32_sub, i32_mul, i32_neg, i32_lt, i32_le, i32_eq, i32_nat, ckn, pka_r, pka_v, if_pos, if_neg, if_true, if_false, z1, mg, zb, Int.toNat_natCast, ev, en]
      rfl
    · rw [if_neg c] at en
      simp (disch := omega) only [k_X9_addedToStay_0, k_X9_addedToStay_18, k_X9_addedToStay_28, k_X9_addedToStay_40, k_X9_addedToStay_57, li_0, li_1, li_2, li_3, li_4, li_5, li_6, li_9, li_10, li_40, lm_1, lm_2, lm_3, lm_4, zs_ap, i32_add, i32_sub, i32_mul, i32_neg, i32_lt, i32_le, i32_eq, i32_nat, ckn, pka_r, pka_v, if_pos, if_neg, if_true, if_false, z1, mg, zb, Int.toNat_natCast, ev, en]
      rfl) none trivial
  rw [e_X9_addedToStay, k_X9_addedToStay_0]
  refine Eq.trans e ?_
  rw [k_X9_addedToStay_4 (hv_p2 := by omega), ndF_S hw]
  simp (disch := omega) only [k_X9_addedToStay_0, k_X9_addedToStay_18, k_X9_addedToStay_28, k_X9_addedToStay_40, k_X9_addedToStay_57, li_0, li_1, li_2, li_3, li_4, li_5, li_6, li_9, li_10, li_40, lm_1, lm_2, lm_3, lm_4, zs_ap, i32_add, i32_sub, i32_mul, i32_neg, i32_lt, i32_le, i32_eq, i32_nat, ckn, pka_r, pka_v, if_pos, if_neg, if_true, if_false, z1]
theorem h_last (h : KI m p0 Z) : ∃ (Z' : Nat → Nat → Int) (J' : Nat → Nat → Int64) (q5 q6 : Nat), TF Z Z' ∧ TJf J J' ∧ Mean (d + 7) 124 [.ref 0] (176, zs Z, J, RP p0 p1 p0 35 p0 p5 p6 97) = some (some (.int (i32 (aLast m))), (176, zs Z', J', RP p0 p1 p0 35 p0 q5 q6 97)) := by
  have hw := h.1
  have hp := h.2.1
  have hP := hw.2.1
  have hS := hw.1
  have hN := hw.2.2.2.2.2.2
  have hp' := hp
  unfold hv2 at hp'
  have fi := h_fillI (d := d + 4) (J := J) (Z := Z) (p0 := p0) (p1 := p1) (p2 := p0) (p3 := 35) (p4 := p0) (p5 := p5) (p6 := p6) (p7 := 97) (g := 96) rfl 100000
  have f1 : TF Z (fl3 Z 96 100000) := fun a ha => by
    unfold fl3
    rw [u2_ne (by omega), u2_ne (by omega), u2_ne (by omega)]
  have n2 : ∀ i : Nat, i < qS m → fl3 Z 96 100000 96 i = 100000 := fun i hi => by
    have : i = 0 ∨ i = 1 ∨ i = 2 := by omega
    unfold fl3
    rcases this with rfl | rfl | rfl <;> simp [u2]
  have h1 := TF_KI h f1
  generalize fl3 Z 96 100000 = Z1 at *
  obtain ⟨Z2, J2, a1, a2, a3, a4⟩ := h_solve_b (d := d + 1) (J := J) (p0 := p0) (p1 := p1) (p2 := p0) (p3 := 35) (p4 := p0) (p7 := 97) (q8 := p5) (q9 := p6) hp' hw (b := fun _ => 100000) (fun i hi => by dsimp only; omega) h1.2.2.1 h1.2.2.2 (g2 := 96) rfl (by omega) n2
  have f2 : TF Z Z2 := fun a ha => (a1 a (by omega) (by omega) (by omega)).trans (f1 a ha)
  have h2 := TF_KI h f2
  have zN : Z2 35 1 = (qN m : Int) := h2.2.2.2.1.1.1
  refine ⟨Z2, J2, 35, p0, f2, fun a ha => a2 a (by omega) (by omega), ?_⟩
  have key := up_eq (fun s => den none (Mean (d + 5)) (some .int) tQ_X9_leastForLastStep (30, [some (.ref 95), some (.int (i32 (lsL m s))), some (.int (i32 (s : Int)))], [], 176, zs Z2, J2, RP p0 p1 p0 35 p0 35 p0 97)) (qN m) (fun s hs => by
    have hl := h_hasLast (d := d + 3) (p1 := p1) h2 a3.2 hs
    have ha := h_added (d := d + 3) (J := J2) (p1 := p1) h2 hs
    have b1 := ndF_b hw s 6 (by omega)
    have b2 : 0 ≤ lsL m s + 1 ∧ lsL m s ≤ 2001 := by
      have := lastF_b hw s
      unfold lsL
      split <;> omega
    have e := lsL_s hw (s := s)
    rw [k_X9_leastForLastStep_30]
    cases cn : qnear m s
    · rw [cn, if_neg Bool.false_ne_true] at e
      rw [cn, bBf] at hl
      simp (disch := omega) only [k_X9_leastForLastStep_9, k_X9_leastForLastStep_24, k_X9_leastForLastStep_41, k_X9_leastForLastStep_46, k_X9_leastForLastStep_49, k_X9_leastForLastStep_55, k_X9_leastForLastStep_59, k_X9_leastForLastStep_65, k_X9_leastForLastStep_72, k_X9_leastForLastStep_76, k_X9_leastForLastStep_77, li_0, li_1, li_2, li_3, li_4, li_5, li_6, li_9, li_10, li_40, lm_1, lm_2, lm_3, lm_4, zs_ap, i32_add, i32_sub, i32_mul, i32_neg, i32_lt, i32_le, i32_eq, i32_nat, ckn, pka_r, pka_v, if_pos, if_neg, if_true, if_false, zN, hl, e]
      rfl
    · rw [cn, if_pos rfl] at e
      rw [cn, bBt] at hl
      by_cases c : ndF m s 6 < lsL m s
      · rw [if_pos c] at e
        simp (disch := omega) only [k_X9_leastForLastStep_9, k_X9_leastForLastStep_24, k_X9_leastForLastStep_41, k_X9_leastForLastStep_46, k_X9_leastForLastStep_49, k_X9_leastForLastStep_55, k_X9_leastForLastStep_59, k_X9_leastForLastStep_65, k_X9_leastForLastStep_72, k_X9_leastForLastStep_76, k_X9_leastForLastStep_77, li_0, li_1, li_2, li_3, li_4, li_5, li_6, li_9, li_10, li_40, lm_1, lm_2, lm_3, lm_4, zs_ap, i32_add, i32_sub, i32_mul, i32_neg, i32_lt, i32_le, i32_eq, i32_nat, ckn, pka_r, pka_v, if_pos, if_neg, if_true, if_false, zN, hl, ha, e]
        rfl
      · rw [if_neg c] at e
        simp (disch := omega) only [k_X9_leastForLastStep_9, k_X9_leastForLastStep_24, k_X9_leastForLastStep_41, k_X9_leastForLastStep_46, k_X9_leastForLastStep_49, k_X9_leastForLastStep_55, k_X9_leastForLastStep_59, k_X9_leastForLastStep_65, k_X9_leastForLastStep_72, k_X9_leastForLastStep_76, k_X9_leastForLastStep_77, li_0, li_1, li_2, li_3, li_4, li_5, li_6, li_9, li_10, li_40, lm_1, lm_2, lm_3, lm_4, zs_ap, i32_add, i32_sub, i32_mul, i32_neg, i32_lt, i32_le, i32_eq, i32_nat, ckn, pka_r, pka_v, if_pos, if_neg, if_true, if_false, zN, hl, ha, e]
        rfl)
  have l1 : (100000 : Int32) = i32 100000 := rfl
  have l2 : (2001 : Int32) = i32 (lsL m 0) := rfl
  have l3 : (2000 : Int32) = i32 2000 := rfl
  have b3 := lastF_b hw (qN m)
  have e1 : Mean (d + 6) 98 [.ref 95] (176, zs Z, J, RP p0 p1 p0 35 p0 p5 p6 97) = some (some (.int (i32 (aLast m))), (176, zs Z2, J2, RP p0 p1 p0 35 p0 35 p0 97)) := by
    rw [e_X9_leastForLastStep, k_X9_leastForLastStep_0]
    simp (disch := omega) only [k_X9_leastForLastStep_9, k_X9_leastForLastStep_24, l1, fi, pka_v, a4, li_0, l2]
    refine Eq.trans key ?_
    rw [k_X9_leastForLastStep_30]
    unfold aLast lsL
    by_cases c : lastF m (qN m) = -1
    · rw [c, if_pos rfl]
      simp (disch := omega) only [k_X9_leastForLastStep_9, k_X9_leastForLastStep_24, k_X9_leastForLastStep_41, k_X9_leastForLastStep_46, k_X9_leastForLastStep_49, k_X9_leastForLastStep_55, k_X9_leastForLastStep_59, k_X9_leastForLastStep_65, k_X9_leastForLastStep_72, k_X9_leastForLastStep_76, k_X9_leastForLastStep_77, li_0, li_1, li_2, li_3, li_4, li_5, li_6, li_9, li_10, li_40, lm_1, lm_2, lm_3, lm_4, zs_ap, i32_add, i32_sub, i32_mul, i32_neg, i32_lt, i32_le, i32_eq, i32_nat, ckn, pka_r, pka_v, if_pos, if_neg, if_true, if_false, zN, l3]
    · rw [if_neg c]
      simp (disch := omega) only [k_X9_leastForLastStep_9, k_X9_leastForLastStep_24, k_X9_leastForLastStep_41, k_X9_leastForLastStep_46, k_X9_leastForLastStep_49, k_X9_leastForLastStep_55, k_X9_leastForLastStep_59, k_X9_leastForLastStep_65, k_X9_leastForLastStep_72, k_X9_leastForLastStep_76, k_X9_leastForLastStep_77, li_0, li_1, li_2, li_3, li_4, li_5, li_6, li_9, li_10, li_40, lm_1, lm_2, lm_3, lm_4, zs_ap, i32_add, i32_sub, i32_mul, i32_neg, i32_lt, i32_le, i32_eq, i32_nat, ckn, pka_r, pka_v, if_pos, if_neg, if_true, if_false, zN, l3]
  rw [e_X10_last, k_X10_last_0]
  simp (disch := omega) only [k_X10_last_7, li_0, li_1, li_2, li_3, li_4, li_5, li_6, li_9, li_10, li_40, lm_1, lm_2, lm_3, lm_4, zs_ap, i32_add, i32_sub, i32_mul, i32_neg, i32_lt, i32_le, i32_eq, i32_nat, ckn, pka_r, pka_v, if_pos, if_neg, if_true, if_false, e1]
end
