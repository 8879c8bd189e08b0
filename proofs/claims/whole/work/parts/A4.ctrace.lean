/-! THE CLASS'S LeastRow: takeStep, trace; find, row, along -/
theorem LB_m0 {m : Mat} {b : Nat → Int} {t s n : Nat} (h : qmode m ≠ 2) : LB m b t s n = sf m b n s t := if_neg h
theorem LB_m2 {m : Mat} {b : Nat → Int} {t s n : Nat} (h : qmode m = 2) : LB m b t s n = AL m (fun u => sf m b n u 0) t s := if_pos h
section
variable {d : Nat} {J : Nat → Nat → Int64} {Z : Nat → Nat → Int} {p0 p1 p5 p6 : Nat} {m : Mat} {b : Nat → Int}
/-- all but a step of the row is as it was -/
def SF (st : Nat) (Z Z' : Nat → Nat → Int) : Prop := ∀ a : Nat, a ≠ 54 + st → Z' a = Z a
theorem ts_once (hs2 : qmode m = 2) {st n s0 : Nat} (hst : st < 40) (hn : n < 64) (x2 : Int32) : ∀ (j i to : Nat) (Z : Nat → Nat → Int), KL m b p0 Z J → i + j = qS m → to < qN m → AL m (fun u => sf m b n u 0) j to = true → (∀ w : Nat, i ≤ w → w < qS m → Z (54 + st) w = -1) → ∃ Z' : Nat → Nat → Int, SF st Z Z' ∧ (∀ w : Nat, w < i → Z' (54 + st) w = Z (54 + st) w) ∧ (∀ w : Nat, i ≤ w → w < qS m → Z' (54 + st) w = csg m (fun u => sf m b n u 0) j i to w) ∧ den none (Mean (d + 4)) (some .int) tQ_X2_takeStep (114, [some (.ref 52), some (.int (i32 (st : Int))), some (.int x2), some (.int (i32 (n : Int))), some (.ref p0), some (.int (i32 (to : Int))), some (.int (i32 (i : Int)))], [], 176, zs Z, J, RP p0 p1 p0 35 p0 p5 p6 97) = some (some (.int (i32 ((cs m (fun u => sf m b n u 0) j i to : Nat) : Int))), (176, zs Z', J, RP p0 p1 p0 35 p0 p5 p6 97)) := by
  intro j
  induction j with
  | zero =>
    intro i to Z h hi hto hal hz
    have hw := h.1.1
    have hp := h.1.2.1
    have hS := hw.1
    have z1 : Z p0 1 = (qS m : Int) := h.1.2.2.1.1.1
    refine ⟨Z, fun _ _ => rfl, fun _ _ => rfl, fun w h1 h2 => by omega, ?_⟩
    rw [k_X2_takeStep_114 (hv_p4 := by omega)]
    simp (disch := omega) only [k_X2_takeStep_0, k_X2_takeStep_15, k_X2_takeStep_19, k_X2_takeStep_28, k_X2_takeStep_35, k_X2_takeStep_40, k_X2_takeStep_48, k_X2_takeStep_54, k_X2_takeStep_65, k_X2_takeStep_68, k_X2_takeStep_75, k_X2_takeStep_80, k_X2_takeStep_81, k_X2_takeStep_89, k_X2_takeStep_98, k_X2_takeStep_102, k_X2_takeStep_103, k_X2_takeStep_109, k_X2_takeStep_124, k_X2_takeStep_134, k_X2_takeStep_142, li_0, li_1, li_2, li_3, li_4, li_5, li_6, li_9, li_10, li_40, lm_1, lm_2, lm_3, lm_4, zs_ap, i32_add, i32_sub, i32_mul, i32_neg, i32_lt, i32_le, i32_eq, i32_nat, ckn, pka_r, pka_v, if_pos, if_neg, if_true, if_false, z1]
    rfl
  | succ j ih =>
    intro i to Z h hi hto hal hz
    have hw := h.1.1
    have hp := h.1.2.1
    have hS := hw.1
    have z1 : Z p0 1 = (qS m : Int) := h.1.2.2.1.1.1
    have hlb : lbh m i = j := by
      unfold lbh
      rw [if_neg (by omega), if_pos hs2]
      omega
    have eL : ∀ u : Nat, LB m b (lbh m i) u n = AL m (fun u => sf m b n u 0) j u := fun u => by rw [hlb, LB_m2 hs2]
    have eLf : (fun u => LB m b (lbh m i) u n) = AL m (fun u => sf m b n u 0) j := funext eL
    have ts := h_takeShare (d := d) (p1 := p1) (p5 := p5) (p6 := p6) h (st := st) (i := i) (s := to) (n := n) hst (by omega) hto hn (fun h0 => by
      rw [eLf]
      rw [eL] at h0
      exact AL_gs (by omega) hal h0)
    rw [eLf, eL] at ts
    cases cA : AL m (fun u => sf m b n u 0) j to
    · rw [cA, if_neg Bool.false_ne_true] at ts
      have hg := AL_gs hi hal cA
      obtain ⟨k1, k2, k3, k4, k5⟩ := gK_ok hg
      have hlt := gTo_lt hg
      have h' : KL m b p0 (u2 Z (54 + st) i ((10 * gK m to (cselB m i) (AL m (fun u => sf m b n u 0) j) + gQ m to (cselB m i) (AL m (fun u => sf m b n u 0) j) : Nat) : Int)) J := KL_fr h (fun a ha => u2_ne (by omega))
      obtain ⟨Z', a1, a2, a3, a4⟩ := ih (i + 1) _ _ h' (by omega) (show gTo m to (cselB m i) (AL m (fun u => sf m b n u 0) j) < qN m by omega) k5 (fun w h1 h2 => by
        rw [u2f (by omega)]
        exact hz w (by omega) h2)
      refine ⟨Z', fun a ha => (a1 a ha).trans (u2_ne ha), fun w hw' => (a2 w (by omega)).trans (u2f (by omega)), fun w h1 h2 => ?_, ?_⟩
      · rw [csg_s, cA, if_neg Bool.false_ne_true]
        by_cases cw : w = i
        · rw [if_pos cw, a2 w (by omega), cw, u2s]
        · rw [if_neg cw]
          exact a3 w (by omega) h2
      · rw [cs_s, cA, if_neg Bool.false_ne_true, ← a4, k_X2_takeStep_114 (hv_p4 := by omega)]
        simp (disch := omega) only [k_X2_takeStep_0, k_X2_takeStep_15, k_X2_takeStep_19, k_X2_takeStep_28, k_X2_takeStep_35, k_X2_takeStep_40, k_X2_takeStep_48, k_X2_takeStep_54, k_X2_takeStep_65, k_X2_takeStep_68, k_X2_takeStep_75, k_X2_takeStep_80, k_X2_takeStep_81, k_X2_takeStep_89, k_X2_takeStep_98, k_X2_takeStep_102, k_X2_takeStep_103, k_X2_takeStep_109, k_X2_takeStep_124, k_X2_takeStep_134, k_X2_takeStep_142, li_0, li_1, li_2, li_3, li_4, li_5, li_6, li_9, li_10, li_40, lm_1, lm_2, lm_3, lm_4, zs_ap, i32_add, i32_sub, i32_mul, i32_neg, i32_lt, i32_le, i32_eq, i32_nat, ckn, pka_r, pka_v, if_pos, if_neg, if_true, if_false, z1, ts]
        rfl
    · rw [cA, if_pos rfl] at ts
      obtain ⟨Z', a1, a2, a3, a4⟩ := ih (i + 1) to Z h (by omega) hto cA (fun w h1 h2 => hz w (by omega) h2)
      refine ⟨Z', a1, fun w hw' => a2 w (by omega), fun w h1 h2 => ?_, ?_⟩
      · rw [csg_s, cA, if_pos rfl]
        by_cases cw : w = i
        · rw [if_pos cw, a2 w (by omega), cw]
          exact hz i (Nat.le_refl _) (by omega)
        · rw [if_neg cw]
          exact a3 w (by omega) h2
      · rw [cs_s, cA, if_pos rfl, ← a4, k_X2_takeStep_114 (hv_p4 := by omega)]
        simp (disch := omega) only [k_X2_takeStep_0, k_X2_takeStep_15, k_X2_takeStep_19, k_X2_takeStep_28, k_X2_takeStep_35, k_X2_takeStep_40, k_X2_takeStep_48, k_X2_takeStep_54, k_X2_takeStep_65, k_X2_takeStep_68, k_X2_takeStep_75, k_X2_takeStep_80, k_X2_takeStep_81, k_X2_takeStep_89, k_X2_takeStep_98, k_X2_takeStep_102, k_X2_takeStep_103, k_X2_takeStep_109, k_X2_takeStep_124, k_X2_takeStep_134, k_X2_takeStep_142, li_0, li_1, li_2, li_3, li_4, li_5, li_6, li_9, li_10, li_40, lm_1, lm_2, lm_3, lm_4, zs_ap, i32_add, i32_sub, i32_mul, i32_neg, i32_lt, i32_le, i32_eq, i32_nat, ckn, pka_r, pka_v, if_pos, if_neg, if_true, if_false, z1, ts]
        rfl
theorem h_takeStep (h : KL m b p0 Z J) {st n s t tc : Nat} (hst : st < 40) (hn : n < 64) (hs : s < qN m) (htc : tc < qS m) (htt : t = qtt m tc) (hz : Z 94 st = (s : Int)) (hon : onw m (sf m b n) s t = true) (hmin : qmode m = 2 → sf m b n s 0 = false) : ∃ Z' : Nat → Nat → Int, SF st Z Z' ∧ (∀ i : Nat, i < qS m → Z' (54 + st) i = stG m b n s t i) ∧ Mean (d + 5) 23 [.ref 52, .int (i32 (st : Int)), .int (i32 (tc : Int)), .int (i32 (n : Int))] (176, zs Z, J, RP p0 p1 p0 35 p0 p5 p6 97) = some (some (.int (i32 ((stp m b n s t : Nat) : Int))), (176, zs Z', J, RP p0 p1 p0 35 p0 p5 p6 97)) := by
  have hw := h.1.1
  have hp := h.1.2.1
  have hm := h.1.2.2.1
  have hS := hw.1
  have hP := hw.2.1
  have hmd := hw.2.2.2.2.2.1.2.2.1
  have z13 : Z p0 13 = (qmode m : Int) := hm.1.2.2.2.2.1
  obtain ⟨r1, r2⟩ := RPg (p0 := p0) (p1 := p1) (p2 := p0) (p3 := 35) (p4 := p0) (p5 := p5) (p6 := p6) (p7 := 97) hst
  have fl := h_fillI (d := d + 3) (J := J) (Z := Z) (p0 := p0) (p1 := p1) (p2 := p0) (p3 := 35) (p4 := p0) (p5 := p5) (p6 := p6) (p7 := 97) r2 (-1)
  have h1 : KL m b p0 (fl3 Z (54 + st) (-1)) J := KL_fr h (fun a ha => fl3_a (by omega))
  have f13 : fl3 Z (54 + st) (-1) p0 13 = (qmode m : Int) := by rw [fl3_a (by omega)]; exact z13
  have f94 : fl3 Z (54 + st) (-1) 94 st = (s : Int) := by rw [fl3_a (by omega)]; exact hz
  have fg : ∀ i : Nat, i < 3 → fl3 Z (54 + st) (-1) (54 + st) i = -1 := fun i hi => fl3_s hi
  have fSF : SF st Z (fl3 Z (54 + st) (-1)) := fun a ha => fl3_a ha
  have e0 : Mean (d + 5) 23 [.ref 52, .int (i32 (st : Int)), .int (i32 (tc : Int)), .int (i32 (n : Int))] (176, zs Z, J, RP p0 p1 p0 35 p0 p5 p6 97) = den none (Mean (d + 4)) (some .int) tQ_X2_takeStep (19, [some (.ref 52), some (.int (i32 (st : Int))), some (.int (i32 (tc : Int))), some (.int (i32 (n : Int))), some (.ref p0), none, none], [], 176, zs (fl3 Z (54 + st) (-1)), J, RP p0 p1 p0 35 p0 p5 p6 97) := by
    rw [e_X2_takeStep, k_X2_takeStep_0]
    simp (disch := omega) only [k_X2_takeStep_15, k_X2_takeStep_28, k_X2_takeStep_35, k_X2_takeStep_40, k_X2_takeStep_48, k_X2_takeStep_54, k_X2_takeStep_65, k_X2_takeStep_68, k_X2_takeStep_75, k_X2_takeStep_80, k_X2_takeStep_81, k_X2_takeStep_89, k_X2_takeStep_98, k_X2_takeStep_102, k_X2_takeStep_103, k_X2_takeStep_109, k_X2_takeStep_124, k_X2_takeStep_134, k_X2_takeStep_142, li_0, li_1, li_2, li_3, li_4, li_5, li_6, li_9, li_10, li_40, lm_1, lm_2, lm_3, lm_4, zs_ap, i32_add, i32_sub, i32_mul, i32_neg, i32_lt, i32_le, i32_eq, i32_nat, ckn, pka_r, pka_v, if_pos, if_neg, if_true, if_false, Int.toNat_natCast, r1, va_rf, fl]
  generalize hZ1 : fl3 Z (54 + st) (-1) = Z1 at *
  by_cases c2 : qmode m = 2
  · have ht0 : t = 0 := by rw [htt]; unfold qtt; rw [if_neg (by omega)]
    unfold onw at hon
    rw [if_pos c2] at hon
    have hal : AL m (fun u => sf m b n u 0) (qS m) s = true := by
      rw [AL_TJ, ← tg_TJ hs (qS m) 0 (by omega), hon, Bool.or_true]
    obtain ⟨Z', a1, a2, a3, a4⟩ := ts_once (d := d) (p1 := p1) (p5 := p5) (p6 := p6) (s0 := s) c2 hst hn (i32 (tc : Int)) (qS m) 0 s Z1 h1 (by omega) hs hal (fun w _ hw' => fg w (by omega))
    obtain ⟨q1, q2⟩ := ch_cs hs (f := fun u => sf m b n u 0) (hmin c2) (qS m) 0 0 s (by omega) (fun _ => rfl) hs (fun _ _ _ => rfl) hon
    refine ⟨Z', fun a ha => (a1 a ha).trans (fSF a ha), fun i hi => ?_, ?_⟩
    · unfold stG
      rw [if_pos c2, q2 i (Nat.zero_le _)]
      exact a3 i (Nat.zero_le _) hi
    · unfold stp
      rw [if_pos c2, q1, ← a4, e0]
      simp (disch := omega) only [k_X2_takeStep_0, k_X2_takeStep_15, k_X2_takeStep_19, k_X2_takeStep_28, k_X2_takeStep_35, k_X2_takeStep_40, k_X2_takeStep_48, k_X2_takeStep_54, k_X2_takeStep_65, k_X2_takeStep_68, k_X2_takeStep_75, k_X2_takeStep_80, k_X2_takeStep_81, k_X2_takeStep_89, k_X2_takeStep_98, k_X2_takeStep_102, k_X2_takeStep_103, k_X2_takeStep_109, k_X2_takeStep_124, k_X2_takeStep_134, k_X2_takeStep_142, li_0, li_1, li_2, li_3, li_4, li_5, li_6, li_9, li_10, li_40, lm_1, lm_2, lm_3, lm_4, zs_ap, i32_add, i32_sub, i32_mul, i32_neg, i32_lt, i32_le, i32_eq, i32_nat, ckn, pka_r, pka_v, if_pos, if_neg, if_true, if_false, f13, c2, f94, Int.toNat_natCast]
      rfl
  · have hstp : stp m b n s t = oN m (sf m b n) s t := if_neg c2
    have hstG : ∀ i : Nat, stG m b n s t i = oG m (sf m b n) s t i := fun i => if_neg c2
    by_cases c1 : qmode m = 1
    · have how : owt m (sf m b n) s t = false := by
        unfold owt
        rw [decide_eq_false (by omega), Bool.false_and]
      have hgs := onw_o c2 hon how
      have en : qnext m t = 0 := by unfold qnext; rw [if_neg (by omega)]
      have eos : osel m t = fun _ => true := by
        funext k
        unfold osel
        rw [if_neg (by omega)]
      have ef : (fun u => sf m b n u (qnext m t)) = fun u => LB m b 0 u n := by
        funext u
        rw [LB_m0 c2, en]
      rw [eos, ef] at hgs
      have lg := h_leastGift (d := d + 1) (p1 := p1) (p5 := p5) (p6 := p6) h1 (side := -1) (sel := fun _ => true) (L := 0) hs hn (by have := (nlay_le hw).2.2; omega) (by omega) (fun k hk => by simp) (fun k hk _ => by
        unfold lbh
        rw [if_neg (by omega), if_neg c2])
      rw [hgs, if_pos rfl] at lg
      obtain ⟨k1, k2, k3, k4, k5⟩ := gK_ok hgs
      have hlt := gTo_lt hgs
      have eT : oN m (sf m b n) s t = gTo m s (fun _ => true) (fun u => LB m b 0 u n) := by
        unfold oN
        rw [how, if_neg Bool.false_ne_true, eos, ef]
      have eG : ∀ i : Nat, oG m (sf m b n) s t i = if i = qown m (gK m s (fun _ => true) (fun u => LB m b 0 u n)) then ((10 * gK m s (fun _ => true) (fun u => LB m b 0 u n) + gQ m s (fun _ => true) (fun u => LB m b 0 u n) : Nat) : Int) else -1 := fun i => by
        unfold oG
        rw [how, if_neg Bool.false_ne_true, eos, ef]
      have hown := (hw.2.2.1 _ k1).1
      have zo : Z1 (p0 + 2) (gK m s (fun _ => true) (fun u => LB m b 0 u n)) = (qown m (gK m s (fun _ => true) (fun u => LB m b 0 u n)) : Int) := (h1.1.2.2.1.2.1 _ k1).1
      have eTT : gTo m s (fun _ => true) (fun u => LB m b 0 u n) = s - gQ m s (fun _ => true) (fun u => LB m b 0 u n) * qpl m (gK m s (fun _ => true) (fun u => LB m b 0 u n)) := rfl
      generalize hkK : gK m s (fun _ => true) (fun u => LB m b 0 u n) = kK at *
      generalize hqQ : gQ m s (fun _ => true) (fun u => LB m b 0 u n) = qQ at *
      obtain ⟨d1, _⟩ := div10 (k := kK) (q := qQ) (by omega) k3.2
      have h2 : KI m p0 (u2 Z1 (54 + st) (qown m kK) ((10 * kK + qQ : Nat) : Int)) := KI_fr h1.1 (fun a ha => u2_ne (by omega))
      have bg := h_behindGift (d := d + 3) (J := J) (p1 := p1) (p5 := p5) (p6 := p6) h2 k1 k3 hlt.2 hs
      refine ⟨u2 Z1 (54 + st) (qown m kK) ((10 * kK + qQ : Nat) : Int), fun a ha => (u2_ne ha).trans (fSF a ha), fun i hi => ?_, ?_⟩
      · rw [hstG, eG]
        by_cases ci : i = qown m kK
        · rw [if_pos ci, ci, u2s]
        · rw [if_neg ci, u2f ci]
          exact fg i (by omega)
      · rw [hstp, eT, eTT, e0]
        have g94 : u2 Z1 (54 + st) (qown m kK) ((10 * kK + qQ : Nat) : Int) 94 st = (s : Int) := by rw [u2_ne (by omega)]; exact f94
        simp (disch := first | omega | assumption) only [k_X2_takeStep_0, k_X2_takeStep_15, k_X2_takeStep_19, k_X2_takeStep_28, k_X2_takeStep_35, k_X2_takeStep_40, k_X2_takeStep_48, k_X2_takeStep_54, k_X2_takeStep_65, k_X2_takeStep_68, k_X2_takeStep_75, k_X2_takeStep_80, k_X2_takeStep_81, k_X2_takeStep_89, k_X2_takeStep_98, k_X2_takeStep_102, k_X2_takeStep_103, k_X2_takeStep_109, k_X2_takeStep_124, k_X2_takeStep_134, k_X2_takeStep_142, li_0, li_1, li_2, li_3, li_4, li_5, li_6, li_9, li_10, li_40, lm_1, lm_2, lm_3, lm_4, zs_ap, i32_add, i32_sub, i32_mul, i32_neg, i32_lt, i32_le, i32_eq, i32_nat, ckn, pka_r, pka_v, if_pos, if_neg, if_true, if_false, f13, c1, f94, Int.toNat_natCast, lg, r1, va_rf, d1, zo, zs_u2, g94, bg]
    · have c0 : qmode m = 0 := by omega
      have htc' : t = tc := by rw [htt]; unfold qtt; rw [if_pos c0]
      subst htc'
      have eL : ∀ u : Nat, LB m b (lbh m t) u n = sf m b n u (qnext m t) := fun u => by
        rw [LB_m0 c2]
        unfold lbh qnext
        rw [if_pos c0, if_pos c0]
      have eLf : (fun u => LB m b (lbh m t) u n) = fun u => sf m b n u (qnext m t) := funext eL
      have eos : osel m t = cselB m t := by
        funext k
        unfold osel cselB
        rw [if_pos c0]
      have how : owt m (sf m b n) s t = sf m b n s (qnext m t) := by
        unfold owt
        rw [decide_eq_true c0, Bool.true_and]
      have ts := h_takeShare (d := d) (p1 := p1) (p5 := p5) (p6 := p6) h1 (st := st) (i := t) (s := s) (n := n) hst htc hs hn (fun h0 => by
        rw [eLf, ← eos]
        rw [eL, ← how] at h0
        exact onw_o c2 hon h0)
      rw [eLf, eL, ← how, ← eos] at ts
      cases co : owt m (sf m b n) s t
      · rw [co, if_neg Bool.false_ne_true] at ts
        refine ⟨u2 Z1 (54 + st) t ((10 * gK m s (osel m t) (fun u => sf m b n u (qnext m t)) + gQ m s (osel m t) (fun u => sf m b n u (qnext m t)) : Nat) : Int), fun a ha => (u2_ne ha).trans (fSF a ha), fun i hi => ?_, ?_⟩
        · rw [hstG]
          unfold oG
          rw [co, if_neg Bool.false_ne_true]
          have hgs := onw_o c2 hon co
          have ho : qown m (gK m s (osel m t) (fun u => sf m b n u (qnext m t))) = t := by
            have := (gK_ok hgs).2.1
            rw [eos] at this ⊢
            exact of_decide_eq_true this
          rw [ho]
          by_cases ci : i = t
          · rw [if_pos ci, ci, u2s]
          · rw [if_neg ci, u2f ci]
            exact fg i (by omega)
        · rw [hstp, show oN m (sf m b n) s t = gTo m s (osel m t) (fun u => sf m b n u (qnext m t)) by unfold oN; rw [co, if_neg Bool.false_ne_true], e0]
          simp (disch := omega) only [k_X2_takeStep_0, k_X2_takeStep_15, k_X2_takeStep_19, k_X2_takeStep_28, k_X2_takeStep_35, k_X2_takeStep_40, k_X2_takeStep_48, k_X2_takeStep_54, k_X2_takeStep_65, k_X2_takeStep_68, k_X2_takeStep_75, k_X2_takeStep_80, k_X2_takeStep_81, k_X2_takeStep_89, k_X2_takeStep_98, k_X2_takeStep_102, k_X2_takeStep_103, k_X2_takeStep_109, k_X2_takeStep_124, k_X2_takeStep_134, k_X2_takeStep_142, li_0, li_1, li_2, li_3, li_4, li_5, li_6, li_9, li_10, li_40, lm_1, lm_2, lm_3, lm_4, zs_ap, i32_add, i32_sub, i32_mul, i32_neg, i32_lt, i32_le, i32_eq, i32_nat, ckn, pka_r, pka_v, if_pos, if_neg, if_true, if_false, f13, c0, f94, Int.toNat_natCast, ts]
      · rw [co, if_pos rfl] at ts
        refine ⟨Z1, fSF, fun i hi => ?_, ?_⟩
        · rw [hstG]
          unfold oG
          rw [co, if_pos rfl]
          exact fg i (by omega)
        · rw [hstp, show oN m (sf m b n) s t = s by unfold oN; rw [co, if_pos rfl], e0]
          simp (disch := omega) only [k_X2_takeStep_0, k_X2_takeStep_15, k_X2_takeStep_19, k_X2_takeStep_28, k_X2_takeStep_35, k_X2_takeStep_40, k_X2_takeStep_48, k_X2_takeStep_54, k_X2_takeStep_65, k_X2_takeStep_68, k_X2_takeStep_75, k_X2_takeStep_80, k_X2_takeStep_81, k_X2_takeStep_89, k_X2_takeStep_98, k_X2_takeStep_102, k_X2_takeStep_103, k_X2_takeStep_109, k_X2_takeStep_124, k_X2_takeStep_134, k_X2_takeStep_142, li_0, li_1, li_2, li_3, li_4, li_5, li_6, li_9, li_10, li_40, lm_1, lm_2, lm_3, lm_4, zs_ap, i32_add, i32_sub, i32_mul, i32_neg, i32_lt, i32_le, i32_eq, i32_nat, ckn, pka_r, pka_v, if_pos, if_neg, if_true, if_false, f13, c0, f94, Int.toNat_natCast, ts]
theorem rwT_q (hw : wf m) {tc : Nat} (htc : tc < qS m) : ∀ k : Nat, rwT m (qtt m tc) k = qtt m ((tc + k) % qS m)
  | 0 => by
    rw [Nat.add_zero, Nat.mod_eq_of_lt htc]
    rfl
  | k + 1 => by
    show qnext m (rwT m (qtt m tc) k) = _
    rw [rwT_q hw htc k]
    unfold qnext qtt
    by_cases c : qmode m = 0
    · rw [if_pos c, if_pos c, if_pos c, Nat.mod_add_mod, Nat.add_assoc]
    · rw [if_neg c, if_neg c]
/-- the row that lies in the class -/
def RC (m : Mat) (b : Nat → Int) (n s t : Nat) (Z : Nat → Nat → Int) : Prop := Z 52 3 = n ∧ (∀ k : Nat, k ≤ n → Z 94 k = rwS m b n s t k) ∧ (∀ k i : Nat, k < n → i < qS m → Z (54 + k) i = rwG m b n s t k i)
theorem h_trace (h : KL m b p0 Z J) {s tc n : Nat} (hs : s < qN m) (htc : tc < qS m) (hn : n ≤ 40) (hsf : sf m b n s (qtt m tc) = true) (hmin : ∀ n' : Nat, n' < n → sf m b n' s (qtt m tc) = false) (hfew : afew m b s (qtt m tc) = (n : Int)) : ∃ Z' : Nat → Nat → Int, (∀ a : Nat, (a < 52 ∨ 94 < a) → Z' a = Z a) ∧ RC m b n s (qtt m tc) Z' ∧ Mean (d + 6) 22 [.ref 52, .int (i32 (s : Int)), .int (i32 (tc : Int))] (176, zs Z, J, RP p0 p1 p0 35 p0 p5 p6 97) = some (none, (176, zs Z', J, RP p0 p1 p0 35 p0 p5 p6 97)) := by
  have hw := h.1.1
  have hp := h.1.2.1
  have hS := hw.1
  have fw := h_fewest_a (d := d + 3) (J := J) (p0 := p0) (p1 := p1) (p2 := p0) (p5 := p5) (p6 := p6) (p7 := 97) hp hw h.1.2.2.1 h.2.2 hs htc
  rw [hfew] at fw
  obtain ⟨Z', ⟨v1, v2, v3, v4⟩, e⟩ := up_inv (fun (k : Nat) (Z : Nat → Nat → Int) => den none (Mean (d + 5)) none tQ_X2_trace (25, [some (.ref 52), some (.int (i32 (s : Int))), some (.int (i32 (tc : Int))), some (.int (i32 (((tc + k) % qS m : Nat) : Int))), some (.int (i32 (k : Int)))], [], 176, zs Z, J, RP p0 p1 p0 35 p0 p5 p6 97)) n (fun k Z' => (∀ a : Nat, (a < 52 ∨ 94 < a) → Z' a = Z a) ∧ Z' 52 3 = (n : Int) ∧ (∀ j : Nat, j ≤ k → Z' 94 j = rwS m b n s (qtt m tc) j) ∧ (∀ j i : Nat, j < k → i < qS m → Z' (54 + j) i = rwG m b n s (qtt m tc) j i)) (fun k Z1 hk hv => by
    obtain ⟨v1, v2, v3, v4⟩ := hv
    have h1 : KL m b p0 Z1 J := KL_fr h (fun a ha => v1 a (by omega))
    have hmod : (tc + k) % qS m < qS m := Nat.mod_lt _ (by omega)
    obtain ⟨r1, r2⟩ := rw_sf hsf k (by omega)
    have hrl : rwS m b n s (qtt m tc) k < qN m := by omega
    have hon : onw m (sf m b (n - 1 - k)) (rwS m b n s (qtt m tc) k) (rwT m (qtt m tc) k) = true := by
      rw [show n - k = (n - 1 - k) + 1 by omega] at r1
      exact sf_onw r1
    obtain ⟨Z2, a1, a2, a3⟩ := h_takeStep (d := d) (p1 := p1) (p5 := p5) (p6 := p6) h1 (st := k) (n := n - 1 - k) (s := rwS m b n s (qtt m tc) k) (t := rwT m (qtt m tc) k) (tc := (tc + k) % qS m) (by omega) (by omega) hrl hmod (rwT_q hw htc k) (v3 k (Nat.le_refl _)) hon (fun h2 => row_min hw h2 hs hsf hmin k (by omega) (n - 1 - k) (by omega))
    have hstp : stp m b (n - 1 - k) (rwS m b n s (qtt m tc) k) (rwT m (qtt m tc) k) = rwS m b n s (qtt m tc) (k + 1) := rfl
    rw [hstp] at a3
    have z1 : Z2 p0 1 = (qS m : Int) := by rw [a1 _ (by omega), v1 _ (by omega)]; exact h.1.2.2.1.1.1
    have z523 : Z2 52 3 = (n : Int) := by rw [a1 _ (by omega)]; exact v2
    have sa := h_sideAfter (d := d + 4) (J := J) (Z := u2 Z2 94 (k + 1) ((rwS m b n s (qtt m tc) (k + 1) : Nat) : Int)) (p0 := p0) (p1 := p1) (p2 := p0) (p3 := 35) (p4 := p0) (p5 := p5) (p6 := p6) (p7 := 97) (h := p0) (by omega) hS.2 (by rw [u2_ne (by omega)]; exact z1) hmod
    rw [Nat.mod_add_mod, Nat.add_assoc] at sa
    refine ⟨u2 Z2 94 (k + 1) ((rwS m b n s (qtt m tc) (k + 1) : Nat) : Int), ⟨fun a ha => ?_, ?_, fun j hj => ?_, fun j i hj hi => ?_⟩, ?_⟩
    · rw [u2_ne (by omega), a1 _ (by omega)]
      exact v1 a ha
    · rw [u2_ne (by omega)]
      exact z523
    · by_cases cj : j = k + 1
      · rw [cj, u2s]
      · rw [u2f cj, a1 _ (by omega)]
        exact v3 j (by omega)
    · rw [u2_ne (by omega)]
      by_cases cj : j = k
      · rw [cj]
        exact a2 i hi
      · rw [a1 _ (by omega)]
        exact v4 j i (by omega) hi
    · have ek : i32 (n : Int) - i32 1 - i32 (k : Int) = i32 ((n - 1 - k : Nat) : Int) := by
        rw [i32_sub, i32_sub]
        congr 1
        omega
      have ek1 : ((k : Int) + 1).toNat = k + 1 := by omega
      show den none (Mean (d + 5)) none tQ_X2_trace (25, _, [], 176, zs Z1, J, _) = _
      rw [k_X2_trace_25]
      simp (disch := omega) only [k_X2_trace_34, k_X2_trace_58, k_X2_trace_59, k_X2_trace_70, zs_ap, v2, li_1, li_0, ek, i32_add, i32_le, i32_lt, i32_nat, ckn, if_neg, a3, pka_r, ek1, zs_u2, sa]
      rfl) (u2 (u2 Z 52 3 (n : Int)) 94 0 (s : Int)) ⟨fun a ha => by rw [u2_ne (by omega), u2_ne (by omega)], by rw [u2_ne (by omega), u2s], fun j hj => by
    rw [show j = 0 by omega, u2s]
    rfl, fun j i hj => by omega⟩
  refine ⟨Z', v1, ⟨v2, v3, v4⟩, ?_⟩
  have t0 : (0 : Int).toNat = 0 := rfl
  rw [e_X2_trace, k_X2_trace_0]
  simp (disch := omega) only [k_X2_trace_10, k_X2_trace_20, k_X2_trace_34, k_X2_trace_58, k_X2_trace_59, k_X2_trace_70, k_X2_trace_77, li_0, li_1, li_2, li_3, li_4, li_5, li_6, li_9, li_10, li_40, lm_1, lm_2, lm_3, lm_4, zs_ap, i32_add, i32_sub, i32_mul, i32_neg, i32_lt, i32_le, i32_eq, i32_nat, ckn, pka_r, pka_v, if_pos, if_neg, if_true, if_false, fw, t0, zs_u2]
  rw [show ((tc + 0) % qS m : Nat) = tc by rw [Nat.add_zero, Nat.mod_eq_of_lt htc]] at e
  refine Eq.trans e ?_
  show den none (Mean (d + 5)) none tQ_X2_trace (25, _, [], 176, zs Z', J, _) = _
  rw [k_X2_trace_25]
  simp (disch := omega) only [k_X2_trace_10, k_X2_trace_20, k_X2_trace_34, k_X2_trace_58, k_X2_trace_59, k_X2_trace_70, k_X2_trace_77, li_0, li_1, li_2, li_3, li_4, li_5, li_6, li_9, li_10, li_40, lm_1, lm_2, lm_3, lm_4, zs_ap, i32_add, i32_sub, i32_mul, i32_neg, i32_lt, i32_le, i32_eq, i32_nat, ckn, pka_r, pka_v, if_pos, if_neg, if_true, if_false, v2]
theorem h_find (h : KL m b p0 Z J) {s t : Int} (hs : -2147483648 ≤ s ∧ s < 2147483648) (ht : -2147483648 ≤ t ∧ t < 2147483648) : ∃ Z' : Nat → Nat → Int, (∀ a : Nat, (a < 52 ∨ 94 < a) → Z' a = Z a) ∧ (0 ≤ aFind m b s t → RC m b (aFind m b s t).toNat s.toNat (qtt m t.toNat) Z') ∧ (aFind m b s t < 0 → Z' = Z) ∧ Mean (d + 7) 118 [.ref 0, .int (i32 s), .int (i32 t)] (176, zs Z, J, RP p0 p1 p0 35 p0 p5 p6 97) = some (some (.int (i32 (aFind m b s t))), (176, zs Z', J, RP p0 p1 p0 35 p0 p5 p6 97)) := by
  have hw := h.1.1
  have hp := h.1.2.1
  have st := h_isStand (d := d + 4) (J := J) (p1 := p1) (p5 := p5) (p6 := p6) h.1 hs ht
  unfold aFind
  by_cases c : (0 ≤ s ∧ s < qN m) ∧ (0 ≤ t ∧ t < qS m)
  · rw [if_pos c]
    have fw := h_fewest_a (d := d + 4) (J := J) (p0 := p0) (p1 := p1) (p2 := p0) (p5 := p5) (p6 := p6) (p7 := 97) hp hw h.1.2.2.1 h.2.2 (s := s.toNat) (t := t.toNat) (by omega) (by omega)
    rw [show ((s.toNat : Nat) : Int) = s by omega, show ((t.toNat : Nat) : Int) = t by omega] at fw
    cases ca : anyN (fun n => sf m b n s.toNat (qtt m t.toNat)) 41
    · have ef : afew m b s.toNat (qtt m t.toNat) = -1 := by unfold afew; rw [ca]; rfl
      rw [ef] at fw ⊢
      refine ⟨Z, fun _ _ => rfl, fun q => by omega, fun _ => rfl, ?_⟩
      rw [e_X10_find, k_X10_find_0]
      simp (disch := omega) only [k_X10_find_6, k_X10_find_9, k_X10_find_12, k_X10_find_21, k_X10_find_27, k_X10_find_36, li_0, li_1, li_2, li_3, li_4, li_5, li_6, li_9, li_10, li_40, lm_1, lm_2, lm_3, lm_4, zs_ap, i32_add, i32_sub, i32_mul, i32_neg, i32_lt, i32_le, i32_eq, i32_nat, ckn, pka_r, pka_v, if_pos, if_neg, if_true, if_false, st, bI_t c, fw]
    · obtain ⟨f1, f2, f3⟩ := fstN_lt _ ca
      have ef : afew m b s.toNat (qtt m t.toNat) = ((fstN (fun n => sf m b n s.toNat (qtt m t.toNat)) 41 : Nat) : Int) := by unfold afew; rw [ca]; rfl
      have f2' : sf m b (fstN (fun n => sf m b n s.toNat (qtt m t.toNat)) 41) s.toNat (qtt m t.toNat) = true := f2
      have f3' : ∀ k : Nat, k < fstN (fun n => sf m b n s.toNat (qtt m t.toNat)) 41 → sf m b k s.toNat (qtt m t.toNat) = false := f3
      generalize fstN (fun n => sf m b n s.toNat (qtt m t.toNat)) 41 = n at *
      obtain ⟨Z', a1, a2, a3⟩ := h_trace (d := d) (p1 := p1) (p5 := p5) (p6 := p6) h (s := s.toNat) (tc := t.toNat) (n := n) (by omega) (by omega) (by omega) f2' f3' ef
      rw [show ((s.toNat : Nat) : Int) = s by omega, show ((t.toNat : Nat) : Int) = t by omega] at a3
      rw [ef] at fw ⊢
      refine ⟨Z', a1, fun _ => ?_, fun q => by omega, ?_⟩
      · rw [Int.toNat_natCast]
        exact a2
      · rw [e_X10_find, k_X10_find_0]
        simp (disch := omega) only [k_X10_find_6, k_X10_find_9, k_X10_find_12, k_X10_find_21, k_X10_find_27, k_X10_find_36, li_0, li_1, li_2, li_3, li_4, li_5, li_6, li_9, li_10, li_40, lm_1, lm_2, lm_3, lm_4, zs_ap, i32_add, i32_sub, i32_mul, i32_neg, i32_lt, i32_le, i32_eq, i32_nat, ckn, pka_r, pka_v, if_pos, if_neg, if_true, if_false, st, bI_t c, fw, a3]
  · rw [if_neg c]
    refine ⟨Z, fun _ _ => rfl, fun q => by omega, fun _ => rfl, ?_⟩
    rw [e_X10_find, k_X10_find_0]
    simp (disch := omega) only [k_X10_find_6, k_X10_find_9, k_X10_find_12, k_X10_find_21, k_X10_find_27, k_X10_find_36, li_0, li_1, li_2, li_3, li_4, li_5, li_6, li_9, li_10, li_40, lm_1, lm_2, lm_3, lm_4, zs_ap, i32_add, i32_sub, i32_mul, i32_neg, i32_lt, i32_le, i32_eq, i32_nat, ckn, pka_r, pka_v, if_pos, if_neg, if_true, if_false, st, bI_f c]
theorem h_row (h : KI m p0 Z) {k i : Int} (hk : -2147483648 ≤ k ∧ k < 2147483648) (hi : -2147483648 ≤ i ∧ i < 2147483648) (hn : -1 ≤ Z 52 3 ∧ Z 52 3 ≤ 40) : Mean (d + 2) 119 [.ref 0, .int (i32 k), .int (i32 i)] (176, zs Z, J, RP p0 p1 p0 35 p0 p5 p6 97) = some (some (.int (i32 (if (0 ≤ k ∧ k < Z 52 3) ∧ (0 ≤ i ∧ i < qS m) then Z (54 + k.toNat) i.toNat else -1))), (176, zs Z, J, RP p0 p1 p0 35 p0 p5 p6 97)) := by
  obtain ⟨hw, hp, hm, hks⟩ := h
  have hS := hw.1
  have a2 := h_hasSide (d := d) (J := J) (Z := Z) (p0 := p0) (p1 := p1) (p2 := p0) (p3 := 35) (p4 := p0) (p5 := p5) (p6 := p6) (p7 := 97) (h := p0) (by omega) hS.2 hm.1.1 hi
  have a1 : Mean (d + 1) 20 [.ref 52, .int (i32 k)] (176, zs Z, J, RP p0 p1 p0 35 p0 p5 p6 97) = some (some (.int (i32 (bI (0 ≤ k ∧ k < Z 52 3)))), (176, zs Z, J, RP p0 p1 p0 35 p0 p5 p6 97)) := by
    rw [e_X2_hasStep, k_X2_hasStep_0]
    by_cases c1 : 0 ≤ k
    · by_cases c2 : k < Z 52 3
      · rw [bI_t ⟨c1, c2⟩]
        simp (disch := omega) only [k_X2_hasStep_4, k_X2_hasStep_12, k_X2_hasStep_16, k_X2_hasStep_17, li_0, li_1, li_2, li_3, li_4, li_5, li_6, li_9, li_10, li_40, lm_1, lm_2, lm_3, lm_4, zs_ap, i32_add, i32_sub, i32_mul, i32_neg, i32_lt, i32_le, i32_eq, i32_nat, ckn, pka_r, pka_v, if_pos, if_neg, if_true, if_false, or_true]
      · rw [bI_f (fun q => c2 q.2)]
        simp (disch := omega) only [k_X2_hasStep_4, k_X2_hasStep_12, k_X2_hasStep_16, k_X2_hasStep_17, li_0, li_1, li_2, li_3, li_4, li_5, li_6, li_9, li_10, li_40, lm_1, lm_2, lm_3, lm_4, zs_ap, i32_add, i32_sub, i32_mul, i32_neg, i32_lt, i32_le, i32_eq, i32_nat, ckn, pka_r, pka_v, if_pos, if_neg, if_true, if_false, true_or]
    · rw [bI_f (fun q => c1 q.1)]
      simp (disch := omega) only [k_X2_hasStep_4, k_X2_hasStep_12, k_X2_hasStep_16, k_X2_hasStep_17, li_0, li_1, li_2, li_3, li_4, li_5, li_6, li_9, li_10, li_40, lm_1, lm_2, lm_3, lm_4, zs_ap, i32_add, i32_sub, i32_mul, i32_neg, i32_lt, i32_le, i32_eq, i32_nat, ckn, pka_r, pka_v, if_pos, if_neg, if_true, if_false, true_or]
  rw [e_X10_row, k_X10_row_0]
  by_cases c1 : 0 ≤ k ∧ k < Z 52 3
  · by_cases c2 : 0 ≤ i ∧ i < qS m
    · rw [if_pos (show (0 ≤ k ∧ k < Z 52 3) ∧ (0 ≤ i ∧ i < qS m) from ⟨c1, c2⟩)]
      obtain ⟨r1, r2⟩ := RPg (p0 := p0) (p1 := p1) (p2 := p0) (p3 := 35) (p4 := p0) (p5 := p5) (p6 := p6) (p7 := 97) (show k.toNat < 40 by omega)
      simp (disch := first | omega | assumption) only [k_X10_row_8, k_X10_row_11, k_X10_row_19, k_X10_row_22, k_X10_row_31, k_X10_row_33, k_X10_row_36, k_X10_row_37, li_0, li_1, li_2, li_3, li_4, li_5, li_6, li_9, li_10, li_40, lm_1, lm_2, lm_3, lm_4, zs_ap, i32_add, i32_sub, i32_mul, i32_neg, i32_lt, i32_le, i32_eq, i32_nat, ckn, pka_r, pka_v, if_pos, if_neg, if_true, if_false, a1, bI_t c1, a2, bI_t c2, r1, va_rf]
    · rw [if_neg (show ¬ ((0 ≤ k ∧ k < Z 52 3) ∧ (0 ≤ i ∧ i < qS m)) from fun q => c2 q.2)]
      simp (disch := omega) only [k_X10_row_8, k_X10_row_11, k_X10_row_19, k_X10_row_22, k_X10_row_31, k_X10_row_33, k_X10_row_36, k_X10_row_37, li_0, li_1, li_2, li_3, li_4, li_5, li_6, li_9, li_10, li_40, lm_1, lm_2, lm_3, lm_4, zs_ap, i32_add, i32_sub, i32_mul, i32_neg, i32_lt, i32_le, i32_eq, i32_nat, ckn, pka_r, pka_v, if_pos, if_neg, if_true, if_false, a1, bI_t c1, a2, bI_f c2]
  · rw [if_neg (show ¬ ((0 ≤ k ∧ k < Z 52 3) ∧ (0 ≤ i ∧ i < qS m)) from fun q => c1 q.1)]
    simp (disch := omega) only [k_X10_row_8, k_X10_row_11, k_X10_row_19, k_X10_row_22, k_X10_row_31, k_X10_row_33, k_X10_row_36, k_X10_row_37, li_0, li_1, li_2, li_3, li_4, li_5, li_6, li_9, li_10, li_40, lm_1, lm_2, lm_3, lm_4, zs_ap, i32_add, i32_sub, i32_mul, i32_neg, i32_lt, i32_le, i32_eq, i32_nat, ckn, pka_r, pka_v, if_pos, if_neg, if_true, if_false, a1, bI_f c1]
theorem h_along {k : Int} (hk : -2147483648 ≤ k ∧ k < 2147483648) (hn : -1 ≤ Z 52 3 ∧ Z 52 3 ≤ 40) : Mean (d + 2) 120 [.ref 0, .int (i32 k)] (176, zs Z, J, RP p0 p1 p0 35 p0 p5 p6 97) = some (some (.int (i32 (if 0 ≤ k ∧ k ≤ Z 52 3 then Z 94 k.toNat else -1))), (176, zs Z, J, RP p0 p1 p0 35 p0 p5 p6 97)) := by
  have a1 : Mean (d + 1) 21 [.ref 52, .int (i32 k)] (176, zs Z, J, RP p0 p1 p0 35 p0 p5 p6 97) = some (some (.int (i32 (bI (0 ≤ k ∧ k ≤ Z 52 3)))), (176, zs Z, J, RP p0 p1 p0 35 p0 p5 p6 97)) := by
    rw [e_X2_hasStop, k_X2_hasStop_0]
    by_cases c1 : 0 ≤ k
    · by_cases c2 : k ≤ Z 52 3
      · rw [bI_t ⟨c1, c2⟩]
        simp (disch := omega) only [k_X2_hasStop_4, k_X2_hasStop_12, k_X2_hasStop_16, k_X2_hasStop_17, li_0, li_1, li_2, li_3, li_4, li_5, li_6, li_9, li_10, li_40, lm_1, lm_2, lm_3, lm_4, zs_ap, i32_add, i32_sub, i32_mul, i32_neg, i32_lt, i32_le, i32_eq, i32_nat, ckn, pka_r, pka_v, if_pos, if_neg, if_true, if_false, or_true]
      · rw [bI_f (fun q => c2 q.2)]
        simp (disch := omega) only [k_X2_hasStop_4, k_X2_hasStop_12, k_X2_hasStop_16, k_X2_hasStop_17, li_0, li_1, li_2, li_3, li_4, li_5, li_6, li_9, li_10, li_40, lm_1, lm_2, lm_3, lm_4, zs_ap, i32_add, i32_sub, i32_mul, i32_neg, i32_lt, i32_le, i32_eq, i32_nat, ckn, pka_r, pka_v, if_pos, if_neg, if_true, if_false, true_or]
    · rw [bI_f (fun q => c1 q.1)]
      simp (disch := omega) only [k_X2_hasStop_4, k_X2_hasStop_12, k_X2_hasStop_16, k_X2_hasStop_17, li_0, li_1, li_2, li_3, li_4, li_5, li_6, li_9, li_10, li_40, lm_1, lm_2, lm_3, lm_4, zs_ap, i32_add, i32_sub, i32_mul, i32_neg, i32_lt, i32_le, i32_eq, i32_nat, ckn, pka_r, pka_v, if_pos, if_neg, if_true, if_false, true_or]
  rw [e_X10_along, k_X10_along_0]
  by_cases c1 : 0 ≤ k ∧ k ≤ Z 52 3
  · rw [if_pos c1]
    simp (disch := omega) only [k_X10_along_8, k_X10_along_11, k_X10_along_20, k_X10_along_23, k_X10_along_24, li_0, li_1, li_2, li_3, li_4, li_5, li_6, li_9, li_10, li_40, lm_1, lm_2, lm_3, lm_4, zs_ap, i32_add, i32_sub, i32_mul, i32_neg, i32_lt, i32_le, i32_eq, i32_nat, ckn, pka_r, pka_v, if_pos, if_neg, if_true, if_false, a1, bI_t c1]
  · rw [if_neg c1]
    simp (disch := omega) only [k_X10_along_8, k_X10_along_11, k_X10_along_20, k_X10_along_23, k_X10_along_24, li_0, li_1, li_2, li_3, li_4, li_5, li_6, li_9, li_10, li_40, lm_1, lm_2, lm_3, lm_4, zs_ap, i32_add, i32_sub, i32_mul, i32_neg, i32_lt, i32_le, i32_eq, i32_nat, ckn, pka_r, pka_v, if_pos, if_neg, if_true, if_false, a1, bI_f c1]
end
