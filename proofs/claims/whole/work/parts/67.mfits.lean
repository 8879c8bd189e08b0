/-! THE MODEL'S stopAsKnown, fears, fits, fit, ask -/
def sakF (Z : Nat → Nat → Int) (k : Nat) (kn : Int) : Nat → Int
  | 0 => Z 171 k
  | r + 1 => if Z 173 r = (k : Int) ∧ Z 175 r ≤ kn then Z 174 r else sakF Z k kn r
def frs (m : Mat) (i s : Nat) (n f : Int) : Bool := decide (qgoal m i - n * qday m < qstop m s i - f)
def dok (m : Mat) (Z : Nat → Nat → Int) (nr i : Nat) (kn : Int) (f k : Nat) : Bool := (!decide (Z 168 k = (i : Int)) || decide (kn < Z 172 k)) || (frs m i (Z 169 k).toNat (Z 170 k) f == decide (sakF Z k kn nr = 1))
def ftB (m : Mat) (Z : Nat → Nat → Int) (nd nr i : Nat) (kn : Int) (f : Nat) : Bool := !anyN (fun k => !dok m Z nr i kn f k) nd
theorem lj_n999' : (999 : Int32) = i32 999 := rfl
section
variable {d : Nat} {J : Nat → Nat → Int64} {Z : Nat → Nat → Int} {p0 p1 p2 p3 p4 p5 p6 p7 : Nat} {m : Mat} {nd nr : Nat}
theorem sakF_b (hv : DV m Z nd nr) {k : Nat} (hk : k < nd) {kn : Int} : ∀ r : Nat, r ≤ nr → 0 ≤ sakF Z k kn r ∧ sakF Z k kn r ≤ 1
  | 0, _ => (hv.2.1 k hk).2.2.2.1
  | r + 1, h => by
    have := sakF_b hv hk (kn := kn) r (by omega)
    unfold sakF
    split
    · exact (hv.2.2 r (by omega)).2.1
    · exact this
theorem g_stopAsKnown (hv : DV m Z nd nr) {k : Nat} (hk : k < nd) {kn : Int} (hkn : -2147483648 ≤ kn ∧ kn < 2147483648) : Mean (d + 1) 227 [.ref 140, .int (i32 (k : Int)), .int (i32 kn)] (176, zs Z, J, RP p0 p1 p2 p3 p4 p5 p6 p7) = some (some (.int (i32 (sakF Z k kn nr))), (176, zs Z, J, RP p0 p1 p2 p3 p4 p5 p6 p7)) := by
  obtain ⟨⟨v1, v2, v3, v4, v5⟩, w1, w2⟩ := id hv
  have key := up_eq (fun r => den none (Mean d) (some .int) tQ_X11_stopAsKnown (10, [some (.ref 140), some (.int (i32 (k : Int))), some (.int (i32 kn)), some (.int (i32 (sakF Z k kn r))), some (.int (i32 (r : Int)))], [], 176, zs Z, J, RP p0 p1 p2 p3 p4 p5 p6 p7)) nr (fun r hr => by
    have h1 := w2 r hr
    rw [k_X11_stopAsKnown_10]
    by_cases c1 : Z 173 r = (k : Int)
    · by_cases c2 : Z 175 r ≤ kn
      · have e : sakF Z k kn (r + 1) = Z 174 r := if_pos ⟨c1, c2⟩
        simp (disch := omega) only [k_X11_stopAsKnown_0, k_X11_stopAsKnown_6, k_X11_stopAsKnown_19, k_X11_stopAsKnown_26, k_X11_stopAsKnown_30, k_X11_stopAsKnown_37, k_X11_stopAsKnown_41, k_X11_stopAsKnown_48, k_X11_stopAsKnown_49, k_X11_stopAsKnown_55, li_0, li_1, li_2, li_3, li_4, li_5, li_6, li_9, li_10, li_40, lm_1, lm_2, lm_3, lm_4, zs_ap, i32_add, i32_sub, i32_mul, i32_neg, i32_lt, i32_le, i32_eq, i32_nat, ckn, pka_r, pka_v, if_pos, if_neg, if_true, if_false, v3, Int.toNat_natCast, e]
        rfl
      · have e : sakF Z k kn (r + 1) = sakF Z k kn r := if_neg (fun q => c2 q.2)
        simp (disch := omega) only [k_X11_stopAsKnown_0, k_X11_stopAsKnown_6, k_X11_stopAsKnown_19, k_X11_stopAsKnown_26, k_X11_stopAsKnown_30, k_X11_stopAsKnown_37, k_X11_stopAsKnown_41, k_X11_stopAsKnown_48, k_X11_stopAsKnown_49, k_X11_stopAsKnown_55, li_0, li_1, li_2, li_3, li_4, li_5, li_6, li_9, li_10, li_40, lm_1, lm_2, lm_3, lm_4, zs_ap, i32_add, i32_sub, i32_mul, i32_neg, i32_lt, i32_le, i32_eq, i32_nat, ckn, pka_r, pka_v, if_pos, if_neg, if_true, if_false, v3, Int.toNat_natCast, e]
        rfl
    · have e : sakF Z k kn (r + 1) = sakF Z k kn r := if_neg (fun q => c1 q.1)
      simp (disch := omega) only [k_X11_stopAsKnown_0, k_X11_stopAsKnown_6, k_X11_stopAsKnown_19, k_X11_stopAsKnown_26, k_X11_stopAsKnown_30, k_X11_stopAsKnown_37, k_X11_stopAsKnown_41, k_X11_stopAsKnown_48, k_X11_stopAsKnown_49, k_X11_stopAsKnown_55, li_0, li_1, li_2, li_3, li_4, li_5, li_6, li_9, li_10, li_40, lm_1, lm_2, lm_3, lm_4, zs_ap, i32_add, i32_sub, i32_mul, i32_neg, i32_lt, i32_le, i32_eq, i32_nat, ckn, pka_r, pka_v, if_pos, if_neg, if_true, if_false, v3, Int.toNat_natCast, e]
      rfl)
  rw [e_X11_stopAsKnown]
  simp (disch := omega) only [k_X11_stopAsKnown_0, k_X11_stopAsKnown_6, k_X11_stopAsKnown_19, k_X11_stopAsKnown_26, k_X11_stopAsKnown_30, k_X11_stopAsKnown_37, k_X11_stopAsKnown_41, k_X11_stopAsKnown_48, k_X11_stopAsKnown_49, k_X11_stopAsKnown_55, li_0, li_1, li_2, li_3, li_4, li_5, li_6, li_9, li_10, li_40, lm_1, lm_2, lm_3, lm_4, zs_ap, i32_add, i32_sub, i32_mul, i32_neg, i32_lt, i32_le, i32_eq, i32_nat, ckn, pka_r, pka_v, if_pos, if_neg, if_true, if_false, Int.toNat_natCast]
  refine Eq.trans key ?_
  rw [k_X11_stopAsKnown_10]
  simp (disch := omega) only [k_X11_stopAsKnown_0, k_X11_stopAsKnown_6, k_X11_stopAsKnown_19, k_X11_stopAsKnown_26, k_X11_stopAsKnown_30, k_X11_stopAsKnown_37, k_X11_stopAsKnown_41, k_X11_stopAsKnown_48, k_X11_stopAsKnown_49, k_X11_stopAsKnown_55, li_0, li_1, li_2, li_3, li_4, li_5, li_6, li_9, li_10, li_40, lm_1, lm_2, lm_3, lm_4, zs_ap, i32_add, i32_sub, i32_mul, i32_neg, i32_lt, i32_le, i32_eq, i32_nat, ckn, pka_r, pka_v, if_pos, if_neg, if_true, if_false, v3]
theorem g_fears (h : MI m Z) {i s : Nat} {n : Int} {f : Nat} (hi : i < qS m) (hs : s < qN m) (hn : 0 ≤ n ∧ n ≤ 40) (hf : f ≤ 40) : Mean (d + 2) 228 [.ref 140, .int (i32 (i : Int)), .int (i32 (s : Int)), .int (i32 n), .int (i32 (f : Int))] (176, zs Z, J, RP p0 p1 p2 p3 p4 p5 p6 p7) = some (some (.int (i32 (bB (frs m i s n f)))), (176, zs Z, J, RP p0 p1 p2 p3 p4 p5 p6 p7)) := by
  have h0 := MI_n h
  have h1 := h.2.1.1
  have hmd := h.1.2.2.2.2.2.1
  have b1 := qstop_b h.1 s hi
  have b2 := qgoal_b h.1 hi
  have z1 := h.2.2.2.2.2.2 s hs i hi
  have a7 : 0 ≤ n * (qday m : Int) := Int.mul_nonneg hn.1 (by omega)
  have a8 : n * (qday m : Int) ≤ 40 * 99 := Int.mul_le_mul hn.2 (by omega) (by omega) (by omega)
  rw [e_X11_fears]
  unfold frs
  by_cases c : qgoal m i - n * qday m < qstop m s i - f
  · rw [decide_eq_true c]
    simp (disch := omega) only [k_X11_fears_0, k_X11_fears_5, k_X11_fears_22, k_X11_fears_28, k_X11_fears_32, k_X11_fears_33, li_0, li_1, li_2, li_3, li_4, li_5, li_6, li_9, li_10, li_40, lm_1, lm_2, lm_3, lm_4, zs_ap, i32_add, i32_sub, i32_mul, i32_neg, i32_lt, i32_le, i32_eq, i32_nat, ckn, pka_r, pka_v, if_pos, if_neg, if_true, if_false, g_goalOf h, h1, show (3 * (s : Int) + (i : Int)).toNat = 3 * s + i by omega, z1, bBt, or_true]
  · rw [decide_eq_false c]
    simp (disch := omega) only [k_X11_fears_0, k_X11_fears_5, k_X11_fears_22, k_X11_fears_28, k_X11_fears_32, k_X11_fears_33, li_0, li_1, li_2, li_3, li_4, li_5, li_6, li_9, li_10, li_40, lm_1, lm_2, lm_3, lm_4, zs_ap, i32_add, i32_sub, i32_mul, i32_neg, i32_lt, i32_le, i32_eq, i32_nat, ckn, pka_r, pka_v, if_pos, if_neg, if_true, if_false, g_goalOf h, h1, show (3 * (s : Int) + (i : Int)).toNat = 3 * s + i by omega, z1, bBf, true_or]
theorem ft_in (h : MI m Z) (hv : DV m Z nd nr) {i f : Nat} (hi : i < qS m) (hf : f ≤ 40) {kn : Int} (hkn : 0 ≤ kn ∧ kn ≤ 999) (x3 : Int64) : ∃ x7 : Int32, den none (Mean (d + 2)) (some .long) tQ_X11_fits (18, [some (.ref 140), some (.int (i32 (i : Int))), some (.int (i32 kn)), some (.long x3), none, some (.int (i32 (f : Int))), some (.int (i32 1)), some (.int (i32 ((0 : Nat) : Int)))], [], 176, zs Z, J, RP p0 p1 p2 p3 p4 p5 p6 p7) = den none (Mean (d + 2)) (some .long) tQ_X11_fits (107, [some (.ref 140), some (.int (i32 (i : Int))), some (.int (i32 kn)), some (.long x3), none, some (.int (i32 (f : Int))), some (.int (i32 (bB (ftB m Z nd nr i kn f)))), some (.int x7)], [], 176, zs Z, J, RP p0 p1 p2 p3 p4 p5 p6 p7) := by
  have h0 := MI_n h
  obtain ⟨⟨v1, v2, v3, v4, v5⟩, w1, w2⟩ := id hv
  have ok : ∀ k : Nat, k < nd → den none (Mean (d + 2)) (some .long) tQ_X11_fits (18, [some (.ref 140), some (.int (i32 (i : Int))), some (.int (i32 kn)), some (.long x3), none, some (.int (i32 (f : Int))), some (.int (i32 1)), some (.int (i32 (k : Int)))], [], 176, zs Z, J, RP p0 p1 p2 p3 p4 p5 p6 p7) = den none (Mean (d + 2)) (some .long) tQ_X11_fits (18, [some (.ref 140), some (.int (i32 (i : Int))), some (.int (i32 kn)), some (.long x3), none, some (.int (i32 (f : Int))), some (.int (i32 (bB (dok m Z nr i kn f k)))), some (.int (i32 ((k + 1 : Nat) : Int)))], [], 176, zs Z, J, RP p0 p1 p2 p3 p4 p5 p6 p7) := fun k hk => by
    have hw := w1 k hk
    have hsb := sakF_b hv hk (kn := kn) nr (Nat.le_refl _)
    unfold dok
    rw [k_X11_fits_18]
    by_cases c1 : Z 168 k = (i : Int)
    · by_cases c2 : kn < Z 172 k
      · rw [decide_eq_true c2, Bool.or_true, Bool.true_or]
        simp (disch := omega) only [k_X11_fits_0, k_X11_fits_12, k_X11_fits_27, k_X11_fits_32, k_X11_fits_39, k_X11_fits_43, k_X11_fits_50, k_X11_fits_54, k_X11_fits_63, k_X11_fits_70, k_X11_fits_75, k_X11_fits_82, k_X11_fits_86, k_X11_fits_90, k_X11_fits_91, k_X11_fits_94, k_X11_fits_98, k_X11_fits_99, k_X11_fits_113, k_X11_fits_120, k_X11_fits_121, k_X11_fits_129, li_0, li_1, li_2, li_3, li_4, li_5, li_6, li_9, li_10, li_40, lm_1, lm_2, lm_3, lm_4, zs_ap, i32_add, i32_sub, i32_mul, i32_neg, i32_lt, i32_le, i32_eq, i32_nat, ckn, pka_r, pka_v, if_pos, if_neg, if_true, if_false, v1, Int.toNat_natCast, c1, bBt]
        rfl
      · rw [decide_eq_true c1, decide_eq_false c2, Bool.not_true, Bool.or_self, Bool.false_or]
        have hfr := g_fears (d := d) (J := J) (p0 := p0) (p1 := p1) (p2 := p2) (p3 := p3) (p4 := p4) (p5 := p5) (p6 := p6) (p7 := p7) h (i := i) (s := (Z 169 k).toNat) (n := Z 170 k) (f := f) hi (by omega) (by omega) hf
        rw [show (((Z 169 k).toNat : Nat) : Int) = Z 169 k by omega] at hfr
        by_cases c3 : sakF Z k kn nr = 1
        · rw [decide_eq_true c3]
          cases cf : frs m i (Z 169 k).toNat (Z 170 k) (f : Int)
          · rw [cf, bBf] at hfr
            simp (disch := omega) only [k_X11_fits_0, k_X11_fits_12, k_X11_fits_27, k_X11_fits_32, k_X11_fits_39, k_X11_fits_43, k_X11_fits_50, k_X11_fits_54, k_X11_fits_63, k_X11_fits_70, k_X11_fits_75, k_X11_fits_82, k_X11_fits_86, k_X11_fits_90, k_X11_fits_91, k_X11_fits_94, k_X11_fits_98, k_X11_fits_99, k_X11_fits_113, k_X11_fits_120, k_X11_fits_121, k_X11_fits_129, li_0, li_1, li_2, li_3, li_4, li_5, li_6, li_9, li_10, li_40, lm_1, lm_2, lm_3, lm_4, zs_ap, i32_add, i32_sub, i32_mul, i32_neg, i32_lt, i32_le, i32_eq, i32_nat, ckn, pka_r, pka_v, if_pos, if_neg, if_true, if_false, v1, Int.toNat_natCast, c1, hfr, g_stopAsKnown hv hk, c3]
            rfl
          · rw [cf, bBt] at hfr
            simp (disch := omega) only [k_X11_fits_0, k_X11_fits_12, k_X11_fits_27, k_X11_fits_32, k_X11_fits_39, k_X11_fits_43, k_X11_fits_50, k_X11_fits_54, k_X11_fits_63, k_X11_fits_70, k_X11_fits_75, k_X11_fits_82, k_X11_fits_86, k_X11_fits_90, k_X11_fits_91, k_X11_fits_94, k_X11_fits_98, k_X11_fits_99, k_X11_fits_113, k_X11_fits_120, k_X11_fits_121, k_X11_fits_129, li_0, li_1, li_2, li_3, li_4, li_5, li_6, li_9, li_10, li_40, lm_1, lm_2, lm_3, lm_4, zs_ap, i32_add, i32_sub, i32_mul, i32_neg, i32_lt, i32_le, i32_eq, i32_nat, ckn, pka_r, pka_v, if_pos, if_neg, if_true, if_false, v1, Int.toNat_natCast, c1, hfr, g_stopAsKnown hv hk, c3]
            rfl
        · rw [decide_eq_false c3]
          cases cf : frs m i (Z 169 k).toNat (Z 170 k) (f : Int)
          · rw [cf, bBf] at hfr
            simp (disch := omega) only [k_X11_fits_0, k_X11_fits_12, k_X11_fits_27, k_X11_fits_32, k_X11_fits_39, k_X11_fits_43, k_X11_fits_50, k_X11_fits_54, k_X11_fits_63, k_X11_fits_70, k_X11_fits_75, k_X11_fits_82, k_X11_fits_86, k_X11_fits_90, k_X11_fits_91, k_X11_fits_94, k_X11_fits_98, k_X11_fits_99, k_X11_fits_113, k_X11_fits_120, k_X11_fits_121, k_X11_fits_129, li_0, li_1, li_2, li_3, li_4, li_5, li_6, li_9, li_10, li_40, lm_1, lm_2, lm_3, lm_4, zs_ap, i32_add, i32_sub, i32_mul, i32_neg, i32_lt, i32_le, i32_eq, i32_nat, ckn, pka_r, pka_v, if_pos, if_neg, if_true, if_false, v1, Int.toNat_natCast, c1, hfr, g_stopAsKnown hv hk]
            rfl
          · rw [cf, bBt] at hfr
            simp (disch := omega) only [k_X11_fits_0, k_X11_fits_12, k_X11_fits_27, k_X11_fits_32, k_X11_fits_39, k_X11_fits_43, k_X11_fits_50, k_X11_fits_54, k_X11_fits_63, k_X11_fits_70, k_X11_fits_75, k_X11_fits_82, k_X11_fits_86, k_X11_fits_90, k_X11_fits_91, k_X11_fits_94, k_X11_fits_98, k_X11_fits_99, k_X11_fits_113, k_X11_fits_120, k_X11_fits_121, k_X11_fits_129, li_0, li_1, li_2, li_3, li_4, li_5, li_6, li_9, li_10, li_40, lm_1, lm_2, lm_3, lm_4, zs_ap, i32_add, i32_sub, i32_mul, i32_neg, i32_lt, i32_le, i32_eq, i32_nat, ckn, pka_r, pka_v, if_pos, if_neg, if_true, if_false, v1, Int.toNat_natCast, c1, hfr, g_stopAsKnown hv hk]
            rfl
    · rw [decide_eq_false c1, Bool.not_false, Bool.true_or, Bool.true_or]
      simp (disch := omega) only [k_X11_fits_0, k_X11_fits_12, k_X11_fits_27, k_X11_fits_32, k_X11_fits_39, k_X11_fits_43, k_X11_fits_50, k_X11_fits_54, k_X11_fits_63, k_X11_fits_70, k_X11_fits_75, k_X11_fits_82, k_X11_fits_86, k_X11_fits_90, k_X11_fits_91, k_X11_fits_94, k_X11_fits_98, k_X11_fits_99, k_X11_fits_113, k_X11_fits_120, k_X11_fits_121, k_X11_fits_129, li_0, li_1, li_2, li_3, li_4, li_5, li_6, li_9, li_10, li_40, lm_1, lm_2, lm_3, lm_4, zs_ap, i32_add, i32_sub, i32_mul, i32_neg, i32_lt, i32_le, i32_eq, i32_nat, ckn, pka_r, pka_v, if_pos, if_neg, if_true, if_false, v1, Int.toNat_natCast, bBt]
      rfl
  have key := srch (fun k => den none (Mean (d + 2)) (some .long) tQ_X11_fits (18, [some (.ref 140), some (.int (i32 (i : Int))), some (.int (i32 kn)), some (.long x3), none, some (.int (i32 (f : Int))), some (.int (i32 1)), some (.int (i32 (k : Int)))], [], 176, zs Z, J, RP p0 p1 p2 p3 p4 p5 p6 p7)) (fun k => !dok m Z nr i kn f k) nd (fun k => den none (Mean (d + 2)) (some .long) tQ_X11_fits (107, [some (.ref 140), some (.int (i32 (i : Int))), some (.int (i32 kn)), some (.long x3), none, some (.int (i32 (f : Int))), some (.int (i32 0)), some (.int (i32 ((k + 1 : Nat) : Int)))], [], 176, zs Z, J, RP p0 p1 p2 p3 p4 p5 p6 p7)) (fun k hk hp => ?_) (fun k hk hp => ?_)
  · unfold ftB
    cases ca : anyN (fun k => !dok m Z nr i kn f k) nd
    · rw [ca, if_neg Bool.false_ne_true] at key
      refine ⟨i32 (nd : Int), key.trans ?_⟩
      rw [k_X11_fits_18]
      simp (disch := omega) only [k_X11_fits_0, k_X11_fits_12, k_X11_fits_27, k_X11_fits_32, k_X11_fits_39, k_X11_fits_43, k_X11_fits_50, k_X11_fits_54, k_X11_fits_63, k_X11_fits_70, k_X11_fits_75, k_X11_fits_82, k_X11_fits_86, k_X11_fits_90, k_X11_fits_91, k_X11_fits_94, k_X11_fits_98, k_X11_fits_99, k_X11_fits_113, k_X11_fits_120, k_X11_fits_121, k_X11_fits_129, li_0, li_1, li_2, li_3, li_4, li_5, li_6, li_9, li_10, li_40, lm_1, lm_2, lm_3, lm_4, zs_ap, i32_add, i32_sub, i32_mul, i32_neg, i32_lt, i32_le, i32_eq, i32_nat, ckn, pka_r, pka_v, if_pos, if_neg, if_true, if_false, v1]
      rfl
    · rw [ca, if_pos rfl] at key
      exact ⟨_, key⟩
  · have hd : dok m Z nr i kn f k = false := by simpa using hp
    rw [ok k hk, hd, bBf, k_X11_fits_18]
    by_cases c : nd ≤ k + 1
    · simp (disch := omega) only [k_X11_fits_0, k_X11_fits_12, k_X11_fits_27, k_X11_fits_32, k_X11_fits_39, k_X11_fits_43, k_X11_fits_50, k_X11_fits_54, k_X11_fits_63, k_X11_fits_70, k_X11_fits_75, k_X11_fits_82, k_X11_fits_86, k_X11_fits_90, k_X11_fits_91, k_X11_fits_94, k_X11_fits_98, k_X11_fits_99, k_X11_fits_113, k_X11_fits_120, k_X11_fits_121, k_X11_fits_129, li_0, li_1, li_2, li_3, li_4, li_5, li_6, li_9, li_10, li_40, lm_1, lm_2, lm_3, lm_4, zs_ap, i32_add, i32_sub, i32_mul, i32_neg, i32_lt, i32_le, i32_eq, i32_nat, ckn, pka_r, pka_v, if_pos, if_neg, if_true, if_false, v1]
    · simp (disch := omega) only [k_X11_fits_0, k_X11_fits_12, k_X11_fits_27, k_X11_fits_32, k_X11_fits_39, k_X11_fits_43, k_X11_fits_50, k_X11_fits_54, k_X11_fits_63, k_X11_fits_70, k_X11_fits_75, k_X11_fits_82, k_X11_fits_86, k_X11_fits_90, k_X11_fits_91, k_X11_fits_94, k_X11_fits_98, k_X11_fits_99, k_X11_fits_113, k_X11_fits_120, k_X11_fits_121, k_X11_fits_129, li_0, li_1, li_2, li_3, li_4, li_5, li_6, li_9, li_10, li_40, lm_1, lm_2, lm_3, lm_4, zs_ap, i32_add, i32_sub, i32_mul, i32_neg, i32_lt, i32_le, i32_eq, i32_nat, ckn, pka_r, pka_v, if_pos, if_neg, if_true, if_false, v1]
  · have hd : dok m Z nr i kn f k = true := by simpa using hp
    rw [ok k hk, hd, bBt]
theorem g_fits (h : MI m Z) (hv : DV m Z nd nr) {i : Nat} (hi : i < qS m) {kn : Int} (hkn : 0 ≤ kn ∧ kn ≤ 999) : ∃ x : Int64, (∀ n : Nat, n < 64 → gb x n = (decide (n < 41) && ftB m Z nd nr i kn n)) ∧ Mean (d + 3) 229 [.ref 140, .int (i32 (i : Int)), .int (i32 kn)] (176, zs Z, J, RP p0 p1 p2 p3 p4 p5 p6 p7) = some (some (.long x), (176, zs Z, J, RP p0 p1 p2 p3 p4 p5 p6 p7)) := by
  obtain ⟨⟨x, o6, o7⟩, v, e⟩ := up_inv (fun (f : Nat) (y : Int64 × Option Value × Option Value) => den none (Mean (d + 2)) (some .long) tQ_X11_fits (5, [some (.ref 140), some (.int (i32 (i : Int))), some (.int (i32 kn)), some (.long y.1), none, some (.int (i32 (f : Int))), y.2.1, y.2.2], [], 176, zs Z, J, RP p0 p1 p2 p3 p4 p5 p6 p7)) 41 (fun f y => ∀ n : Nat, n < 64 → gb y.1 n = (decide (n < f) && ftB m Z nd nr i kn n)) (fun f y hf hv' => by
    obtain ⟨x3, o6, o7⟩ := y
    simp only at hv'
    obtain ⟨x7, e⟩ := ft_in (d := d) (J := J) (p0 := p0) (p1 := p1) (p2 := p2) (p3 := p3) (p4 := p4) (p5 := p5) (p6 := p6) (p7 := p7) h hv hi (f := f) (by omega) hkn x3
    have e1 : den none (Mean (d + 2)) (some .long) tQ_X11_fits (5, [some (.ref 140), some (.int (i32 (i : Int))), some (.int (i32 kn)), some (.long x3), none, some (.int (i32 (f : Int))), o6, o7], [], 176, zs Z, J, RP p0 p1 p2 p3 p4 p5 p6 p7) = den none (Mean (d + 2)) (some .long) tQ_X11_fits (107, [some (.ref 140), some (.int (i32 (i : Int))), some (.int (i32 kn)), some (.long x3), none, some (.int (i32 (f : Int))), some (.int (i32 (bB (ftB m Z nd nr i kn f)))), some (.int x7)], [], 176, zs Z, J, RP p0 p1 p2 p3 p4 p5 p6 p7) := by
      rw [k_X11_fits_5]
      simp (disch := omega) only [k_X11_fits_0, k_X11_fits_12, k_X11_fits_27, k_X11_fits_32, k_X11_fits_39, k_X11_fits_43, k_X11_fits_50, k_X11_fits_54, k_X11_fits_63, k_X11_fits_70, k_X11_fits_75, k_X11_fits_82, k_X11_fits_86, k_X11_fits_90, k_X11_fits_91, k_X11_fits_94, k_X11_fits_98, k_X11_fits_99, k_X11_fits_113, k_X11_fits_120, k_X11_fits_121, k_X11_fits_129, li_0, li_1, li_2, li_3, li_4, li_5, li_6, li_9, li_10, li_40, lm_1, lm_2, lm_3, lm_4, zs_ap, i32_add, i32_sub, i32_mul, i32_neg, i32_lt, i32_le, i32_eq, i32_nat, ckn, pka_r, pka_v, if_pos, if_neg, if_true, if_false]
      exact e
    cases cf : ftB m Z nd nr i kn f
    · refine ⟨(x3 ||| 0, some (.int (i32 0)), some (.int x7)), fun n hn => ?_, ?_⟩
      · simp only
        rw [gb_or, gb_0, Bool.or_false, hv' n hn]
        by_cases c : n = f
        · rw [c, cf, Bool.and_false, Bool.and_false]
        · congr 1
          exact decide_eq_decide.mpr (by omega)
      · simp only
        rw [e1, cf, bBf]
        simp (disch := omega) only [k_X11_fits_0, k_X11_fits_12, k_X11_fits_27, k_X11_fits_32, k_X11_fits_39, k_X11_fits_43, k_X11_fits_50, k_X11_fits_54, k_X11_fits_63, k_X11_fits_70, k_X11_fits_75, k_X11_fits_82, k_X11_fits_86, k_X11_fits_90, k_X11_fits_91, k_X11_fits_94, k_X11_fits_98, k_X11_fits_99, k_X11_fits_107, k_X11_fits_113, k_X11_fits_120, k_X11_fits_121, k_X11_fits_129, li_0, li_1, li_2, li_3, li_4, li_5, li_6, li_9, li_10, li_40, lm_1, lm_2, lm_3, lm_4, zs_ap, i32_add, i32_sub, i32_mul, i32_neg, i32_lt, i32_le, i32_eq, i32_nat, ckn, pka_r, pka_v, if_pos, if_neg, if_true, if_false]
        rfl
    · refine ⟨(x3 ||| ((1 : Int64) <<< ((i32 (f : Int)).toInt64 &&& 63)), some (.int (i32 1)), some (.int x7)), fun n hn => ?_, ?_⟩
      · simp only
        rw [gb_or, hv' n hn, gb_shl _ (by omega) hn]
        by_cases c : n = f
        · rw [c, cf, Nat.sub_self, gb_1 (by omega), decide_eq_true (Nat.le_refl f), decide_eq_true (show f < f + 1 by omega), decide_eq_true rfl, Bool.and_self, Bool.or_true]
        · by_cases c2 : f ≤ n
          · rw [gb_1 (by omega), decide_eq_false (show ¬ n - f = 0 by omega), Bool.and_false, Bool.or_false]
            congr 1
            exact decide_eq_decide.mpr (by omega)
          · rw [decide_eq_false c2, Bool.false_and, Bool.or_false]
            congr 1
            exact decide_eq_decide.mpr (by omega)
      · simp only
        rw [e1, cf, bBt]
        simp (disch := omega) only [k_X11_fits_0, k_X11_fits_12, k_X11_fits_27, k_X11_fits_32, k_X11_fits_39, k_X11_fits_43, k_X11_fits_50, k_X11_fits_54, k_X11_fits_63, k_X11_fits_70, k_X11_fits_75, k_X11_fits_82, k_X11_fits_86, k_X11_fits_90, k_X11_fits_91, k_X11_fits_94, k_X11_fits_98, k_X11_fits_99, k_X11_fits_107, k_X11_fits_113, k_X11_fits_120, k_X11_fits_121, k_X11_fits_129, li_0, li_1, li_2, li_3, li_4, li_5, li_6, li_9, li_10, li_40, lm_1, lm_2, lm_3, lm_4, zs_ap, i32_add, i32_sub, i32_mul, i32_neg, i32_lt, i32_le, i32_eq, i32_nat, ckn, pka_r, pka_v, if_pos, if_neg, if_true, if_false]
        rfl) (0, none, none) (fun n hn => by simp only; rw [gb_0, decide_eq_false (by omega), Bool.false_and])
  refine ⟨x, v, ?_⟩
  rw [e_X11_fits, k_X11_fits_0]
  refine e.trans ?_
  rw [k_X11_fits_5]
  simp (disch := omega) only [k_X11_fits_0, k_X11_fits_12, k_X11_fits_27, k_X11_fits_32, k_X11_fits_39, k_X11_fits_43, k_X11_fits_50, k_X11_fits_54, k_X11_fits_63, k_X11_fits_70, k_X11_fits_75, k_X11_fits_82, k_X11_fits_86, k_X11_fits_90, k_X11_fits_91, k_X11_fits_94, k_X11_fits_98, k_X11_fits_99, k_X11_fits_107, k_X11_fits_113, k_X11_fits_120, k_X11_fits_121, k_X11_fits_129, li_0, li_1, li_2, li_3, li_4, li_5, li_6, li_9, li_10, li_40, lm_1, lm_2, lm_3, lm_4, zs_ap, i32_add, i32_sub, i32_mul, i32_neg, i32_lt, i32_le, i32_eq, i32_nat, ckn, pka_r, pka_v, if_pos, if_neg, if_true, if_false]
theorem g_fit (h : MI m Z) (hv : DV m Z nd nr) {i kn : Int} (hi : -2147483648 ≤ i ∧ i < 2147483648) (hkn : -2147483648 ≤ kn ∧ kn < 2147483648) : ∃ x : Int64, ((0 ≤ i ∧ i < qS m) ∧ (0 ≤ kn ∧ kn ≤ 999) → ∀ n : Nat, n < 64 → gb x n = (decide (n < 41) && ftB m Z nd nr i.toNat kn n)) ∧ (¬ ((0 ≤ i ∧ i < qS m) ∧ (0 ≤ kn ∧ kn ≤ 999)) → x = -2) ∧ Mean (d + 4) 230 [.ref 140, .int (i32 i), .int (i32 kn)] (176, zs Z, J, RP p0 p1 p2 p3 p4 p5 p6 p7) = some (some (.long x), (176, zs Z, J, RP p0 p1 p2 p3 p4 p5 p6 p7)) := by
  have h0 := MI_n h
  by_cases c1 : 0 ≤ i ∧ i < qS m
  · by_cases c2 : 0 ≤ kn ∧ kn ≤ 999
    · obtain ⟨i', rfl⟩ : ∃ i' : Nat, i = i' := ⟨i.toNat, by omega⟩
      obtain ⟨x, e1, e2⟩ := g_fits (d := d) (J := J) (p0 := p0) (p1 := p1) (p2 := p2) (p3 := p3) (p4 := p4) (p5 := p5) (p6 := p6) (p7 := p7) h hv (i := i') (by omega) c2
      refine ⟨x, fun _ => e1, fun q => absurd ⟨c1, c2⟩ q, ?_⟩
      rw [e_X11_fit]
      simp (disch := omega) only [k_X11_fit_0, k_X11_fit_5, k_X11_fit_8, k_X11_fit_17, k_X11_fit_20, k_X11_fit_26, k_X11_fit_29, k_X11_fit_32, li_0, li_1, li_2, li_3, li_4, li_5, li_6, li_9, li_10, li_40, lm_1, lm_2, lm_3, lm_4, zs_ap, i32_add, i32_sub, i32_mul, i32_neg, i32_lt, i32_le, i32_eq, i32_nat, ckn, pka_r, pka_v, if_pos, if_neg, if_true, if_false, s_isSide, bI_t, bI_f, h0, i32_to64, lj_0, lj_n999, s_inZ, e2]
    · refine ⟨-2, fun q => absurd q.2 c2, fun _ => rfl, ?_⟩
      rw [e_X11_fit]
      simp (disch := omega) only [k_X11_fit_0, k_X11_fit_5, k_X11_fit_8, k_X11_fit_17, k_X11_fit_20, k_X11_fit_26, k_X11_fit_29, k_X11_fit_32, li_0, li_1, li_2, li_3, li_4, li_5, li_6, li_9, li_10, li_40, lm_1, lm_2, lm_3, lm_4, zs_ap, i32_add, i32_sub, i32_mul, i32_neg, i32_lt, i32_le, i32_eq, i32_nat, ckn, pka_r, pka_v, if_pos, if_neg, if_true, if_false, s_isSide, bI_t, bI_f, h0, i32_to64, lj_0, lj_n999, s_inZ]
  · refine ⟨-2, fun q => absurd q.1 c1, fun _ => rfl, ?_⟩
    rw [e_X11_fit]
    simp (disch := omega) only [k_X11_fit_0, k_X11_fit_5, k_X11_fit_8, k_X11_fit_17, k_X11_fit_20, k_X11_fit_26, k_X11_fit_29, k_X11_fit_32, li_0, li_1, li_2, li_3, li_4, li_5, li_6, li_9, li_10, li_40, lm_1, lm_2, lm_3, lm_4, zs_ap, i32_add, i32_sub, i32_mul, i32_neg, i32_lt, i32_le, i32_eq, i32_nat, ckn, pka_r, pka_v, if_pos, if_neg, if_true, if_false, s_isSide, bI_t, bI_f, h0, i32_to64, lj_0, lj_n999, s_inZ]
def askM (m : Mat) (p : Nat → Bool) (i s : Nat) (n : Int) : Int := if ((cntN (fun f => p f && frs m i s n f) 41 : Nat) : Int) < (cntN p 41 : Nat) - ((cntN (fun f => p f && frs m i s n f) 41 : Nat) : Int) then (cntN p 41 : Nat) - ((cntN (fun f => p f && frs m i s n f) 41 : Nat) : Int) else (cntN (fun f => p f && frs m i s n f) 41 : Nat)
def askF (m : Mat) (p : Nat → Bool) (i : Nat) (n : Int) : Nat → Int × Int
  | 0 => (-1, 0)
  | s + 1 => if askM m p i s n = (cntN p 41 : Nat) ∨ ((askF m p i n s).1 ≠ -1 ∧ (askF m p i n s).2 ≤ askM m p i s n) then askF m p i n s else ((s : Int), askM m p i s n)
def aAsk (m : Mat) (Z : Nat → Nat → Int) (nd nr : Nat) (i n : Int) : Int := if (0 ≤ i ∧ i < qS m) ∧ (1 ≤ n ∧ n ≤ 40) then (askF m (ftB m Z nd nr i.toNat 999) i.toNat n (qN m)).1 else -2
theorem cntN_mono {p q : Nat → Bool} (h : ∀ k : Nat, p k = true → q k = true) : ∀ n : Nat, cntN p n ≤ cntN q n
  | 0 => Nat.le_refl _
  | n + 1 => by
    have := cntN_mono h n
    unfold cntN
    cases hp : p n
    · rw [if_neg Bool.false_ne_true]
      omega
    · rw [if_pos rfl, h n hp, if_pos rfl]
      omega
theorem askM_b (m : Mat) (p : Nat → Bool) (i s : Nat) (n : Int) : 0 ≤ askM m p i s n ∧ askM m p i s n ≤ 41 := by
  have h1 := cntN_le p 41
  have h2 := cntN_le (fun f => p f && frs m i s n f) 41
  unfold askM
  split <;> omega
theorem askF_b (m : Mat) (p : Nat → Bool) (i : Nat) (n : Int) : ∀ s : Nat, (-1 ≤ (askF m p i n s).1 ∧ (askF m p i n s).1 ≤ s) ∧ (0 ≤ (askF m p i n s).2 ∧ (askF m p i n s).2 ≤ 41)
  | 0 => by unfold askF; simp only; omega
  | s + 1 => by
    have h1 := askF_b m p i n s
    have h2 := askM_b m p i s n
    unfold askF
    split
    · omega
    · simp only
      omega
theorem as_in (h : MI m Z) {i s : Nat} {n : Int} (hi : i < qS m) (hs : s < qN m) (hn : 1 ≤ n ∧ n ≤ 40) {p : Nat → Bool} {x : Int64} (hx : ∀ f : Nat, f < 41 → gb x f = p f) (x5 x6 : Int32) : den none (Mean (d + 3)) (some .int) tQ_X11_ask (59, [some (.ref 140), some (.int (i32 (i : Int))), some (.int (i32 n)), some (.long x), none, some (.int x5), some (.int x6), some (.int (i32 (s : Int))), some (.int (i32 0)), some (.int (i32 0)), some (.int (i32 ((0 : Nat) : Int)))], [], 176, zs Z, J, RP p0 p1 p2 p3 p4 p5 p6 p7) = den none (Mean (d + 3)) (some .int) tQ_X11_ask (112, [some (.ref 140), some (.int (i32 (i : Int))), some (.int (i32 n)), some (.long x), none, some (.int x5), some (.int x6), some (.int (i32 (s : Int))), some (.int (i32 ((cntN (fun f => p f && frs m i s n f) 41 : Nat) : Int))), some (.int (i32 ((cntN p 41 : Nat) : Int))), some (.int (i32 ((41 : Nat) : Int)))], [], 176, zs Z, J, RP p0 p1 p2 p3 p4 p5 p6 p7) := by
  refine Eq.trans (up_eq (fun f => den none (Mean (d + 3)) (some .int) tQ_X11_ask (59, [some (.ref 140), some (.int (i32 (i : Int))), some (.int (i32 n)), some (.long x), none, some (.int x5), some (.int x6), some (.int (i32 (s : Int))), some (.int (i32 ((cntN (fun f => p f && frs m i s n f) f : Nat) : Int))), some (.int (i32 ((cntN p f : Nat) : Int))), some (.int (i32 (f : Int)))], [], 176, zs Z, J, RP p0 p1 p2 p3 p4 p5 p6 p7)) 41 (fun f hf => ?_)) ?_
  · have h1 := cntN_le p f
    have h2 := cntN_le (fun f => p f && frs m i s n f) f
    rw [k_X11_ask_59]
    cases cp : p f
    · have e1 : cntN p (f + 1) = cntN p f := by simp [cntN, cp]
      have e2 : cntN (fun f => p f && frs m i s n f) (f + 1) = cntN (fun f => p f && frs m i s n f) f := by simp [cntN, cp]
      rw [e1, e2]
      simp (disch := omega) only [k_X11_ask_0, k_X11_ask_5, k_X11_ask_8, k_X11_ask_17, k_X11_ask_20, k_X11_ask_23, k_X11_ask_31, k_X11_ask_50, k_X11_ask_66, k_X11_ask_77, k_X11_ask_80, k_X11_ask_95, k_X11_ask_98, k_X11_ask_102, k_X11_ask_103, k_X11_ask_106, k_X11_ask_131, k_X11_ask_137, k_X11_ask_144, k_X11_ask_147, k_X11_ask_155, k_X11_ask_161, li_0, li_1, li_2, li_3, li_4, li_5, li_6, li_9, li_10, li_40, lm_1, lm_2, lm_3, lm_4, zs_ap, i32_add, i32_sub, i32_mul, i32_neg, i32_lt, i32_le, i32_eq, i32_nat, ckn, pka_r, pka_v, if_pos, if_neg, if_true, if_false, gb_sgn, hx f hf, cp, cond_false, cmp_z]
      rfl
    · have e1 : cntN p (f + 1) = cntN p f + 1 := by simp [cntN, cp]
      cases cr : frs m i s n f
      · have e2 : cntN (fun f => p f && frs m i s n f) (f + 1) = cntN (fun f => p f && frs m i s n f) f := by simp [cntN, cr]
        rw [e1, e2]
        simp (disch := omega) only [k_X11_ask_0, k_X11_ask_5, k_X11_ask_8, k_X11_ask_17, k_X11_ask_20, k_X11_ask_23, k_X11_ask_31, k_X11_ask_50, k_X11_ask_66, k_X11_ask_77, k_X11_ask_80, k_X11_ask_95, k_X11_ask_98, k_X11_ask_102, k_X11_ask_103, k_X11_ask_106, k_X11_ask_131, k_X11_ask_137, k_X11_ask_144, k_X11_ask_147, k_X11_ask_155, k_X11_ask_161, li_0, li_1, li_2, li_3, li_4, li_5, li_6, li_9, li_10, li_40, lm_1, lm_2, lm_3, lm_4, zs_ap, i32_add, i32_sub, i32_mul, i32_neg, i32_lt, i32_le, i32_eq, i32_nat, ckn, pka_r, pka_v, if_pos, if_neg, if_true, if_false, gb_sgn, hx f hf, cp, cond_true, cmp_z, show ((1 : Int64) = 0) = False from by decide, g_fears h hi hs, cr, bBf, Int.add_zero]
        rfl
      · have e2 : cntN (fun f => p f && frs m i s n f) (f + 1) = cntN (fun f => p f && frs m i s n f) f + 1 := by simp [cntN, cr, cp]
        rw [e1, e2]
        simp (disch := omega) only [k_X11_ask_0, k_X11_ask_5, k_X11_ask_8, k_X11_ask_17, k_X11_ask_20, k_X11_ask_23, k_X11_ask_31, k_X11_ask_50, k_X11_ask_66, k_X11_ask_77, k_X11_ask_80, k_X11_ask_95, k_X11_ask_98, k_X11_ask_102, k_X11_ask_103, k_X11_ask_106, k_X11_ask_131, k_X11_ask_137, k_X11_ask_144, k_X11_ask_147, k_X11_ask_155, k_X11_ask_161, li_0, li_1, li_2, li_3, li_4, li_5, li_6, li_9, li_10, li_40, lm_1, lm_2, lm_3, lm_4, zs_ap, i32_add, i32_sub, i32_mul, i32_neg, i32_lt, i32_le, i32_eq, i32_nat, ckn, pka_r, pka_v, if_pos, if_neg, if_true, if_false, gb_sgn, hx f hf, cp, cond_true, cmp_z, show ((1 : Int64) = 0) = False from by decide, g_fears h hi hs, cr, bBt]
        rfl
  · rw [k_X11_ask_59]
    simp (disch := omega) only [k_X11_ask_0, k_X11_ask_5, k_X11_ask_8, k_X11_ask_17, k_X11_ask_20, k_X11_ask_23, k_X11_ask_31, k_X11_ask_50, k_X11_ask_66, k_X11_ask_77, k_X11_ask_80, k_X11_ask_95, k_X11_ask_98, k_X11_ask_102, k_X11_ask_103, k_X11_ask_106, k_X11_ask_131, k_X11_ask_137, k_X11_ask_144, k_X11_ask_147, k_X11_ask_155, k_X11_ask_161, li_0, li_1, li_2, li_3, li_4, li_5, li_6, li_9, li_10, li_40, lm_1, lm_2, lm_3, lm_4, zs_ap, i32_add, i32_sub, i32_mul, i32_neg, i32_lt, i32_le, i32_eq, i32_nat, ckn, pka_r, pka_v, if_pos, if_neg, if_true, if_false]
theorem g_ask (h : MI m Z) (hv : DV m Z nd nr) {i n : Int} (hi : -2147483648 ≤ i ∧ i < 2147483648) (hn : -2147483648 ≤ n ∧ n < 2147483648) : Mean (d + 4) 231 [.ref 140, .int (i32 i), .int (i32 n)] (176, zs Z, J, RP p0 p1 p2 p3 p4 p5 p6 p7) = some (some (.int (i32 (aAsk m Z nd nr i n))), (176, zs Z, J, RP p0 p1 p2 p3 p4 p5 p6 p7)) := by
  have h0 := MI_n h
  unfold aAsk
  by_cases c1 : 0 ≤ i ∧ i < qS m
  · by_cases c2 : 1 ≤ n ∧ n ≤ 40
    · obtain ⟨i', rfl⟩ : ∃ i' : Nat, i = i' := ⟨i.toNat, by omega⟩
      obtain ⟨x, e1, e2⟩ := g_fits (d := d) (J := J) (p0 := p0) (p1 := p1) (p2 := p2) (p3 := p3) (p4 := p4) (p5 := p5) (p6 := p6) (p7 := p7) h hv (i := i') (by omega) (kn := 999) (by omega)
      rw [if_pos ⟨c1, c2⟩, Int.toNat_natCast, e_X11_ask]
      generalize hp : ftB m Z nd nr i' 999 = p at *
      have hx : ∀ f : Nat, f < 41 → gb x f = p f := fun f hf => by rw [e1 f (by omega), decide_eq_true hf, Bool.true_and]
      have hall := cntN_le p 41
      obtain ⟨⟨o8, o9, o10⟩, _, e⟩ := up_inv (fun (s : Nat) (y : Option Value × Option Value × Option Value) => den none (Mean (d + 3)) (some .int) tQ_X11_ask (41, [some (.ref 140), some (.int (i32 (i' : Int))), some (.int (i32 n)), some (.long x), none, some (.int (i32 (askF m p i' n s).1)), some (.int (i32 (askF m p i' n s).2)), some (.int (i32 (s : Int))), y.1, y.2.1, y.2.2], [], 176, zs Z, J, RP p0 p1 p2 p3 p4 p5 p6 p7)) (qN m) (fun _ _ => True) (fun s y hs _ => by
        have hb := askF_b m p i' n s
        have hb2 := askM_b m p i' s n
        have hst := cntN_le (fun f => p f && frs m i' s n f) 41
        have e3 : den none (Mean (d + 3)) (some .int) tQ_X11_ask (41, [some (.ref 140), some (.int (i32 (i' : Int))), some (.int (i32 n)), some (.long x), none, some (.int (i32 (askF m p i' n s).1)), some (.int (i32 (askF m p i' n s).2)), some (.int (i32 (s : Int))), y.1, y.2.1, y.2.2], [], 176, zs Z, J, RP p0 p1 p2 p3 p4 p5 p6 p7) = den none (Mean (d + 3)) (some .int) tQ_X11_ask (112, [some (.ref 140), some (.int (i32 (i' : Int))), some (.int (i32 n)), some (.long x), none, some (.int (i32 (askF m p i' n s).1)), some (.int (i32 (askF m p i' n s).2)), some (.int (i32 (s : Int))), some (.int (i32 ((cntN (fun f => p f && frs m i' s n f) 41 : Nat) : Int))), some (.int (i32 ((cntN p 41 : Nat) : Int))), some (.int (i32 ((41 : Nat) : Int)))], [], 176, zs Z, J, RP p0 p1 p2 p3 p4 p5 p6 p7) := by
          rw [k_X11_ask_41]
          simp (disch := omega) only [k_X11_ask_0, k_X11_ask_5, k_X11_ask_8, k_X11_ask_17, k_X11_ask_20, k_X11_ask_23, k_X11_ask_31, k_X11_ask_50, k_X11_ask_66, k_X11_ask_77, k_X11_ask_80, k_X11_ask_95, k_X11_ask_98, k_X11_ask_102, k_X11_ask_103, k_X11_ask_106, k_X11_ask_131, k_X11_ask_137, k_X11_ask_144, k_X11_ask_147, k_X11_ask_155, k_X11_ask_161, li_0, li_1, li_2, li_3, li_4, li_5, li_6, li_9, li_10, li_40, lm_1, lm_2, lm_3, lm_4, zs_ap, i32_add, i32_sub, i32_mul, i32_neg, i32_lt, i32_le, i32_eq, i32_nat, ckn, pka_r, pka_v, if_pos, if_neg, if_true, if_false, h0]
          exact as_in h (by omega) hs c2 hx _ _
        refine ⟨(some (.int (i32 ((cntN (fun f => p f && frs m i' s n f) 41 : Nat) : Int))), some (.int (i32 ((cntN p 41 : Nat) : Int))), some (.int (i32 (askM m p i' s n)))), trivial, e3.trans ?_⟩
        have em : (if i32 ((cntN (fun f => p f && frs m i' s n f) 41 : Nat) : Int) < i32 (((cntN p 41 : Nat) : Int) - ((cntN (fun f => p f && frs m i' s n f) 41 : Nat) : Int)) then i32 (((cntN p 41 : Nat) : Int) - ((cntN (fun f => p f && frs m i' s n f) 41 : Nat) : Int)) else i32 ((cntN (fun f => p f && frs m i' s n f) 41 : Nat) : Int)) = i32 (askM m p i' s n) := by
          simp (disch := omega) only [i32_lt]
          unfold askM
          split <;> rfl
        rw [k_X11_ask_112, i32_sub, em]
        by_cases c3 : askM m p i' s n = (cntN p 41 : Nat) ∨ ((askF m p i' n s).1 ≠ -1 ∧ (askF m p i' n s).2 ≤ askM m p i' s n)
        · have eg : askF m p i' n (s + 1) = askF m p i' n s := if_pos c3
          rw [eg]
          by_cases c4 : askM m p i' s n = (cntN p 41 : Nat)
          · simp (disch := omega) only [k_X11_ask_0, k_X11_ask_5, k_X11_ask_8, k_X11_ask_17, k_X11_ask_20, k_X11_ask_23, k_X11_ask_31, k_X11_ask_50, k_X11_ask_66, k_X11_ask_77, k_X11_ask_80, k_X11_ask_95, k_X11_ask_98, k_X11_ask_102, k_X11_ask_103, k_X11_ask_106, k_X11_ask_112, k_X11_ask_131, k_X11_ask_137, k_X11_ask_144, k_X11_ask_147, k_X11_ask_155, k_X11_ask_161, li_0, li_1, li_2, li_3, li_4, li_5, li_6, li_9, li_10, li_40, lm_1, lm_2, lm_3, lm_4, zs_ap, i32_add, i32_sub, i32_mul, i32_neg, i32_lt, i32_le, i32_eq, i32_nat, ckn, pka_r, pka_v, if_pos, if_neg, if_true, if_false]
            rfl
          · have c5 : (askF m p i' n s).1 ≠ -1 ∧ (askF m p i' n s).2 ≤ askM m p i' s n := by omega
            simp (disch := omega) only [k_X11_ask_0, k_X11_ask_5, k_X11_ask_8, k_X11_ask_17, k_X11_ask_20, k_X11_ask_23, k_X11_ask_31, k_X11_ask_50, k_X11_ask_66, k_X11_ask_77, k_X11_ask_80, k_X11_ask_95, k_X11_ask_98, k_X11_ask_102, k_X11_ask_103, k_X11_ask_106, k_X11_ask_112, k_X11_ask_131, k_X11_ask_137, k_X11_ask_144, k_X11_ask_147, k_X11_ask_155, k_X11_ask_161, li_0, li_1, li_2, li_3, li_4, li_5, li_6, li_9, li_10, li_40, lm_1, lm_2, lm_3, lm_4, zs_ap, i32_add, i32_sub, i32_mul, i32_neg, i32_lt, i32_le, i32_eq, i32_nat, ckn, pka_r, pka_v, if_pos, if_neg, if_true, if_false]
            rfl
        · have eg : askF m p i' n (s + 1) = ((s : Int), askM m p i' s n) := if_neg c3
          rw [eg]
          by_cases c5 : (askF m p i' n s).1 = -1
          · simp (disch := omega) only [k_X11_ask_0, k_X11_ask_5, k_X11_ask_8, k_X11_ask_17, k_X11_ask_20, k_X11_ask_23, k_X11_ask_31, k_X11_ask_50, k_X11_ask_66, k_X11_ask_77, k_X11_ask_80, k_X11_ask_95, k_X11_ask_98, k_X11_ask_102, k_X11_ask_103, k_X11_ask_106, k_X11_ask_112, k_X11_ask_131, k_X11_ask_137, k_X11_ask_144, k_X11_ask_147, k_X11_ask_155, k_X11_ask_161, li_0, li_1, li_2, li_3, li_4, li_5, li_6, li_9, li_10, li_40, lm_1, lm_2, lm_3, lm_4, zs_ap, i32_add, i32_sub, i32_mul, i32_neg, i32_lt, i32_le, i32_eq, i32_nat, ckn, pka_r, pka_v, if_pos, if_neg, if_true, if_false]
            rfl
          · have c6 : askM m p i' s n < (askF m p i' n s).2 := by omega
            simp (disch := omega) only [k_X11_ask_0, k_X11_ask_5, k_X11_ask_8, k_X11_ask_17, k_X11_ask_20, k_X11_ask_23, k_X11_ask_31, k_X11_ask_50, k_X11_ask_66, k_X11_ask_77, k_X11_ask_80, k_X11_ask_95, k_X11_ask_98, k_X11_ask_102, k_X11_ask_103, k_X11_ask_106, k_X11_ask_112, k_X11_ask_131, k_X11_ask_137, k_X11_ask_144, k_X11_ask_147, k_X11_ask_155, k_X11_ask_161, li_0, li_1, li_2, li_3, li_4, li_5, li_6, li_9, li_10, li_40, lm_1, lm_2, lm_3, lm_4, zs_ap, i32_add, i32_sub, i32_mul, i32_neg, i32_lt, i32_le, i32_eq, i32_nat, ckn, pka_r, pka_v, if_pos, if_neg, if_true, if_false]
            rfl) (none, none, none) trivial
      simp (disch := omega) only [k_X11_ask_0, k_X11_ask_5, k_X11_ask_8, k_X11_ask_17, k_X11_ask_20, k_X11_ask_23, k_X11_ask_31, k_X11_ask_50, k_X11_ask_66, k_X11_ask_77, k_X11_ask_80, k_X11_ask_95, k_X11_ask_98, k_X11_ask_102, k_X11_ask_103, k_X11_ask_106, k_X11_ask_112, k_X11_ask_131, k_X11_ask_137, k_X11_ask_144, k_X11_ask_147, k_X11_ask_155, k_X11_ask_161, li_0, li_1, li_2, li_3, li_4, li_5, li_6, li_9, li_10, li_40, lm_1, lm_2, lm_3, lm_4, zs_ap, i32_add, i32_sub, i32_mul, i32_neg, i32_lt, i32_le, i32_eq, i32_nat, ckn, pka_r, pka_v, if_pos, if_neg, if_true, if_false, s_isSide, bI_t, bI_f, h0, i32_to64, lj_1, lj_n40, s_inZ, lj_n999', e2]
      refine Eq.trans e ?_
      rw [k_X11_ask_41]
      simp (disch := omega) only [k_X11_ask_0, k_X11_ask_5, k_X11_ask_8, k_X11_ask_17, k_X11_ask_20, k_X11_ask_23, k_X11_ask_31, k_X11_ask_50, k_X11_ask_66, k_X11_ask_77, k_X11_ask_80, k_X11_ask_95, k_X11_ask_98, k_X11_ask_102, k_X11_ask_103, k_X11_ask_106, k_X11_ask_112, k_X11_ask_131, k_X11_ask_137, k_X11_ask_144, k_X11_ask_147, k_X11_ask_155, k_X11_ask_161, li_0, li_1, li_2, li_3, li_4, li_5, li_6, li_9, li_10, li_40, lm_1, lm_2, lm_3, lm_4, zs_ap, i32_add, i32_sub, i32_mul, i32_neg, i32_lt, i32_le, i32_eq, i32_nat, ckn, pka_r, pka_v, if_pos, if_neg, if_true, if_false, h0]
    · rw [if_neg (fun q => c2 q.2), e_X11_ask]
      simp (disch := omega) only [k_X11_ask_0, k_X11_ask_5, k_X11_ask_8, k_X11_ask_17, k_X11_ask_20, k_X11_ask_31, k_X11_ask_50, k_X11_ask_66, k_X11_ask_77, k_X11_ask_80, k_X11_ask_95, k_X11_ask_98, k_X11_ask_102, k_X11_ask_103, k_X11_ask_106, k_X11_ask_112, k_X11_ask_131, k_X11_ask_137, k_X11_ask_144, k_X11_ask_147, k_X11_ask_155, k_X11_ask_161, li_0, li_1, li_2, li_3, li_4, li_5, li_6, li_9, li_10, li_40, lm_1, lm_2, lm_3, lm_4, zs_ap, i32_add, i32_sub, i32_mul, i32_neg, i32_lt, i32_le, i32_eq, i32_nat, ckn, pka_r, pka_v, if_pos, if_neg, if_true, if_false, s_isSide, bI_t, bI_f, h0, i32_to64, lj_1, lj_n40, s_inZ]
  · rw [if_neg (fun q => c1 q.1), e_X11_ask]
    simp (disch := omega) only [k_X11_ask_0, k_X11_ask_5, k_X11_ask_8, k_X11_ask_17, k_X11_ask_20, k_X11_ask_31, k_X11_ask_50, k_X11_ask_66, k_X11_ask_77, k_X11_ask_80, k_X11_ask_95, k_X11_ask_98, k_X11_ask_102, k_X11_ask_103, k_X11_ask_106, k_X11_ask_112, k_X11_ask_131, k_X11_ask_137, k_X11_ask_144, k_X11_ask_147, k_X11_ask_155, k_X11_ask_161, li_0, li_1, li_2, li_3, li_4, li_5, li_6, li_9, li_10, li_40, lm_1, lm_2, lm_3, lm_4, zs_ap, i32_add, i32_sub, i32_mul, i32_neg, i32_lt, i32_le, i32_eq, i32_nat, ckn, pka_r, pka_v, if_pos, if_neg, if_true, if_false, s_isSide, bI_t, bI_f, h0, i32_to64, lj_1, lj_n40, s_inZ]
end
