/-! THE MODEL'S again, great -/
def bAg (m : Mat) (t : Int) : Nat → Int := bpl m (fun i => if i < qS m then (qbre m i * t).tdiv 100 - qbre m i else 0)
def aAgain (m : Mat) (s t w : Int) : Int := if ((0 ≤ s ∧ s < qN m) ∧ (0 ≤ t ∧ t < qS m)) ∧ (0 ≤ w ∧ w ≤ 100) then afew m (bAg m w) s.toNat (qtt m t.toNat) else -2
def gmany (m : Mat) (k : Nat) : Nat := if qund m k = 0 then 1 else qcut m k - qkept m k
theorem gmany_ok {m : Mat} (hw : wf m) {k : Nat} (hk : k < qP m) : qmay m (qbeg m) k (gmany m k) = true ∧ 1 ≤ gmany m k ∧ gmany m k ≤ 9 := by
  have h1 := hw.2.2.1 k hk
  have h2 := hw.2.2.2.2.2.1
  unfold qmay gmany
  rw [has_beg hk]
  by_cases c : qund m k = 0
  · rw [if_pos c, if_pos c]
    exact ⟨decide_eq_true (by omega), by omega⟩
  · rw [if_neg c, if_neg c]
    exact ⟨decide_eq_true (by omega), by omega⟩
def gto (m : Mat) (k : Nat) : Nat := qbeg m - gmany m k * qpl m k
def gls (m : Mat) (k : Nat) : Nat → Int
  | 0 => -100000
  | i + 1 => if i = qown m k then gls m k i else if gls m k i < qstop m (gto m k) i - qstop m (qbeg m) i then qstop m (gto m k) i - qstop m (qbeg m) i else gls m k i
def ggr (m : Mat) : Nat → Int × Int
  | 0 => (-1, -100000)
  | k + 1 => if (ggr m k).1 = -1 ∨ (ggr m k).2 < gls m k (qS m) then ((k : Int), gls m k (qS m)) else ggr m k
def aGreat (m : Mat) (w : Int) : Int := if 0 ≤ w ∧ w ≤ 1 then (if w = 0 then (ggr m (qP m)).1 else (ggr m (qP m)).2) else -2
theorem gls_b {m : Mat} (hw : wf m) {k : Nat} : ∀ i : Nat, i ≤ qS m → -100000 ≤ gls m k i ∧ gls m k i ≤ 200000
  | 0, _ => by unfold gls; omega
  | i + 1, h => by
    have := gls_b hw (k := k) i (by omega)
    have b1 := qstop_b hw (s := gto m k) (i := i) (by omega)
    have b2 := qstop_b hw (s := qbeg m) (i := i) (by omega)
    unfold gls
    split
    · exact this
    · split
      · omega
      · exact this
theorem ggr_b {m : Mat} (hw : wf m) : ∀ k : Nat, k ≤ qP m → (-1 ≤ (ggr m k).1 ∧ (ggr m k).1 ≤ 6) ∧ (-100000 ≤ (ggr m k).2 ∧ (ggr m k).2 ≤ 200000)
  | 0, _ => by unfold ggr; simp only; omega
  | k + 1, h => by
    have := ggr_b hw k (by omega)
    have h1 := gls_b hw (k := k) (qS m) (Nat.le_refl _)
    have h2 := hw.2.1
    unfold ggr
    split
    · simp only
      omega
    · exact this
section
variable {d : Nat} {J : Nat → Nat → Int64} {Z : Nat → Nat → Int} {p0 p1 p2 p3 p4 p5 p6 p7 : Nat} {m : Mat} {b : Nat → Int}
theorem g_again (h : MB m Z) {s t w : Int} (hs : -2147483648 ≤ s ∧ s < 2147483648) (ht : -2147483648 ≤ t ∧ t < 2147483648) (hw : -2147483648 ≤ w ∧ w < 2147483648) : ∃ J' : Nat → Nat → Int64, (∀ a : Nat, a ≠ 162 → a ≠ 163 → J' a = J a) ∧ Mean (d + 10) 219 [.ref 140, .int (i32 s), .int (i32 t), .int (i32 w)] (176, zs Z, J, RP p0 p1 p2 p3 p4 p5 p6 p7) = some (some (.int (i32 (aAgain m s t w))), (176, zs Z, J', RP p0 p1 p2 p3 p4 p5 p6 p7)) := by
  have h0 := MI_n h.1
  by_cases c1 : 0 ≤ s ∧ s < qN m
  · by_cases c2 : 0 ≤ t ∧ t < qS m
    · by_cases c3 : 0 ≤ w ∧ w ≤ 100
      · obtain ⟨s', rfl⟩ : ∃ s' : Nat, s = s' := ⟨s.toNat, by omega⟩
        obtain ⟨t', rfl⟩ : ∃ t' : Nat, t = t' := ⟨t.toNat, by omega⟩
        have hb : ∀ i : Nat, i < qS m → (0 ≤ qbre m i ∧ qbre m i ≤ 999) ∧ (0 ≤ qbre m i * w ∧ qbre m i * w ≤ 99900) ∧ (-99900 ≤ (qbre m i * w).tdiv 100 ∧ (qbre m i * w).tdiv 100 ≤ 99900) := fun i hi => by
          have q1 := (h.1.1.2.2.2.2.1 i (by omega)).2
          have q2 : 0 ≤ qbre m i * w := Int.mul_nonneg q1.1 c3.1
          have q3 : qbre m i * w ≤ 999 * 100 := Int.mul_le_mul q1.2 c3.2 c3.1 (by omega)
          exact ⟨q1, by omega, tdiv_b (by omega) (by omega) (by omega)⟩
        have hM := ex_MI (e := fun i => (qbre m i * w).tdiv 100 - qbre m i) (n := qS m) h.1
        have hX := ex_MX (n := qS m) (e := fun i => (qbre m i * w).tdiv 100 - qbre m i) h (fun i hi => by have := hb i hi; omega)
        obtain ⟨J', h1, h2, h3⟩ := g_work (d := d) (J := J) (p0 := p0) (p1 := p1) (p2 := p2) (p3 := p3) (p4 := p4) (p5 := p5) (p6 := p6) (p7 := p7) hM hX
        refine ⟨J', h1, ?_⟩
        have h4 := g_safeAt (d := d + 7) (J := J') (p0 := p0) (p1 := p1) (p2 := p2) (p3 := p3) (p4 := p4) (p5 := p5) (p6 := p6) (p7 := p7) h.1 (s := s') (t := t') (by omega) (by omega)
        have h5 := g_lowest (d := d + 8) (J := J') (Z := Z) (p0 := p0) (p1 := p1) (p2 := p2) (p3 := p3) (p4 := p4) (p5 := p5) (p6 := p6) (p7 := p7) (x := J' 162 (3 * s' + qtt m t'))
        rw [g_few h2 (by omega) (qtt_lt (by omega))] at h5
        have e := up_eq (fun k => den none (Mean (d + 9)) (some .int) tQ_X11_again (34, [some (.ref 140), some (.int (i32 (s' : Int))), some (.int (i32 (t' : Int))), some (.int (i32 w)), some (.int (i32 (k : Int)))], [], 176, zs (ex (fun i => (qbre m i * w).tdiv 100 - qbre m i) k Z), J, RP p0 p1 p2 p3 p4 p5 p6 p7)) (qS m) (fun k hk => by
          have hq := hb k hk
          have hz := (h.1.2.1.2.2.2 k (by omega)).2
          have h9 := MI_n (ex_MI (e := fun i => (qbre m i * w).tdiv 100 - qbre m i) (n := k) h.1)
          rw [k_X11_again_34]
          simp (disch := omega) only [k_X11_again_0, k_X11_again_5, k_X11_again_8, k_X11_again_13, k_X11_again_16, k_X11_again_25, k_X11_again_28, k_X11_again_31, k_X11_again_43, k_X11_again_56, k_X11_again_68, k_X11_again_70, k_X11_again_76, k_X11_again_80, k_X11_again_84, k_X11_again_90, k_X11_again_93, li_0, li_1, li_2, li_3, li_4, li_5, li_6, li_9, li_10, li_40, lm_1, lm_2, lm_3, lm_4, zs_ap, i32_add, i32_sub, i32_mul, i32_neg, i32_lt, i32_le, i32_eq, i32_nat, ckn, pka_r, pka_v, if_pos, if_neg, if_true, if_false, h9, Int.toNat_natCast, ex_ne (show 147 ≠ 161 by decide), hz, li_100, i32_div, zs_u2, ex_s (e := fun i => (qbre m i * w).tdiv 100 - qbre m i)]
          rfl)
        rw [ex_0] at e
        unfold aAgain
        rw [if_pos ⟨⟨c1, c2⟩, c3⟩, Int.toNat_natCast, Int.toNat_natCast, e_X11_again]
        simp (disch := omega) only [k_X11_again_0, k_X11_again_5, k_X11_again_8, k_X11_again_13, k_X11_again_16, k_X11_again_25, k_X11_again_28, k_X11_again_31, k_X11_again_43, k_X11_again_56, k_X11_again_68, k_X11_again_70, k_X11_again_76, k_X11_again_80, k_X11_again_84, k_X11_again_90, k_X11_again_93, li_0, li_1, li_2, li_3, li_4, li_5, li_6, li_9, li_10, li_40, lm_1, lm_2, lm_3, lm_4, zs_ap, i32_add, i32_sub, i32_mul, i32_neg, i32_lt, i32_le, i32_eq, i32_nat, ckn, pka_r, pka_v, if_pos, if_neg, if_true, if_false, s_isState, s_isSide, bI_t, bI_f, h0, i32_to64, lj_0, lj_100, s_inZ]
        refine Eq.trans e ?_
        rw [k_X11_again_34]
        have h9 := MI_n hM
        simp (disch := omega) only [k_X11_again_0, k_X11_again_5, k_X11_again_8, k_X11_again_13, k_X11_again_16, k_X11_again_25, k_X11_again_28, k_X11_again_31, k_X11_again_43, k_X11_again_56, k_X11_again_68, k_X11_again_70, k_X11_again_76, k_X11_again_80, k_X11_again_84, k_X11_again_90, k_X11_again_93, li_0, li_1, li_2, li_3, li_4, li_5, li_6, li_9, li_10, li_40, lm_1, lm_2, lm_3, lm_4, zs_ap, i32_add, i32_sub, i32_mul, i32_neg, i32_lt, i32_le, i32_eq, i32_nat, ckn, pka_r, pka_v, if_pos, if_neg, if_true, if_false, h9, h3, g_noExtra, ex_ex, ex_id h.2, h4, h5]
        rfl
      · refine ⟨J, fun _ _ _ => rfl, ?_⟩
        unfold aAgain
        rw [if_neg (fun q => c3 q.2), e_X11_again]
        simp (disch := omega) only [k_X11_again_0, k_X11_again_5, k_X11_again_8, k_X11_again_13, k_X11_again_16, k_X11_again_25, k_X11_again_28, k_X11_again_31, k_X11_again_43, k_X11_again_56, k_X11_again_68, k_X11_again_70, k_X11_again_76, k_X11_again_80, k_X11_again_84, k_X11_again_90, k_X11_again_93, li_0, li_1, li_2, li_3, li_4, li_5, li_6, li_9, li_10, li_40, lm_1, lm_2, lm_3, lm_4, zs_ap, i32_add, i32_sub, i32_mul, i32_neg, i32_lt, i32_le, i32_eq, i32_nat, ckn, pka_r, pka_v, if_pos, if_neg, if_true, if_false, s_isState, s_isSide, bI_t, bI_f, h0, i32_to64, lj_0, lj_100, s_inZ]
    · refine ⟨J, fun _ _ _ => rfl, ?_⟩
      unfold aAgain
      rw [if_neg (fun q => c2 q.1.2), e_X11_again]
      simp (disch := omega) only [k_X11_again_0, k_X11_again_5, k_X11_again_8, k_X11_again_13, k_X11_again_16, k_X11_again_25, k_X11_again_28, k_X11_again_31, k_X11_again_43, k_X11_again_56, k_X11_again_68, k_X11_again_70, k_X11_again_76, k_X11_again_80, k_X11_again_84, k_X11_again_90, k_X11_again_93, li_0, li_1, li_2, li_3, li_4, li_5, li_6, li_9, li_10, li_40, lm_1, lm_2, lm_3, lm_4, zs_ap, i32_add, i32_sub, i32_mul, i32_neg, i32_lt, i32_le, i32_eq, i32_nat, ckn, pka_r, pka_v, if_pos, if_neg, if_true, if_false, s_isState, s_isSide, bI_t, bI_f, h0, i32_to64, lj_0, lj_100, s_inZ]
  · refine ⟨J, fun _ _ _ => rfl, ?_⟩
    unfold aAgain
    rw [if_neg (fun q => c1 q.1.1), e_X11_again]
    simp (disch := omega) only [k_X11_again_0, k_X11_again_5, k_X11_again_8, k_X11_again_13, k_X11_again_16, k_X11_again_25, k_X11_again_28, k_X11_again_31, k_X11_again_43, k_X11_again_56, k_X11_again_68, k_X11_again_70, k_X11_again_76, k_X11_again_80, k_X11_again_84, k_X11_again_90, k_X11_again_93, li_0, li_1, li_2, li_3, li_4, li_5, li_6, li_9, li_10, li_40, lm_1, lm_2, lm_3, lm_4, zs_ap, i32_add, i32_sub, i32_mul, i32_neg, i32_lt, i32_le, i32_eq, i32_nat, ckn, pka_r, pka_v, if_pos, if_neg, if_true, if_false, s_isState, s_isSide, bI_t, bI_f, h0, i32_to64, lj_0, lj_100, s_inZ]
theorem g_great (h : MI m Z) {w : Int} (hw : -2147483648 ≤ w ∧ w < 2147483648) : Mean (d + 3) 218 [.ref 140, .int (i32 w)] (176, zs Z, J, RP p0 p1 p2 p3 p4 p5 p6 p7) = some (some (.int (i32 (aGreat m w))), (176, zs Z, J, RP p0 p1 p2 p3 p4 p5 p6 p7)) := by
  have h0 := MI_n h
  by_cases c1 : 0 ≤ w ∧ w ≤ 1
  · have inn : ∀ (k : Nat) (x2 x3 : Int32), k < qP m → den none (Mean (d + 2)) (some .int) tQ_X11_great (105, [some (.ref 140), some (.int (i32 w)), some (.int x2), some (.int x3), some (.int (i32 (k : Int))), some (.int (i32 ((gmany m k : Nat) : Int))), some (.int (i32 ((gto m k : Nat) : Int))), some (.int (i32 (gls m k 0))), some (.int (i32 ((0 : Nat) : Int)))], [], 176, zs Z, J, RP p0 p1 p2 p3 p4 p5 p6 p7) = den none (Mean (d + 2)) (some .int) tQ_X11_great (105, [some (.ref 140), some (.int (i32 w)), some (.int x2), some (.int x3), some (.int (i32 (k : Int))), some (.int (i32 ((gmany m k : Nat) : Int))), some (.int (i32 ((gto m k : Nat) : Int))), some (.int (i32 (gls m k (qS m)))), some (.int (i32 ((qS m : Nat) : Int)))], [], 176, zs Z, J, RP p0 p1 p2 p3 p4 p5 p6 p7) := fun k x2 x3 hk => by
      refine up_eq (fun i => den none (Mean (d + 2)) (some .int) tQ_X11_great (105, [some (.ref 140), some (.int (i32 w)), some (.int x2), some (.int x3), some (.int (i32 (k : Int))), some (.int (i32 ((gmany m k : Nat) : Int))), some (.int (i32 ((gto m k : Nat) : Int))), some (.int (i32 (gls m k i))), some (.int (i32 (i : Int)))], [], 176, zs Z, J, RP p0 p1 p2 p3 p4 p5 p6 p7)) (qS m) (fun i hi => ?_)
      have hr := (h.2.1.2.1 k hk).1
      have hwo := (h.1.2.2.1 k hk).1
      have hle : gto m k ≤ qbeg m := Nat.sub_le _ _
      have hb1 := gls_b h.1 (k := k) i (by omega)
      have b1 := qstop_b h.1 (s := gto m k) (i := i) (by omega)
      have b2 := qstop_b h.1 (s := qbeg m) (i := i) (by omega)
      have z1 := h.2.2.2.2.2.2 (gto m k) (by omega) i hi
      have z2 := h.2.2.2.2.2.2 (qbeg m) (by omega) i hi
      rw [k_X11_great_105]
      by_cases c : i = qown m k
      · have e : gls m k (i + 1) = gls m k i := if_pos c
        simp (disch := omega) only [k_X11_great_0, k_X11_great_7, k_X11_great_10, k_X11_great_13, k_X11_great_31, k_X11_great_38, k_X11_great_41, k_X11_great_48, k_X11_great_55, k_X11_great_59, k_X11_great_60, k_X11_great_74, k_X11_great_77, k_X11_great_80, k_X11_great_93, k_X11_great_114, k_X11_great_123, k_X11_great_126, k_X11_great_140, k_X11_great_154, k_X11_great_160, k_X11_great_166, k_X11_great_171, k_X11_great_177, k_X11_great_180, k_X11_great_186, k_X11_great_192, k_X11_great_196, k_X11_great_200, k_X11_great_201, li_0, li_1, li_2, li_3, li_4, li_5, li_6, li_9, li_10, li_40, lm_1, lm_2, lm_3, lm_4, zs_ap, i32_add, i32_sub, i32_mul, i32_neg, i32_lt, i32_le, i32_eq, i32_nat, ckn, pka_r, pka_v, if_pos, if_neg, if_true, if_false, h0, Int.toNat_natCast, hr, e]
        rfl
      · by_cases c2 : gls m k i < qstop m (gto m k) i - qstop m (qbeg m) i
        · have e : gls m k (i + 1) = qstop m (gto m k) i - qstop m (qbeg m) i := (if_neg c).trans (if_pos c2)
          simp (disch := omega) only [k_X11_great_0, k_X11_great_7, k_X11_great_10, k_X11_great_13, k_X11_great_31, k_X11_great_38, k_X11_great_41, k_X11_great_48, k_X11_great_55, k_X11_great_59, k_X11_great_60, k_X11_great_74, k_X11_great_77, k_X11_great_80, k_X11_great_93, k_X11_great_114, k_X11_great_123, k_X11_great_126, k_X11_great_140, k_X11_great_154, k_X11_great_160, k_X11_great_166, k_X11_great_171, k_X11_great_177, k_X11_great_180, k_X11_great_186, k_X11_great_192, k_X11_great_196, k_X11_great_200, k_X11_great_201, li_0, li_1, li_2, li_3, li_4, li_5, li_6, li_9, li_10, li_40, lm_1, lm_2, lm_3, lm_4, zs_ap, i32_add, i32_sub, i32_mul, i32_neg, i32_lt, i32_le, i32_eq, i32_nat, ckn, pka_r, pka_v, if_pos, if_neg, if_true, if_false, h0, Int.toNat_natCast, hr, e, show (3 * ((gto m k : Nat) : Int) + (i : Int)).toNat = 3 * gto m k + i by omega, show (3 * ((qbeg m : Nat) : Int) + (i : Int)).toNat = 3 * qbeg m + i by omega, z1, z2]
          rfl
        · have e : gls m k (i + 1) = gls m k i := (if_neg c).trans (if_neg c2)
          simp (disch := omega) only [k_X11_great_0, k_X11_great_7, k_X11_great_10, k_X11_great_13, k_X11_great_31, k_X11_great_38, k_X11_great_41, k_X11_great_48, k_X11_great_55, k_X11_great_59, k_X11_great_60, k_X11_great_74, k_X11_great_77, k_X11_great_80, k_X11_great_93, k_X11_great_114, k_X11_great_123, k_X11_great_126, k_X11_great_140, k_X11_great_154, k_X11_great_160, k_X11_great_166, k_X11_great_171, k_X11_great_177, k_X11_great_180, k_X11_great_186, k_X11_great_192, k_X11_great_196, k_X11_great_200, k_X11_great_201, li_0, li_1, li_2, li_3, li_4, li_5, li_6, li_9, li_10, li_40, lm_1, lm_2, lm_3, lm_4, zs_ap, i32_add, i32_sub, i32_mul, i32_neg, i32_lt, i32_le, i32_eq, i32_nat, ckn, pka_r, pka_v, if_pos, if_neg, if_true, if_false, h0, Int.toNat_natCast, hr, e, show (3 * ((gto m k : Nat) : Int) + (i : Int)).toNat = 3 * gto m k + i by omega, show (3 * ((qbeg m : Nat) : Int) + (i : Int)).toNat = 3 * qbeg m + i by omega, z1, z2]
          rfl
    obtain ⟨⟨o5, o6, o7, o8⟩, _, e⟩ := up_inv (fun (k : Nat) (y : Option Value × Option Value × Option Value × Option Value) => den none (Mean (d + 2)) (some .int) tQ_X11_great (22, [some (.ref 140), some (.int (i32 w)), some (.int (i32 (ggr m k).1)), some (.int (i32 (ggr m k).2)), some (.int (i32 (k : Int))), y.1, y.2.1, y.2.2.1, y.2.2.2], [], 176, zs Z, J, RP p0 p1 p2 p3 p4 p5 p6 p7)) (qP m) (fun _ _ => True) (fun k y hk _ => by
      have hr := h.2.1.2.1 k hk
      have hwk := h.1.2.2.1 k hk
      have hg := gmany_ok h.1 hk
      have hpl := h.2.2.2.2.1 k (by omega)
      have hplb := qpl_b h.1 (k := k) (by omega)
      have hle := may_le hg.1
      have hsub := sub_le (m := m) (s := qbeg m) (k := k) (q := gmany m k) (by omega)
      have ec := sub_c hsub
      have hb := ggr_b h.1 k (by omega)
      have hb1 := gls_b h.1 (k := k) (qS m) (Nat.le_refl _)
      have e1 : den none (Mean (d + 2)) (some .int) tQ_X11_great (22, [some (.ref 140), some (.int (i32 w)), some (.int (i32 (ggr m k).1)), some (.int (i32 (ggr m k).2)), some (.int (i32 (k : Int))), y.1, y.2.1, y.2.2.1, y.2.2.2], [], 176, zs Z, J, RP p0 p1 p2 p3 p4 p5 p6 p7) = den none (Mean (d + 2)) (some .int) tQ_X11_great (105, [some (.ref 140), some (.int (i32 w)), some (.int (i32 (ggr m k).1)), some (.int (i32 (ggr m k).2)), some (.int (i32 (k : Int))), some (.int (i32 ((gmany m k : Nat) : Int))), some (.int (i32 ((gto m k : Nat) : Int))), some (.int (i32 (gls m k 0))), some (.int (i32 ((0 : Nat) : Int)))], [], 176, zs Z, J, RP p0 p1 p2 p3 p4 p5 p6 p7) := by
        rw [k_X11_great_22]
        by_cases cu : qund m k = 0
        · have em : gmany m k = 1 := if_pos cu
          rw [em] at hg ec
          have hmg := g_mayGive (d := d) (J := J) (p0 := p0) (p1 := p1) (p2 := p2) (p3 := p3) (p4 := p4) (p5 := p5) (p6 := p6) (p7 := p7) h (s := qbeg m) (k := k) (q := 1) (by omega) hk (by omega)
          rw [hg.1, bBt, show ((1 : Nat) : Int) = 1 from rfl] at hmg
          unfold gto
          rw [em]
          simp (disch := omega) only [k_X11_great_0, k_X11_great_7, k_X11_great_10, k_X11_great_13, k_X11_great_31, k_X11_great_38, k_X11_great_41, k_X11_great_48, k_X11_great_55, k_X11_great_59, k_X11_great_60, k_X11_great_74, k_X11_great_77, k_X11_great_80, k_X11_great_93, k_X11_great_114, k_X11_great_123, k_X11_great_126, k_X11_great_140, k_X11_great_154, k_X11_great_160, k_X11_great_166, k_X11_great_171, k_X11_great_177, k_X11_great_180, k_X11_great_186, k_X11_great_192, k_X11_great_196, k_X11_great_200, k_X11_great_201, li_0, li_1, li_2, li_3, li_4, li_5, li_6, li_9, li_10, li_40, lm_1, lm_2, lm_3, lm_4, zs_ap, i32_add, i32_sub, i32_mul, i32_neg, i32_lt, i32_le, i32_eq, i32_nat, ckn, pka_r, pka_v, if_pos, if_neg, if_true, if_false, h0, Int.toNat_natCast, hr]
          rw [hmg]
          rw [show ((1 : Nat) : Int) = 1 from rfl] at ec
          simp (disch := omega) only [k_X11_great_0, k_X11_great_7, k_X11_great_10, k_X11_great_13, k_X11_great_31, k_X11_great_38, k_X11_great_41, k_X11_great_48, k_X11_great_55, k_X11_great_59, k_X11_great_60, k_X11_great_74, k_X11_great_77, k_X11_great_80, k_X11_great_93, k_X11_great_114, k_X11_great_123, k_X11_great_126, k_X11_great_140, k_X11_great_154, k_X11_great_160, k_X11_great_166, k_X11_great_171, k_X11_great_177, k_X11_great_180, k_X11_great_186, k_X11_great_192, k_X11_great_196, k_X11_great_200, k_X11_great_201, li_0, li_1, li_2, li_3, li_4, li_5, li_6, li_9, li_10, li_40, lm_1, lm_2, lm_3, lm_4, zs_ap, i32_add, i32_sub, i32_mul, i32_neg, i32_lt, i32_le, i32_eq, i32_nat, ckn, pka_r, pka_v, if_pos, if_neg, if_true, if_false, h0, Int.toNat_natCast, hpl, ec]
          rfl
        · have em : gmany m k = qcut m k - qkept m k := if_neg cu
          have em2 : (qcut m k : Int) - (qkept m k : Int) = ((gmany m k : Nat) : Int) := by omega
          simp (disch := omega) only [k_X11_great_0, k_X11_great_7, k_X11_great_10, k_X11_great_13, k_X11_great_31, k_X11_great_38, k_X11_great_41, k_X11_great_48, k_X11_great_55, k_X11_great_59, k_X11_great_60, k_X11_great_74, k_X11_great_77, k_X11_great_80, k_X11_great_93, k_X11_great_114, k_X11_great_123, k_X11_great_126, k_X11_great_140, k_X11_great_154, k_X11_great_160, k_X11_great_166, k_X11_great_171, k_X11_great_177, k_X11_great_180, k_X11_great_186, k_X11_great_192, k_X11_great_196, k_X11_great_200, k_X11_great_201, li_0, li_1, li_2, li_3, li_4, li_5, li_6, li_9, li_10, li_40, lm_1, lm_2, lm_3, lm_4, zs_ap, i32_add, i32_sub, i32_mul, i32_neg, i32_lt, i32_le, i32_eq, i32_nat, ckn, pka_r, pka_v, if_pos, if_neg, if_true, if_false, h0, Int.toNat_natCast, hr, em2, g_mayGive h, hg.1, bBt, hpl, ec]
          rfl
      have e2 := inn k (i32 (ggr m k).1) (i32 (ggr m k).2) hk
      refine ⟨(some (.int (i32 ((gmany m k : Nat) : Int))), some (.int (i32 ((gto m k : Nat) : Int))), some (.int (i32 (gls m k (qS m)))), some (.int (i32 ((qS m : Nat) : Int)))), trivial, ?_⟩
      refine e1.trans (e2.trans ?_)
      rw [k_X11_great_105]
      by_cases cc : (ggr m k).1 = -1 ∨ (ggr m k).2 < gls m k (qS m)
      · have eg : ggr m (k + 1) = ((k : Int), gls m k (qS m)) := if_pos cc
        rw [eg]
        by_cases c3 : (ggr m k).1 = -1
        · simp (disch := omega) only [k_X11_great_0, k_X11_great_7, k_X11_great_10, k_X11_great_13, k_X11_great_31, k_X11_great_38, k_X11_great_41, k_X11_great_48, k_X11_great_55, k_X11_great_59, k_X11_great_60, k_X11_great_74, k_X11_great_77, k_X11_great_80, k_X11_great_93, k_X11_great_114, k_X11_great_123, k_X11_great_126, k_X11_great_140, k_X11_great_154, k_X11_great_160, k_X11_great_166, k_X11_great_171, k_X11_great_177, k_X11_great_180, k_X11_great_186, k_X11_great_192, k_X11_great_196, k_X11_great_200, k_X11_great_201, li_0, li_1, li_2, li_3, li_4, li_5, li_6, li_9, li_10, li_40, lm_1, lm_2, lm_3, lm_4, zs_ap, i32_add, i32_sub, i32_mul, i32_neg, i32_lt, i32_le, i32_eq, i32_nat, ckn, pka_r, pka_v, if_pos, if_neg, if_true, if_false, h0]
          rfl
        · have c4 : (ggr m k).2 < gls m k (qS m) := by omega
          simp (disch := omega) only [k_X11_great_0, k_X11_great_7, k_X11_great_10, k_X11_great_13, k_X11_great_31, k_X11_great_38, k_X11_great_41, k_X11_great_48, k_X11_great_55, k_X11_great_59, k_X11_great_60, k_X11_great_74, k_X11_great_77, k_X11_great_80, k_X11_great_93, k_X11_great_114, k_X11_great_123, k_X11_great_126, k_X11_great_140, k_X11_great_154, k_X11_great_160, k_X11_great_166, k_X11_great_171, k_X11_great_177, k_X11_great_180, k_X11_great_186, k_X11_great_192, k_X11_great_196, k_X11_great_200, k_X11_great_201, li_0, li_1, li_2, li_3, li_4, li_5, li_6, li_9, li_10, li_40, lm_1, lm_2, lm_3, lm_4, zs_ap, i32_add, i32_sub, i32_mul, i32_neg, i32_lt, i32_le, i32_eq, i32_nat, ckn, pka_r, pka_v, if_pos, if_neg, if_true, if_false, h0]
          rfl
      · have eg : ggr m (k + 1) = ggr m k := if_neg cc
        rw [eg]
        simp (disch := omega) only [k_X11_great_0, k_X11_great_7, k_X11_great_10, k_X11_great_13, k_X11_great_31, k_X11_great_38, k_X11_great_41, k_X11_great_48, k_X11_great_55, k_X11_great_59, k_X11_great_60, k_X11_great_74, k_X11_great_77, k_X11_great_80, k_X11_great_93, k_X11_great_114, k_X11_great_123, k_X11_great_126, k_X11_great_140, k_X11_great_154, k_X11_great_160, k_X11_great_166, k_X11_great_171, k_X11_great_177, k_X11_great_180, k_X11_great_186, k_X11_great_192, k_X11_great_196, k_X11_great_200, k_X11_great_201, li_0, li_1, li_2, li_3, li_4, li_5, li_6, li_9, li_10, li_40, lm_1, lm_2, lm_3, lm_4, zs_ap, i32_add, i32_sub, i32_mul, i32_neg, i32_lt, i32_le, i32_eq, i32_nat, ckn, pka_r, pka_v, if_pos, if_neg, if_true, if_false, h0]
        rfl) (none, none, none, none) trivial
    unfold aGreat
    rw [if_pos c1, e_X11_great]
    simp (disch := omega) only [k_X11_great_0, k_X11_great_7, k_X11_great_10, k_X11_great_13, k_X11_great_31, k_X11_great_38, k_X11_great_41, k_X11_great_48, k_X11_great_55, k_X11_great_59, k_X11_great_60, k_X11_great_74, k_X11_great_77, k_X11_great_80, k_X11_great_93, k_X11_great_114, k_X11_great_123, k_X11_great_126, k_X11_great_140, k_X11_great_154, k_X11_great_160, k_X11_great_166, k_X11_great_171, k_X11_great_177, k_X11_great_180, k_X11_great_186, k_X11_great_192, k_X11_great_196, k_X11_great_200, k_X11_great_201, li_0, li_1, li_2, li_3, li_4, li_5, li_6, li_9, li_10, li_40, lm_1, lm_2, lm_3, lm_4, zs_ap, i32_add, i32_sub, i32_mul, i32_neg, i32_lt, i32_le, i32_eq, i32_nat, ckn, pka_r, pka_v, if_pos, if_neg, if_true, if_false, i32_to64, lj_0, lj_1, s_inZ, bI_t, bI_f, lm_100000]
    refine Eq.trans e ?_
    rw [k_X11_great_22]
    by_cases cw : w = 0
    · simp (disch := omega) only [k_X11_great_0, k_X11_great_7, k_X11_great_10, k_X11_great_13, k_X11_great_31, k_X11_great_38, k_X11_great_41, k_X11_great_48, k_X11_great_55, k_X11_great_59, k_X11_great_60, k_X11_great_74, k_X11_great_77, k_X11_great_80, k_X11_great_93, k_X11_great_114, k_X11_great_123, k_X11_great_126, k_X11_great_140, k_X11_great_154, k_X11_great_160, k_X11_great_166, k_X11_great_171, k_X11_great_177, k_X11_great_180, k_X11_great_186, k_X11_great_192, k_X11_great_196, k_X11_great_200, k_X11_great_201, li_0, li_1, li_2, li_3, li_4, li_5, li_6, li_9, li_10, li_40, lm_1, lm_2, lm_3, lm_4, zs_ap, i32_add, i32_sub, i32_mul, i32_neg, i32_lt, i32_le, i32_eq, i32_nat, ckn, pka_r, pka_v, if_pos, if_neg, if_true, if_false, h0]
    · simp (disch := omega) only [k_X11_great_0, k_X11_great_7, k_X11_great_10, k_X11_great_13, k_X11_great_31, k_X11_great_38, k_X11_great_41, k_X11_great_48, k_X11_great_55, k_X11_great_59, k_X11_great_60, k_X11_great_74, k_X11_great_77, k_X11_great_80, k_X11_great_93, k_X11_great_114, k_X11_great_123, k_X11_great_126, k_X11_great_140, k_X11_great_154, k_X11_great_160, k_X11_great_166, k_X11_great_171, k_X11_great_177, k_X11_great_180, k_X11_great_186, k_X11_great_192, k_X11_great_196, k_X11_great_200, k_X11_great_201, li_0, li_1, li_2, li_3, li_4, li_5, li_6, li_9, li_10, li_40, lm_1, lm_2, lm_3, lm_4, zs_ap, i32_add, i32_sub, i32_mul, i32_neg, i32_lt, i32_le, i32_eq, i32_nat, ckn, pka_r, pka_v, if_pos, if_neg, if_true, if_false, h0]
  · unfold aGreat
    rw [if_neg c1, e_X11_great]
    simp (disch := omega) only [k_X11_great_0, k_X11_great_7, k_X11_great_10, k_X11_great_13, k_X11_great_31, k_X11_great_38, k_X11_great_41, k_X11_great_48, k_X11_great_55, k_X11_great_59, k_X11_great_60, k_X11_great_74, k_X11_great_77, k_X11_great_80, k_X11_great_93, k_X11_great_114, k_X11_great_123, k_X11_great_126, k_X11_great_140, k_X11_great_154, k_X11_great_160, k_X11_great_166, k_X11_great_171, k_X11_great_177, k_X11_great_180, k_X11_great_186, k_X11_great_192, k_X11_great_196, k_X11_great_200, k_X11_great_201, li_0, li_1, li_2, li_3, li_4, li_5, li_6, li_9, li_10, li_40, lm_1, lm_2, lm_3, lm_4, zs_ap, i32_add, i32_sub, i32_mul, i32_neg, i32_lt, i32_le, i32_eq, i32_nat, ckn, pka_r, pka_v, if_pos, if_neg, if_true, if_false, i32_to64, lj_0, lj_1, s_inZ, bI_t, bI_f]
end
