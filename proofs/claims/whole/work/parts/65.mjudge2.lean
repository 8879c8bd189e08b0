/-! THE MODEL'S judge -/
def jwho (m : Mat) (dd j k : Nat) (ps : Nat → Nat) : Int := if ps k = qfin m then -1 else jst m (ps k) (ps (k - dd)) j
def jto (m : Mat) (tp : Nat → Nat) (dd j k : Nat) (ps : Nat → Nat) (t : Nat) : Int := if jwho m dd j k ps = -1 then jstep m tp (ps k) k t else -1
def jrun (m : Mat) (tp : Nat → Nat) (dd : Nat) : Nat → Nat → (Nat → Nat) → Nat → Int × Int × Nat × Nat
  | 0, k, ps, _ => (-1, -1, ps k, k)
  | j + 1, k, ps, t => if jto m tp dd (j + 1) k ps t = -1 then ((k : Int), jwho m dd (j + 1) k ps, ps k, k) else jrun m tp dd j (k + 1) (up1 ps (k + 1) (jto m tp dd (j + 1) k ps t).toNat) ((t + 1) % qS m)
theorem jrun_s (m : Mat) (tp : Nat → Nat) (dd j k : Nat) (ps : Nat → Nat) (t : Nat) : jrun m tp dd (j + 1) k ps t = if jto m tp dd (j + 1) k ps t = -1 then ((k : Int), jwho m dd (j + 1) k ps, ps k, k) else jrun m tp dd j (k + 1) (up1 ps (k + 1) (jto m tp dd (j + 1) k ps t).toNat) ((t + 1) % qS m) := rfl
theorem jgo_le {m : Mat} {tp : Nat → Nat} {s k t : Nat} : ∀ (j i to g : Nat) (y : Nat × Nat), jgo m tp s k t j i to g = some y → y.1 ≤ to
  | 0, i, to, g, y, h => by
    have : (to, g) = y := Option.some.inj h
    rw [← this]
    exact Nat.le_refl _
  | j + 1, i, to, g, y, h => by
    unfold jgo at h
    split at h
    · exact jgo_le j (i + 1) to g y h
    · split at h
      · exact Nat.le_trans (jgo_le j (i + 1) _ (g + 1) y h) (Nat.sub_le _ _)
      · cases h
theorem jstep_b {m : Mat} {tp : Nat → Nat} {s k t : Nat} : jstep m tp s k t = -1 ∨ (0 ≤ jstep m tp s k t ∧ jstep m tp s k t ≤ s) := by
  unfold jstep
  split
  · exact Or.inl rfl
  · cases hj : jgo m tp s k t (jwd m) 0 s 0 with
    | none => exact Or.inl rfl
    | some y =>
      have := jgo_le _ _ _ _ _ hj
      unfold jres
      simp only
      split
      · right
        omega
      · exact Or.inl rfl
theorem jst_b (m : Mat) (now late n : Nat) : -1 ≤ jst m now late n ∧ jst m now late n ≤ 2 := by
  unfold jst
  split
  · unfold qone
    split
    · omega
    · split
      · omega
      · omega
  · omega
def jlen (m : Mat) (len : Nat) : Prop := len % jwd m = 0 ∧ len / jwd m ≤ 40
def jall (m : Mat) (tp : Nat → Nat) (len dd : Nat) : Int × Int × Nat × Nat := jrun m tp dd (len / jwd m) 0 (fun _ => qbeg m) (qfst m)
def aJudge (m : Mat) (tp : Nat → Nat) (len : Nat) (dd : Int) : Int := if 0 ≤ dd ∧ dd ≤ 9 then (if len % jwd m = 0 ∧ len / jwd m ≤ 40 then (if (jall m tp len dd.toNat).1 = -1 ∧ (jall m tp len dd.toNat).2.2.1 = qfin m then 1 else 0) else -1) else -2
/-- all but a judgement is as it was -/
def JX (Z Z' : Nat → Nat → Int) : Prop := (∀ a : Nat, a ≠ 140 → a ≠ 167 → Z' a = Z a) ∧ ∀ j : Nat, j ≠ 1 → j ≠ 62 → j ≠ 63 → j ≠ 64 → j ≠ 65 → j ≠ 66 → Z' 140 j = Z 140 j
theorem MI_fr2 {m : Mat} {Z Z' : Nat → Nat → Int} (h : MI m Z) (h1 : ∀ j : Nat, 10 ≤ j → j < 60 → Z' 140 j = Z 140 j) (h2 : ∀ a : Nat, 142 ≤ a → a ≤ 160 → Z' a = Z a) : MI m Z' := by
  refine ⟨h.1, ?_, ?_, ?_⟩
  · have hr := h.2.1
    unfold MR at hr ⊢
    rw [h1 10 (by decide) (by decide), h1 11 (by decide) (by decide), h1 12 (by decide) (by decide), h1 13 (by decide) (by decide), h1 14 (by decide) (by decide), h1 15 (by decide) (by decide), h1 24 (by decide) (by decide), h2 142 (by decide) (by decide), h2 143 (by decide) (by decide), h2 144 (by decide) (by decide), h2 145 (by decide) (by decide), h2 146 (by decide) (by decide), h2 147 (by decide) (by decide), h2 148 (by decide) (by decide)]
    exact hr
  · have := h.2.2.1
    unfold mJk at this ⊢
    rw [h2 145 (by decide) (by decide), h2 159 (by decide) (by decide), h2 142 (by decide) (by decide), h2 160 (by decide) (by decide)]
    exact this
  · have := h.2.2.2
    unfold MT at this ⊢
    rw [h1 49 (by decide) (by decide), h1 50 (by decide) (by decide), h1 51 (by decide) (by decide), h2 158 (by decide) (by decide), h2 159 (by decide) (by decide), h2 160 (by decide) (by decide)]
    exact this
theorem JX_MB {m : Mat} {Z Z' : Nat → Nat → Int} (h : MB m Z) (hx : JX Z Z') : MB m Z' := ⟨MI_fr2 h.1 (fun j hj hj2 => hx.2 j (by omega) (by omega) (by omega) (by omega) (by omega) (by omega)) (fun a ha hb => hx.1 a (by omega) (by omega)), fun i hi => by rw [hx.1 161 (by decide) (by decide)]; exact h.2 i hi⟩
theorem JX_TB {tp : Nat → Nat} {Z Z' : Nat → Nat → Int} (h : TB tp Z) (hx : JX Z Z') : TB tp Z' := fun x hlt => by
  rw [hx.1 141 (by decide) (by decide)]
  exact h x hlt
theorem JX_140 {Z Z' : Nat → Nat → Int} {j : Nat} {v : Int} (h : JX Z Z') (hj : j = 1 ∨ (62 ≤ j ∧ j ≤ 66)) : JX Z (u2 Z' 140 j v) := ⟨fun a h1 h2 => (u2_ne h1).trans (h.1 a h1 h2), fun q h1 h2 h3 h4 h5 h6 => (u2f (by omega)).trans (h.2 q h1 h2 h3 h4 h5 h6)⟩
theorem JX_167 {Z Z' : Nat → Nat → Int} {j : Nat} {v : Int} (h : JX Z Z') : JX Z (u2 Z' 167 j v) := ⟨fun a h1 h2 => (u2_ne h2).trans (h.1 a h1 h2), fun q h1 h2 h3 h4 h5 h6 => (u2a (by decide)).trans (h.2 q h1 h2 h3 h4 h5 h6)⟩
/-- what the model keeps of a judgement -/
def JG (Z : Nat → Nat → Int) (r : Int × Int × Nat × Nat) : Prop := Z 140 62 = 1 ∧ Z 140 63 = r.1 ∧ Z 140 64 = r.2.1 ∧ Z 140 65 = r.2.2.1 ∧ Z 140 66 = r.2.2.2
section
variable {d : Nat} {J : Nat → Nat → Int64} {Z : Nat → Nat → Int} {p0 p1 p2 p3 p4 p5 p6 p7 : Nat} {m : Mat} {b : Nat → Int} {tp : Nat → Nat}
theorem jd_end (h : MB m Z) {Z1 : Nat → Nat → Int} (hx : JX Z Z1) (h62 : Z1 140 62 = 1) {bs sd : Int} (hb : -1 ≤ bs ∧ bs < 41) (h63 : Z1 140 63 = bs) (h64 : Z1 140 64 = sd) {k s : Nat} (hk : k < 41) (hs : Z1 167 k = (s : Int)) (hsN : s < qN m) (x1 x2 x3 x4 x5 : Int32) (o7 o8 : Option Value) : ∃ Z' : Nat → Nat → Int, JX Z Z' ∧ JG Z' (bs, sd, s, k) ∧ Z' 140 1 = Z1 140 1 ∧ den none (Mean d) (some .int) tQ_X11_judge (218, [some (.ref 140), some (.int x1), some (.int x2), some (.int x3), some (.int x4), some (.int x5), some (.int (i32 (k : Int))), o7, o8], [], 176, zs Z1, J, RP p0 p1 p2 p3 p4 p5 p6 p7) = some (some (.int (i32 (if bs = -1 ∧ s = qfin m then 1 else 0))), (176, zs Z', J, RP p0 p1 p2 p3 p4 p5 p6 p7)) := by
  have h0 := MI_n h.1
  have hM := (JX_MB h hx).1
  have h51 : Z1 140 51 = qfin m := hM.2.2.2.1.2.2
  refine ⟨u2 (u2 Z1 140 65 (s : Int)) 140 66 (k : Int), JX_140 (JX_140 hx (by omega)) (by omega), ⟨?_, ?_, ?_, ?_, ?_⟩, ?_, ?_⟩
  · rw [u2f (by decide), u2f (by decide), h62]
  · rw [u2f (by decide), u2f (by decide), h63]
  · rw [u2f (by decide), u2f (by decide), h64]
  · rw [u2f (by decide), u2s]
  · rw [u2s]
  · rw [u2f (by decide), u2f (by decide)]
  · simp (disch := omega) only [k_X11_judge_0, k_X11_judge_19, k_X11_judge_22, k_X11_judge_25, k_X11_judge_33, k_X11_judge_40, k_X11_judge_41, k_X11_judge_45, k_X11_judge_48, k_X11_judge_51, k_X11_judge_56, k_X11_judge_58, k_X11_judge_61, k_X11_judge_88, k_X11_judge_104, k_X11_judge_112, k_X11_judge_119, k_X11_judge_126, k_X11_judge_130, k_X11_judge_142, k_X11_judge_150, k_X11_judge_158, k_X11_judge_165, k_X11_judge_168, k_X11_judge_169, k_X11_judge_177, k_X11_judge_192, k_X11_judge_204, k_X11_judge_213, k_X11_judge_215, k_X11_judge_218, k_X11_judge_226, k_X11_judge_243, k_X11_judge_254, k_X11_judge_258, k_X11_judge_259, li_0, li_1, li_2, li_3, li_4, li_5, li_6, li_9, li_10, li_40, lm_1, lm_2, lm_3, lm_4, zs_ap, i32_add, i32_sub, i32_mul, i32_neg, i32_lt, i32_le, i32_eq, i32_nat, ckn, pka_r, pka_v, if_pos, if_neg, if_true, if_false, Int.toNat_natCast, hs, zs_u2, u2f (show 63 ≠ 66 by decide), u2f (show 63 ≠ 65 by decide), u2f (show 51 ≠ 66 by decide), u2f (show 51 ≠ 65 by decide), u2f (show 65 ≠ 66 by decide), u2s, h63, h51]
    by_cases c1 : bs = -1
    · by_cases c2 : s = qfin m
      · simp (disch := omega) only [k_X11_judge_0, k_X11_judge_19, k_X11_judge_22, k_X11_judge_25, k_X11_judge_33, k_X11_judge_40, k_X11_judge_41, k_X11_judge_45, k_X11_judge_48, k_X11_judge_51, k_X11_judge_56, k_X11_judge_58, k_X11_judge_61, k_X11_judge_88, k_X11_judge_104, k_X11_judge_112, k_X11_judge_119, k_X11_judge_126, k_X11_judge_130, k_X11_judge_142, k_X11_judge_150, k_X11_judge_158, k_X11_judge_165, k_X11_judge_168, k_X11_judge_169, k_X11_judge_177, k_X11_judge_192, k_X11_judge_204, k_X11_judge_213, k_X11_judge_215, k_X11_judge_218, k_X11_judge_226, k_X11_judge_243, k_X11_judge_254, k_X11_judge_258, k_X11_judge_259, li_0, li_1, li_2, li_3, li_4, li_5, li_6, li_9, li_10, li_40, lm_1, lm_2, lm_3, lm_4, zs_ap, i32_add, i32_sub, i32_mul, i32_neg, i32_lt, i32_le, i32_eq, i32_nat, ckn, pka_r, pka_v, if_pos, if_neg, if_true, if_false, Int.toNat_natCast, hs, zs_u2, u2f (show 51 ≠ 66 by decide), u2f (show 51 ≠ 65 by decide), u2f (show 65 ≠ 66 by decide), u2s, h51, c1, c2, and_self]
      · simp (disch := omega) only [k_X11_judge_0, k_X11_judge_19, k_X11_judge_22, k_X11_judge_25, k_X11_judge_33, k_X11_judge_40, k_X11_judge_41, k_X11_judge_45, k_X11_judge_48, k_X11_judge_51, k_X11_judge_56, k_X11_judge_58, k_X11_judge_61, k_X11_judge_88, k_X11_judge_104, k_X11_judge_112, k_X11_judge_119, k_X11_judge_126, k_X11_judge_130, k_X11_judge_142, k_X11_judge_150, k_X11_judge_158, k_X11_judge_165, k_X11_judge_168, k_X11_judge_169, k_X11_judge_177, k_X11_judge_192, k_X11_judge_204, k_X11_judge_213, k_X11_judge_215, k_X11_judge_218, k_X11_judge_226, k_X11_judge_243, k_X11_judge_254, k_X11_judge_258, k_X11_judge_259, li_0, li_1, li_2, li_3, li_4, li_5, li_6, li_9, li_10, li_40, lm_1, lm_2, lm_3, lm_4, zs_ap, i32_add, i32_sub, i32_mul, i32_neg, i32_lt, i32_le, i32_eq, i32_nat, ckn, pka_r, pka_v, if_pos, if_neg, if_true, if_false, Int.toNat_natCast, hs, zs_u2, u2f (show 51 ≠ 66 by decide), u2f (show 51 ≠ 65 by decide), u2f (show 65 ≠ 66 by decide), u2s, h51, c1, c2, and_false]
    · simp (disch := omega) only [k_X11_judge_0, k_X11_judge_19, k_X11_judge_22, k_X11_judge_25, k_X11_judge_33, k_X11_judge_40, k_X11_judge_41, k_X11_judge_45, k_X11_judge_48, k_X11_judge_51, k_X11_judge_56, k_X11_judge_58, k_X11_judge_61, k_X11_judge_88, k_X11_judge_104, k_X11_judge_112, k_X11_judge_119, k_X11_judge_126, k_X11_judge_130, k_X11_judge_142, k_X11_judge_150, k_X11_judge_158, k_X11_judge_165, k_X11_judge_168, k_X11_judge_169, k_X11_judge_177, k_X11_judge_192, k_X11_judge_204, k_X11_judge_213, k_X11_judge_215, k_X11_judge_218, k_X11_judge_226, k_X11_judge_243, k_X11_judge_254, k_X11_judge_258, k_X11_judge_259, li_0, li_1, li_2, li_3, li_4, li_5, li_6, li_9, li_10, li_40, lm_1, lm_2, lm_3, lm_4, zs_ap, i32_add, i32_sub, i32_mul, i32_neg, i32_lt, i32_le, i32_eq, i32_nat, ckn, pka_r, pka_v, if_pos, if_neg, if_true, if_false]
theorem jd_loop (h : MB m Z) (ht : TB tp Z) {dd n : Nat} (hd : dd ≤ 9) (hn : n ≤ 40) (x2 x3 : Int32) : ∀ (j k t : Nat) (ps : Nat → Nat) (Z1 : Nat → Nat → Int) (o7 o8 : Option Value), k + j = n → t < qS m → JX Z Z1 → Z1 140 62 = 1 → Z1 140 63 = -1 → Z1 140 64 = -1 → (∀ x : Nat, x ≤ k → Z1 167 x = (ps x : Int) ∧ ps x < qN m) → ∃ Z' : Nat → Nat → Int, JX Z Z' ∧ JG Z' (jrun m tp dd j k ps t) ∧ Z' 140 1 = Z1 140 1 ∧ den none (Mean (d + 4)) (some .int) tQ_X11_judge (97, [some (.ref 140), some (.int (i32 (dd : Int))), some (.int x2), some (.int x3), some (.int (i32 (n : Int))), some (.int (i32 (t : Int))), some (.int (i32 (k : Int))), o7, o8], [], 176, zs Z1, J, RP p0 p1 p2 p3 p4 p5 p6 p7) = some (some (.int (i32 (if (jrun m tp dd j k ps t).1 = -1 ∧ (jrun m tp dd j k ps t).2.2.1 = qfin m then 1 else 0))), (176, zs Z', J, RP p0 p1 p2 p3 p4 p5 p6 p7)) := by
  have h0 := MI_n h.1
  intro j
  induction j with
  | zero =>
    intro k t ps Z1 o7 o8 hk htS hx h62 h63 h64 hps
    obtain ⟨Z', e1, e2, e3, e4⟩ := jd_end (d := d + 4) (J := J) (p0 := p0) (p1 := p1) (p2 := p2) (p3 := p3) (p4 := p4) (p5 := p5) (p6 := p6) (p7 := p7) h hx h62 (by omega) h63 h64 (k := k) (by omega) (hps k (Nat.le_refl _)).1 (hps k (Nat.le_refl _)).2 (i32 (dd : Int)) x2 x3 (i32 (n : Int)) (i32 (t : Int)) o7 o8
    refine ⟨Z', e1, e2, e3, ?_⟩
    rw [k_X11_judge_97]
    simp (disch := omega) only [k_X11_judge_0, k_X11_judge_19, k_X11_judge_22, k_X11_judge_25, k_X11_judge_33, k_X11_judge_40, k_X11_judge_41, k_X11_judge_45, k_X11_judge_48, k_X11_judge_51, k_X11_judge_56, k_X11_judge_58, k_X11_judge_61, k_X11_judge_88, k_X11_judge_104, k_X11_judge_112, k_X11_judge_119, k_X11_judge_126, k_X11_judge_130, k_X11_judge_142, k_X11_judge_150, k_X11_judge_158, k_X11_judge_165, k_X11_judge_168, k_X11_judge_169, k_X11_judge_177, k_X11_judge_192, k_X11_judge_204, k_X11_judge_213, k_X11_judge_215, k_X11_judge_226, k_X11_judge_243, k_X11_judge_254, k_X11_judge_258, k_X11_judge_259, li_0, li_1, li_2, li_3, li_4, li_5, li_6, li_9, li_10, li_40, lm_1, lm_2, lm_3, lm_4, zs_ap, i32_add, i32_sub, i32_mul, i32_neg, i32_lt, i32_le, i32_eq, i32_nat, ckn, pka_r, pka_v, if_pos, if_neg, if_true, if_false]
    exact e4
  | succ j ih =>
    intro k t ps Z1 o7 o8 hk htS hx h62 h63 h64 hps
    have hMB := JX_MB h hx
    have h51 : Z1 140 51 = qfin m := hMB.1.2.2.2.1.2.2
    have h10 : Z1 140 10 = qS m := hMB.1.2.1.1.1
    have hTB := JX_TB ht hx
    obtain ⟨hp1, hp2⟩ := hps k (Nat.le_refl _)
    have hjb := jstep_b (m := m) (tp := tp) (s := ps k) (k := k) (t := t)
    have hwb := jst_b m (ps k) (ps (k - dd)) (j + 1)
    rw [jrun_s]
    -- what would be done
    have e1 : ∃ o8' : Option Value, den none (Mean (d + 4)) (some .int) tQ_X11_judge (97, [some (.ref 140), some (.int (i32 (dd : Int))), some (.int x2), some (.int x3), some (.int (i32 (n : Int))), some (.int (i32 (t : Int))), some (.int (i32 (k : Int))), o7, o8], [], 176, zs Z1, J, RP p0 p1 p2 p3 p4 p5 p6 p7) = den none (Mean (d + 4)) (some .int) tQ_X11_judge (169, [some (.ref 140), some (.int (i32 (dd : Int))), some (.int x2), some (.int x3), some (.int (i32 (n : Int))), some (.int (i32 (t : Int))), some (.int (i32 (k : Int))), some (.int (i32 (jwho m dd (j + 1) k ps))), o8'], [.int (i32 (jto m tp dd (j + 1) k ps t))], 176, zs Z1, J, RP p0 p1 p2 p3 p4 p5 p6 p7) := by
      refine ⟨o8, ?_⟩
      rw [k_X11_judge_97]
      unfold jto jwho
      by_cases cf : ps k = qfin m
      · rw [if_pos cf, if_pos rfl]
        simp (disch := omega) only [k_X11_judge_0, k_X11_judge_19, k_X11_judge_22, k_X11_judge_25, k_X11_judge_33, k_X11_judge_40, k_X11_judge_41, k_X11_judge_45, k_X11_judge_48, k_X11_judge_51, k_X11_judge_56, k_X11_judge_58, k_X11_judge_61, k_X11_judge_88, k_X11_judge_104, k_X11_judge_112, k_X11_judge_119, k_X11_judge_126, k_X11_judge_130, k_X11_judge_142, k_X11_judge_150, k_X11_judge_158, k_X11_judge_165, k_X11_judge_168, k_X11_judge_177, k_X11_judge_192, k_X11_judge_204, k_X11_judge_213, k_X11_judge_215, k_X11_judge_218, k_X11_judge_226, k_X11_judge_243, k_X11_judge_254, k_X11_judge_258, k_X11_judge_259, li_0, li_1, li_2, li_3, li_4, li_5, li_6, li_9, li_10, li_40, lm_1, lm_2, lm_3, lm_4, zs_ap, i32_add, i32_sub, i32_mul, i32_neg, i32_lt, i32_le, i32_eq, i32_nat, ckn, pka_r, pka_v, if_pos, if_neg, if_true, if_false, h63, h51, Int.toNat_natCast, hp1, g_judgedStep hMB.1 hTB]
      · rw [if_neg cf]
        have hs := g_stopper (d := d) (J := J) (p0 := p0) (p1 := p1) (p2 := p2) (p3 := p3) (p4 := p4) (p5 := p5) (p6 := p6) (p7 := p7) hMB (k := k) (n := j + 1) (dd := dd) (by omega) (by omega) (by omega) hp1 (hps (k - dd) (by omega)).1 hp2 (hps (k - dd) (by omega)).2
        rw [show ((j + 1 : Nat) : Int) = (n : Int) - (k : Int) by omega] at hs
        by_cases cw : jst m (ps k) (ps (k - dd)) (j + 1) = -1
        · rw [if_pos cw]
          rw [cw] at hs ⊢
          simp (disch := omega) only [k_X11_judge_0, k_X11_judge_19, k_X11_judge_22, k_X11_judge_25, k_X11_judge_33, k_X11_judge_40, k_X11_judge_41, k_X11_judge_45, k_X11_judge_48, k_X11_judge_51, k_X11_judge_56, k_X11_judge_58, k_X11_judge_61, k_X11_judge_88, k_X11_judge_104, k_X11_judge_112, k_X11_judge_119, k_X11_judge_126, k_X11_judge_130, k_X11_judge_142, k_X11_judge_150, k_X11_judge_158, k_X11_judge_165, k_X11_judge_168, k_X11_judge_177, k_X11_judge_192, k_X11_judge_204, k_X11_judge_213, k_X11_judge_215, k_X11_judge_218, k_X11_judge_226, k_X11_judge_243, k_X11_judge_254, k_X11_judge_258, k_X11_judge_259, li_0, li_1, li_2, li_3, li_4, li_5, li_6, li_9, li_10, li_40, lm_1, lm_2, lm_3, lm_4, zs_ap, i32_add, i32_sub, i32_mul, i32_neg, i32_lt, i32_le, i32_eq, i32_nat, ckn, pka_r, pka_v, if_pos, if_neg, if_true, if_false, h63, h51, Int.toNat_natCast, hp1, hs, g_judgedStep hMB.1 hTB]
        · rw [if_neg cw]
          simp (disch := omega) only [k_X11_judge_0, k_X11_judge_19, k_X11_judge_22, k_X11_judge_25, k_X11_judge_33, k_X11_judge_40, k_X11_judge_41, k_X11_judge_45, k_X11_judge_48, k_X11_judge_51, k_X11_judge_56, k_X11_judge_58, k_X11_judge_61, k_X11_judge_88, k_X11_judge_104, k_X11_judge_112, k_X11_judge_119, k_X11_judge_126, k_X11_judge_130, k_X11_judge_142, k_X11_judge_150, k_X11_judge_158, k_X11_judge_165, k_X11_judge_168, k_X11_judge_177, k_X11_judge_192, k_X11_judge_204, k_X11_judge_213, k_X11_judge_215, k_X11_judge_218, k_X11_judge_226, k_X11_judge_243, k_X11_judge_254, k_X11_judge_258, k_X11_judge_259, li_0, li_1, li_2, li_3, li_4, li_5, li_6, li_9, li_10, li_40, lm_1, lm_2, lm_3, lm_4, zs_ap, i32_add, i32_sub, i32_mul, i32_neg, i32_lt, i32_le, i32_eq, i32_nat, ckn, pka_r, pka_v, if_pos, if_neg, if_true, if_false, h63, h51, Int.toNat_natCast, hp1, hs]
    obtain ⟨o8', e1⟩ := e1
    have hwb2 : -1 ≤ jwho m dd (j + 1) k ps ∧ jwho m dd (j + 1) k ps ≤ 2 := by
      unfold jwho
      split
      · omega
      · exact hwb
    have htb : jto m tp dd (j + 1) k ps t = -1 ∨ (0 ≤ jto m tp dd (j + 1) k ps t ∧ jto m tp dd (j + 1) k ps t ≤ ps k) := by
      unfold jto
      split
      · exact hjb
      · exact Or.inl rfl
    rw [e1]
    by_cases cb : jto m tp dd (j + 1) k ps t = -1
    · rw [if_pos cb]
      have hx2 : JX Z (u2 (u2 Z1 140 63 (k : Int)) 140 64 (jwho m dd (j + 1) k ps)) := JX_140 (JX_140 hx (by omega)) (by omega)
      obtain ⟨Z', q1, q2, q3, q4⟩ := jd_end (d := d + 4) (J := J) (p0 := p0) (p1 := p1) (p2 := p2) (p3 := p3) (p4 := p4) (p5 := p5) (p6 := p6) (p7 := p7) h hx2 (by rw [u2f (by decide), u2f (by decide), h62]) (bs := (k : Int)) (by omega) (by rw [u2f (by decide), u2s]) (sd := jwho m dd (j + 1) k ps) u2s (k := k) (by omega) (by rw [u2a (by decide), u2a (by decide)]; exact hp1) hp2 (i32 (dd : Int)) x2 x3 (i32 (n : Int)) (i32 (t : Int)) (some (.int (i32 (jwho m dd (j + 1) k ps)))) (some (.int (i32 (-1))))
      refine ⟨Z', q1, q2, by rw [q3, u2f (by decide), u2f (by decide)], ?_⟩
      rw [cb]
      simp (disch := omega) only [k_X11_judge_0, k_X11_judge_19, k_X11_judge_22, k_X11_judge_25, k_X11_judge_33, k_X11_judge_40, k_X11_judge_41, k_X11_judge_45, k_X11_judge_48, k_X11_judge_51, k_X11_judge_56, k_X11_judge_58, k_X11_judge_61, k_X11_judge_88, k_X11_judge_104, k_X11_judge_112, k_X11_judge_119, k_X11_judge_126, k_X11_judge_130, k_X11_judge_142, k_X11_judge_150, k_X11_judge_158, k_X11_judge_165, k_X11_judge_168, k_X11_judge_169, k_X11_judge_177, k_X11_judge_192, k_X11_judge_204, k_X11_judge_213, k_X11_judge_215, k_X11_judge_226, k_X11_judge_243, k_X11_judge_254, k_X11_judge_258, k_X11_judge_259, li_0, li_1, li_2, li_3, li_4, li_5, li_6, li_9, li_10, li_40, lm_1, lm_2, lm_3, lm_4, zs_ap, i32_add, i32_sub, i32_mul, i32_neg, i32_lt, i32_le, i32_eq, i32_nat, ckn, pka_r, pka_v, if_pos, if_neg, if_true, if_false, zs_u2]
      rw [k_X11_judge_97]
      by_cases ck : n ≤ k
      · omega
      · simp (disch := omega) only [k_X11_judge_0, k_X11_judge_19, k_X11_judge_22, k_X11_judge_25, k_X11_judge_33, k_X11_judge_40, k_X11_judge_41, k_X11_judge_45, k_X11_judge_48, k_X11_judge_51, k_X11_judge_56, k_X11_judge_58, k_X11_judge_61, k_X11_judge_88, k_X11_judge_104, k_X11_judge_112, k_X11_judge_119, k_X11_judge_126, k_X11_judge_130, k_X11_judge_142, k_X11_judge_150, k_X11_judge_158, k_X11_judge_165, k_X11_judge_168, k_X11_judge_169, k_X11_judge_177, k_X11_judge_192, k_X11_judge_204, k_X11_judge_213, k_X11_judge_215, k_X11_judge_226, k_X11_judge_243, k_X11_judge_254, k_X11_judge_258, k_X11_judge_259, li_0, li_1, li_2, li_3, li_4, li_5, li_6, li_9, li_10, li_40, lm_1, lm_2, lm_3, lm_4, zs_ap, i32_add, i32_sub, i32_mul, i32_neg, i32_lt, i32_le, i32_eq, i32_nat, ckn, pka_r, pka_v, if_pos, if_neg, if_true, if_false, u2f (show 63 ≠ 64 by decide), u2s]
        rw [if_neg (show ¬ ((k : Int) = -1 ∧ ps k = qfin m) by omega)] at q4
        exact q4
    · rw [if_neg cb]
      have htb2 : 0 ≤ jto m tp dd (j + 1) k ps t ∧ jto m tp dd (j + 1) k ps t ≤ ps k := by omega
      have erem : i32 ((t : Int) + 1) - i32 ((t : Int) + 1) / i32 (qS m : Int) * i32 (qS m : Int) = i32 (((t + 1) % qS m : Nat) : Int) := by
        rw [show (t : Int) + 1 = ((t + 1 : Nat) : Int) by omega]
        exact rem_q (by omega) (by omega) (by omega)
      obtain ⟨Z', q1, q2, q3, q4⟩ := ih (k + 1) ((t + 1) % qS m) (up1 ps (k + 1) (jto m tp dd (j + 1) k ps t).toNat) (u2 Z1 167 (k + 1) (jto m tp dd (j + 1) k ps t)) (some (.int (i32 (jwho m dd (j + 1) k ps)))) (some (.int (i32 (jto m tp dd (j + 1) k ps t)))) (by omega) (Nat.mod_lt _ (by omega)) (JX_167 hx) (by rw [u2a (by decide), h62]) (by rw [u2a (by decide), h63]) (by rw [u2a (by decide), h64]) (fun x hxk => by
        unfold up1
        by_cases c : x = k + 1
        · subst c
          rw [if_pos rfl, u2s]
          omega
        · rw [if_neg c, u2f c]
          exact hps x (by omega))
      refine ⟨Z', q1, q2, by rw [q3, u2a (by decide)], ?_⟩
      simp (disch := omega) only [k_X11_judge_0, k_X11_judge_19, k_X11_judge_22, k_X11_judge_25, k_X11_judge_33, k_X11_judge_40, k_X11_judge_41, k_X11_judge_45, k_X11_judge_48, k_X11_judge_51, k_X11_judge_56, k_X11_judge_58, k_X11_judge_61, k_X11_judge_88, k_X11_judge_104, k_X11_judge_112, k_X11_judge_119, k_X11_judge_126, k_X11_judge_130, k_X11_judge_142, k_X11_judge_150, k_X11_judge_158, k_X11_judge_165, k_X11_judge_168, k_X11_judge_169, k_X11_judge_177, k_X11_judge_192, k_X11_judge_204, k_X11_judge_213, k_X11_judge_215, k_X11_judge_218, k_X11_judge_226, k_X11_judge_243, k_X11_judge_254, k_X11_judge_258, k_X11_judge_259, li_0, li_1, li_2, li_3, li_4, li_5, li_6, li_9, li_10, li_40, lm_1, lm_2, lm_3, lm_4, zs_ap, i32_add, i32_sub, i32_mul, i32_neg, i32_lt, i32_le, i32_eq, i32_nat, ckn, pka_r, pka_v, if_pos, if_neg, if_true, if_false, show ((k : Int) + 1).toNat = k + 1 by omega, zs_u2, u2a (show 140 ≠ 167 by decide), h10, erem]
      exact q4
theorem g_judge (h : MB m Z) (ht : TB tp Z) {len : Nat} (hl : Z 140 1 = (len : Int)) (hl7 : len ≤ 700) {dd : Int} (hd : -2147483648 ≤ dd ∧ dd < 2147483648) : ∃ Z' : Nat → Nat → Int, JX Z Z' ∧ Z' 140 1 = 0 ∧ (0 ≤ aJudge m tp len dd → JG Z' (jall m tp len dd.toNat)) ∧ (aJudge m tp len dd < 0 → ∀ j : Nat, 62 ≤ j → j ≤ 66 → Z' 140 j = Z 140 j) ∧ Mean (d + 5) 222 [.ref 140, .int (i32 dd)] (176, zs Z, J, RP p0 p1 p2 p3 p4 p5 p6 p7) = some (some (.int (i32 (aJudge m tp len dd))), (176, zs Z', J, RP p0 p1 p2 p3 p4 p5 p6 p7)) := by
  have h0 := MI_n h.1
  have h1 := h.1.2.1.1
  have hmd := h.1.1.2.2.2.2.2.1
  have hx1 : JX Z (u2 Z 140 1 0) := JX_140 ⟨fun _ _ _ => rfl, fun _ _ _ _ _ _ _ => rfl⟩ (by omega)
  by_cases c1 : 0 ≤ dd ∧ dd ≤ 9
  · obtain ⟨dn, rfl⟩ : ∃ dn : Nat, dd = dn := ⟨dd.toNat, by omega⟩
    have hwd : 1 ≤ jwd m ∧ jwd m ≤ 3 := by
      unfold jwd
      split <;> omega
    have er : (len : Int) - ((len / jwd m : Nat) : Int) * ((jwd m : Nat) : Int) = ((len % jwd m : Nat) : Int) := by
      have q := Nat.div_add_mod len (jwd m)
      have q2 : ((jwd m * (len / jwd m) + len % jwd m : Nat) : Int) = (len : Int) := by rw [q]
      rw [Int.natCast_add, Int.natCast_mul, Int.mul_comm] at q2
      omega
    have ed : i32 (len : Int) / i32 ((jwd m : Nat) : Int) = i32 ((len / jwd m : Nat) : Int) := by
      rw [i32_div (by omega) (by omega)]
      rfl
    have hml := Nat.mod_lt len (show 0 < jwd m by omega)
    have hdl := Nat.div_le_self len (jwd m)
    have e0 : Mean (d + 5) 222 [.ref 140, .int (i32 (dn : Int))] (176, zs Z, J, RP p0 p1 p2 p3 p4 p5 p6 p7) = den none (Mean (d + 4)) (some .int) tQ_X11_judge (41, [some (.ref 140), some (.int (i32 (dn : Int))), some (.int (i32 (len : Int))), none, none, none, none, none, none], [.int (i32 ((jwd m : Nat) : Int))], 176, zs (u2 Z 140 1 0), J, RP p0 p1 p2 p3 p4 p5 p6 p7) := by
      rw [e_X11_judge]
      unfold jwd
      by_cases c2 : qmode m = 2
      · rw [if_pos c2]
        simp (disch := omega) only [k_X11_judge_0, k_X11_judge_19, k_X11_judge_22, k_X11_judge_25, k_X11_judge_33, k_X11_judge_40, k_X11_judge_45, k_X11_judge_48, k_X11_judge_51, k_X11_judge_56, k_X11_judge_58, k_X11_judge_61, k_X11_judge_88, k_X11_judge_104, k_X11_judge_112, k_X11_judge_119, k_X11_judge_126, k_X11_judge_130, k_X11_judge_142, k_X11_judge_150, k_X11_judge_158, k_X11_judge_165, k_X11_judge_168, k_X11_judge_169, k_X11_judge_177, k_X11_judge_192, k_X11_judge_204, k_X11_judge_213, k_X11_judge_215, k_X11_judge_218, k_X11_judge_226, k_X11_judge_243, k_X11_judge_254, k_X11_judge_258, k_X11_judge_259, li_0, li_1, li_2, li_3, li_4, li_5, li_6, li_9, li_10, li_40, lm_1, lm_2, lm_3, lm_4, zs_ap, i32_add, i32_sub, i32_mul, i32_neg, i32_lt, i32_le, i32_eq, i32_nat, ckn, pka_r, pka_v, if_pos, if_neg, if_true, if_false, i32_to64, lj_0, lj_9, zs_u2, s_inZ, bI_t, bI_f, hl, u2f (show 14 ≠ 1 by decide), u2f (show 10 ≠ 1 by decide), h1, c2]
      · rw [if_neg c2]
        simp (disch := omega) only [k_X11_judge_0, k_X11_judge_19, k_X11_judge_22, k_X11_judge_25, k_X11_judge_33, k_X11_judge_40, k_X11_judge_45, k_X11_judge_48, k_X11_judge_51, k_X11_judge_56, k_X11_judge_58, k_X11_judge_61, k_X11_judge_88, k_X11_judge_104, k_X11_judge_112, k_X11_judge_119, k_X11_judge_126, k_X11_judge_130, k_X11_judge_142, k_X11_judge_150, k_X11_judge_158, k_X11_judge_165, k_X11_judge_168, k_X11_judge_169, k_X11_judge_177, k_X11_judge_192, k_X11_judge_204, k_X11_judge_213, k_X11_judge_215, k_X11_judge_218, k_X11_judge_226, k_X11_judge_243, k_X11_judge_254, k_X11_judge_258, k_X11_judge_259, li_0, li_1, li_2, li_3, li_4, li_5, li_6, li_9, li_10, li_40, lm_1, lm_2, lm_3, lm_4, zs_ap, i32_add, i32_sub, i32_mul, i32_neg, i32_lt, i32_le, i32_eq, i32_nat, ckn, pka_r, pka_v, if_pos, if_neg, if_true, if_false, i32_to64, lj_0, lj_9, zs_u2, s_inZ, bI_t, bI_f, hl, u2f (show 14 ≠ 1 by decide), u2f (show 10 ≠ 1 by decide), h1]
        rfl
    unfold aJudge jall
    rw [if_pos c1, Int.toNat_natCast, e0]
    generalize len / jwd m = qq at *
    generalize len % jwd m = rr at *
    by_cases c2 : rr = 0
    · by_cases c3 : qq ≤ 40
      · rw [if_pos ⟨c2, c3⟩]
        have hx2 : JX Z (u2 (u2 (u2 (u2 (u2 Z 140 1 0) 140 62 1) 140 63 (-1)) 140 64 (-1)) 167 0 (qbeg m : Int)) := JX_167 (JX_140 (JX_140 (JX_140 hx1 (by omega)) (by omega)) (by omega))
        obtain ⟨Z', q1, q2, q3, q4⟩ := jd_loop (d := d) (J := J) (p0 := p0) (p1 := p1) (p2 := p2) (p3 := p3) (p4 := p4) (p5 := p5) (p6 := p6) (p7 := p7) h ht (dd := dn) (n := qq) (by omega) (by omega) (i32 (len : Int)) (i32 ((jwd m : Nat) : Int)) qq 0 (qfst m) (fun _ => qbeg m) _ none none (by omega) (by omega) hx2 (by rw [u2a (by decide), u2f (by decide), u2f (by decide), u2s]) (by rw [u2a (by decide), u2f (by decide), u2s]) (by rw [u2a (by decide), u2s]) (fun x hxx => by
          rw [show x = 0 by omega, u2s]
          exact ⟨rfl, by omega⟩)
        refine ⟨Z', q1, ?_, fun _ => q2, fun q => ?_, ?_⟩
        · rw [q3, u2a (by decide), u2f (by decide), u2f (by decide), u2f (by decide), u2s]
        · split at q <;> omega
        · simp (disch := omega) only [k_X11_judge_0, k_X11_judge_19, k_X11_judge_22, k_X11_judge_25, k_X11_judge_33, k_X11_judge_40, k_X11_judge_41, k_X11_judge_45, k_X11_judge_48, k_X11_judge_51, k_X11_judge_56, k_X11_judge_58, k_X11_judge_61, k_X11_judge_88, k_X11_judge_104, k_X11_judge_112, k_X11_judge_119, k_X11_judge_126, k_X11_judge_130, k_X11_judge_142, k_X11_judge_150, k_X11_judge_158, k_X11_judge_165, k_X11_judge_168, k_X11_judge_169, k_X11_judge_177, k_X11_judge_192, k_X11_judge_204, k_X11_judge_213, k_X11_judge_215, k_X11_judge_218, k_X11_judge_226, k_X11_judge_243, k_X11_judge_254, k_X11_judge_258, k_X11_judge_259, li_0, li_1, li_2, li_3, li_4, li_5, li_6, li_9, li_10, li_40, lm_1, lm_2, lm_3, lm_4, zs_ap, i32_add, i32_sub, i32_mul, i32_neg, i32_lt, i32_le, i32_eq, i32_nat, ckn, pka_r, pka_v, if_pos, if_neg, if_true, if_false, er, ed, zs_u2, u2f (show 50 ≠ 64 by decide), u2f (show 50 ≠ 63 by decide), u2f (show 50 ≠ 62 by decide), u2f (show 50 ≠ 1 by decide), show Int.toNat 0 = 0 from rfl, h0, u2a (show 140 ≠ 167 by decide), u2f (show 15 ≠ 64 by decide), u2f (show 15 ≠ 63 by decide), u2f (show 15 ≠ 62 by decide), u2f (show 15 ≠ 1 by decide), h1]
          exact q4
      · rw [if_neg (fun q => c3 q.2)]
        refine ⟨u2 Z 140 1 0, hx1, u2s, fun q => absurd q (by omega), fun _ j j1 j2 => u2f (by omega), ?_⟩
        simp (disch := omega) only [k_X11_judge_0, k_X11_judge_19, k_X11_judge_22, k_X11_judge_25, k_X11_judge_33, k_X11_judge_40, k_X11_judge_41, k_X11_judge_45, k_X11_judge_48, k_X11_judge_51, k_X11_judge_56, k_X11_judge_58, k_X11_judge_61, k_X11_judge_88, k_X11_judge_104, k_X11_judge_112, k_X11_judge_119, k_X11_judge_126, k_X11_judge_130, k_X11_judge_142, k_X11_judge_150, k_X11_judge_158, k_X11_judge_165, k_X11_judge_168, k_X11_judge_169, k_X11_judge_177, k_X11_judge_192, k_X11_judge_204, k_X11_judge_213, k_X11_judge_215, k_X11_judge_218, k_X11_judge_226, k_X11_judge_243, k_X11_judge_254, k_X11_judge_258, k_X11_judge_259, li_0, li_1, li_2, li_3, li_4, li_5, li_6, li_9, li_10, li_40, lm_1, lm_2, lm_3, lm_4, zs_ap, i32_add, i32_sub, i32_mul, i32_neg, i32_lt, i32_le, i32_eq, i32_nat, ckn, pka_r, pka_v, if_pos, if_neg, if_true, if_false, er, ed]
    · rw [if_neg (fun q => c2 q.1)]
      refine ⟨u2 Z 140 1 0, hx1, u2s, fun q => absurd q (by omega), fun _ j j1 j2 => u2f (by omega), ?_⟩
      simp (disch := omega) only [k_X11_judge_0, k_X11_judge_19, k_X11_judge_22, k_X11_judge_25, k_X11_judge_33, k_X11_judge_40, k_X11_judge_41, k_X11_judge_45, k_X11_judge_48, k_X11_judge_51, k_X11_judge_56, k_X11_judge_58, k_X11_judge_61, k_X11_judge_88, k_X11_judge_104, k_X11_judge_112, k_X11_judge_119, k_X11_judge_126, k_X11_judge_130, k_X11_judge_142, k_X11_judge_150, k_X11_judge_158, k_X11_judge_165, k_X11_judge_168, k_X11_judge_169, k_X11_judge_177, k_X11_judge_192, k_X11_judge_204, k_X11_judge_213, k_X11_judge_215, k_X11_judge_218, k_X11_judge_226, k_X11_judge_243, k_X11_judge_254, k_X11_judge_258, k_X11_judge_259, li_0, li_1, li_2, li_3, li_4, li_5, li_6, li_9, li_10, li_40, lm_1, lm_2, lm_3, lm_4, zs_ap, i32_add, i32_sub, i32_mul, i32_neg, i32_lt, i32_le, i32_eq, i32_nat, ckn, pka_r, pka_v, if_pos, if_neg, if_true, if_false, er, ed]
  · unfold aJudge
    rw [if_neg c1]
    refine ⟨u2 Z 140 1 0, hx1, u2s, fun q => absurd q (by omega), fun _ j j1 j2 => u2f (by omega), ?_⟩
    rw [e_X11_judge]
    simp (disch := omega) only [k_X11_judge_0, k_X11_judge_19, k_X11_judge_22, k_X11_judge_25, k_X11_judge_33, k_X11_judge_40, k_X11_judge_41, k_X11_judge_45, k_X11_judge_48, k_X11_judge_51, k_X11_judge_56, k_X11_judge_58, k_X11_judge_61, k_X11_judge_88, k_X11_judge_104, k_X11_judge_112, k_X11_judge_119, k_X11_judge_126, k_X11_judge_130, k_X11_judge_142, k_X11_judge_150, k_X11_judge_158, k_X11_judge_165, k_X11_judge_168, k_X11_judge_169, k_X11_judge_177, k_X11_judge_192, k_X11_judge_204, k_X11_judge_213, k_X11_judge_215, k_X11_judge_218, k_X11_judge_226, k_X11_judge_243, k_X11_judge_254, k_X11_judge_258, k_X11_judge_259, li_0, li_1, li_2, li_3, li_4, li_5, li_6, li_9, li_10, li_40, lm_1, lm_2, lm_3, lm_4, zs_ap, i32_add, i32_sub, i32_mul, i32_neg, i32_lt, i32_le, i32_eq, i32_nat, ckn, pka_r, pka_v, if_pos, if_neg, if_true, if_false, i32_to64, lj_0, lj_9, zs_u2, s_inZ, bI_t, bI_f]
end
