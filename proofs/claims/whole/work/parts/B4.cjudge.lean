/-! THE CLASS'S judge -/
section
variable {d : Nat} {J : Nat → Nat → Int64} {Z : Nat → Nat → Int} {p0 p1 p5 p6 : Nat} {m : Mat} {tp : Nat → Nat}
theorem HX_KI {Z' : Nat → Nat → Int} (h : KI m p0 Z) (hf : HX Z Z') : KI m p0 Z' := KI_fr h (fun a ha => hf a (by omega) (by omega) (by omega))
theorem HX_tr {Z1 Z2 Z3 : Nat → Nat → Int} (h1 : HX Z1 Z2) (h2 : HX Z2 Z3) : HX Z1 Z3 := fun a a1 a2 a3 => (h2 a a1 a2 a3).trans (h1 a a1 a2 a3)
theorem he_loop (h : KI m p0 Z) (ht : TC tp Z) {len : Nat} (hl : len ≤ 700) (h1 : Z 1 1 = (len : Int)) {dd n : Nat} (hd : dd ≤ 9) (hn : n ≤ 40) (hln : jwd m * n = len) (x3 : Int32) : ∀ (j k t : Nat) (ps : Nat → Nat) (Z1 : Nat → Nat → Int) (o7 o8 o9 : Option Value), k + j = n → t < qS m → HX Z Z1 → (∀ x : Nat, x ≤ k → Z1 130 x = (ps x : Int) ∧ ps x < qN m) → ∃ Z' : Nat → Nat → Int, HX Z Z' ∧ HG Z' (jrun m tp dd j k ps t) ∧ den none (Mean (d + 5)) (some .int) tQ_X1_hear (91, [some (.ref 129), some (.int (i32 (dd : Int))), some (.ref p0), some (.int x3), some (.int (i32 (n : Int))), some (.int (i32 (t : Int))), some (.int (i32 (k : Int))), o7, o8, o9], [], 176, zs Z1, J, RP p0 p1 p0 35 p0 p5 p6 97) = some (some (.int (i32 (if (jrun m tp dd j k ps t).1 = -1 ∧ (jrun m tp dd j k ps t).2.2.1 = qfin m then 1 else 0))), (176, zs Z', J, RP p0 p1 p0 35 p0 p5 p6 97)) := by
  have hw := h.1
  have hS := hw.1
  have hN := hw.2.2.2.2.2.2
  have hfl := qfin_lt hw
  have hp := h.2.1
  unfold hv2 at hp
  have hjw : 1 ≤ jwd m ∧ jwd m ≤ 3 := by
    unfold jwd
    split <;> omega
  intro j
  induction j with
  | zero =>
    intro k t ps Z1 o7 o8 o9 hk htS hx hps
    obtain ⟨Z', e1, e2, e3⟩ := h_concl (d := d + 4) (J := J) (p1 := p1) (p5 := p5) (p6 := p6) (HX_KI h hx) (bs := -1) (sd := -1) (by omega) (k := k) (by omega) (hps k (Nat.le_refl _)).1 (hps k (Nat.le_refl _)).2
    refine ⟨Z', HX_tr hx e1, e2, ?_⟩
    have ek : k = n := by omega
    subst ek
    show _ = some (some (Value.int (i32 (if (-1 : Int) = -1 ∧ ps k = qfin m then 1 else 0))), (176, zs Z', J, RP p0 p1 p0 35 p0 p5 p6 97))
    generalize (if (-1 : Int) = -1 ∧ ps k = qfin m then (1 : Int) else 0) = v at e3 ⊢
    rw [k_X1_hear_91]
    simp (disch := omega) only [k_X1_hear_0, k_X1_hear_16, k_X1_hear_23, k_X1_hear_24, k_X1_hear_30, k_X1_hear_44, k_X1_hear_53, k_X1_hear_56, k_X1_hear_58, k_X1_hear_67, k_X1_hear_88, k_X1_hear_98, k_X1_hear_105, k_X1_hear_115, k_X1_hear_119, k_X1_hear_120, k_X1_hear_127, k_X1_hear_131, k_X1_hear_143, k_X1_hear_150, k_X1_hear_156, k_X1_hear_160, k_X1_hear_168, k_X1_hear_176, k_X1_hear_186, k_X1_hear_187, k_X1_hear_198, k_X1_hear_204, k_X1_hear_212, k_X1_hear_220, li_0, li_1, li_2, li_3, li_4, li_5, li_6, li_9, li_10, li_40, lm_1, lm_2, lm_3, lm_4, zs_ap, i32_add, i32_sub, i32_mul, i32_neg, i32_lt, i32_le, i32_eq, i32_nat, ckn, pka_r, pka_v, if_pos, if_neg, if_true, if_false, e3]
  | succ j ih =>
    intro k t ps Z1 o7 o8 o9 hk htS hx hps
    have hKI := HX_KI h hx
    have hz3 : Z1 35 3 = (qfin m : Int) := hKI.2.2.2.1.1.2.2
    obtain ⟨hp1, hp2⟩ := hps k (Nat.le_refl _)
    have hjb := jstep_b (m := m) (tp := tp) (s := ps k) (k := k) (t := t)
    have hwb := jst_b m (ps k) (ps (k - dd)) (j + 1)
    rw [jrun_s]
    have hwb2 : -1 ≤ jwho m dd (j + 1) k ps ∧ jwho m dd (j + 1) k ps ≤ 2 := by
      unfold jwho
      split
      · omega
      · exact hwb
    have htb : jto m tp dd (j + 1) k ps t = -1 ∨ (0 ≤ jto m tp dd (j + 1) k ps t ∧ jto m tp dd (j + 1) k ps t ≤ ps k) := by
      unfold jto
      split
      · exact hjb
      · exact Or.inl rfl
    have e1 : ∃ (Z2 : Nat → Nat → Int) (x7 : Int32), (HX Z Z2 ∧ (∀ x : Nat, x ≤ k → Z2 130 x = (ps x : Int) ∧ ps x < qN m)) ∧ den none (Mean (d + 5)) (some .int) tQ_X1_hear (91, [some (.ref 129), some (.int (i32 (dd : Int))), some (.ref p0), some (.int x3), some (.int (i32 (n : Int))), some (.int (i32 (t : Int))), some (.int (i32 (k : Int))), o7, o8, o9], [], 176, zs Z1, J, RP p0 p1 p0 35 p0 p5 p6 97) = den none (Mean (d + 5)) (some .int) tQ_X1_hear (168, [some (.ref 129), some (.int (i32 (dd : Int))), some (.ref p0), some (.int x3), some (.int (i32 (n : Int))), some (.int (i32 (t : Int))), some (.int (i32 (k : Int))), some (.int x7), some (.int (i32 (jwho m dd (j + 1) k ps))), o9], [.int (i32 (jto m tp dd (j + 1) k ps t))], 176, zs Z2, J, RP p0 p1 p0 35 p0 p5 p6 97) := by
      by_cases cf : ps k = qfin m
      · refine ⟨Z1, i32 1, ⟨hx, hps⟩, ?_⟩
        have ew : jwho m dd (j + 1) k ps = -1 := if_pos cf
        have et : jto m tp dd (j + 1) k ps t = -1 := by
          unfold jto
          rw [if_pos ew]
          exact if_pos cf
        rw [ew, et, k_X1_hear_91]
        simp (disch := omega) only [k_X1_hear_0, k_X1_hear_16, k_X1_hear_23, k_X1_hear_24, k_X1_hear_30, k_X1_hear_44, k_X1_hear_53, k_X1_hear_56, k_X1_hear_58, k_X1_hear_67, k_X1_hear_88, k_X1_hear_98, k_X1_hear_105, k_X1_hear_115, k_X1_hear_119, k_X1_hear_120, k_X1_hear_127, k_X1_hear_131, k_X1_hear_143, k_X1_hear_150, k_X1_hear_156, k_X1_hear_160, k_X1_hear_176, k_X1_hear_186, k_X1_hear_187, k_X1_hear_198, k_X1_hear_204, k_X1_hear_212, k_X1_hear_220, li_0, li_1, li_2, li_3, li_4, li_5, li_6, li_9, li_10, li_40, lm_1, lm_2, lm_3, lm_4, zs_ap, i32_add, i32_sub, i32_mul, i32_neg, i32_lt, i32_le, i32_eq, i32_nat, ckn, pka_r, pka_v, if_pos, if_neg, if_true, if_false, Int.toNat_natCast, hp1, hz3]
      · have ew : jwho m dd (j + 1) k ps = jst m (ps k) (ps (k - dd)) (j + 1) := if_neg cf
        obtain ⟨Z2, f1, f2⟩ := h_first (d := d + 2) (J := J) (p1 := p1) (p5 := p5) (p6 := p6) hKI (k := k) (n := j + 1) (dd := dd) (by omega) (by omega) (by omega) hp1 (hps (k - dd) (by omega)).1 hp2 (hps (k - dd) (by omega)).2
        rw [show ((j + 1 : Nat) : Int) = (n : Int) - (k : Int) by omega] at f2
        have hx2 : HX Z Z2 := HX_tr hx (fun a a1 a2 a3 => f1 a a3)
        have hps2 : ∀ x : Nat, x ≤ k → Z2 130 x = (ps x : Int) ∧ ps x < qN m := fun x hxk => by
          rw [f1 130 (by omega)]
          exact hps x hxk
        refine ⟨Z2, i32 0, ⟨hx2, hps2⟩, ?_⟩
        rw [← ew] at f2
        by_cases cw : jwho m dd (j + 1) k ps = -1
        · have et : jto m tp dd (j + 1) k ps t = jstep m tp (ps k) k t := if_pos cw
          have hkl : jwd m * k + jwd m ≤ len := by
            rw [← hln, ← Nat.mul_succ]
            exact Nat.mul_le_mul_left _ (by omega)
          have st := h_step (d := d) (J := J) (p1 := p1) (p5 := p5) (p6 := p6) (HX_KI h hx2) (tp := tp) (fun x hxx => by rw [hx2 2 (by omega) (by omega) (by omega)]; exact ht x hxx) hl (by rw [hx2 1 (by omega) (by omega) (by omega)]; exact h1) hp2 cf (k := k) (t := t) (by omega) hkl (hps2 k (Nat.le_refl _)).1 (by omega)
          rw [cw] at f2
          rw [et, cw, k_X1_hear_91]
          simp (disch := omega) only [k_X1_hear_0, k_X1_hear_16, k_X1_hear_23, k_X1_hear_24, k_X1_hear_30, k_X1_hear_44, k_X1_hear_53, k_X1_hear_56, k_X1_hear_58, k_X1_hear_67, k_X1_hear_88, k_X1_hear_98, k_X1_hear_105, k_X1_hear_115, k_X1_hear_119, k_X1_hear_120, k_X1_hear_127, k_X1_hear_131, k_X1_hear_143, k_X1_hear_150, k_X1_hear_156, k_X1_hear_160, k_X1_hear_176, k_X1_hear_186, k_X1_hear_187, k_X1_hear_198, k_X1_hear_204, k_X1_hear_212, k_X1_hear_220, li_0, li_1, li_2, li_3, li_4, li_5, li_6, li_9, li_10, li_40, lm_1, lm_2, lm_3, lm_4, zs_ap, i32_add, i32_sub, i32_mul, i32_neg, i32_lt, i32_le, i32_eq, i32_nat, ckn, pka_r, pka_v, if_pos, if_neg, if_true, if_false, Int.toNat_natCast, hp1, hz3, f2, st]
        · have et : jto m tp dd (j + 1) k ps t = -1 := if_neg cw
          rw [et, k_X1_hear_91]
          simp (disch := omega) only [k_X1_hear_0, k_X1_hear_16, k_X1_hear_23, k_X1_hear_24, k_X1_hear_30, k_X1_hear_44, k_X1_hear_53, k_X1_hear_56, k_X1_hear_58, k_X1_hear_67, k_X1_hear_88, k_X1_hear_98, k_X1_hear_105, k_X1_hear_115, k_X1_hear_119, k_X1_hear_120, k_X1_hear_127, k_X1_hear_131, k_X1_hear_143, k_X1_hear_150, k_X1_hear_156, k_X1_hear_160, k_X1_hear_176, k_X1_hear_186, k_X1_hear_187, k_X1_hear_198, k_X1_hear_204, k_X1_hear_212, k_X1_hear_220, li_0, li_1, li_2, li_3, li_4, li_5, li_6, li_9, li_10, li_40, lm_1, lm_2, lm_3, lm_4, zs_ap, i32_add, i32_sub, i32_mul, i32_neg, i32_lt, i32_le, i32_eq, i32_nat, ckn, pka_r, pka_v, if_pos, if_neg, if_true, if_false, Int.toNat_natCast, hp1, hz3, f2]
    obtain ⟨Z2, x7, ⟨hx2, hps2⟩, e1⟩ := e1
    rw [e1]
    by_cases cb : jto m tp dd (j + 1) k ps t = -1
    · rw [if_pos cb]
      obtain ⟨Z', q1, q2, q3⟩ := h_concl (d := d + 4) (J := J) (p1 := p1) (p5 := p5) (p6 := p6) (HX_KI h hx2) (bs := (k : Int)) (sd := jwho m dd (j + 1) k ps) (by omega) (k := k) (by omega) (hps2 k (Nat.le_refl _)).1 hp2
      refine ⟨Z', HX_tr hx2 q1, q2, ?_⟩
      rw [cb]
      simp (disch := omega) only [k_X1_hear_0, k_X1_hear_16, k_X1_hear_23, k_X1_hear_24, k_X1_hear_30, k_X1_hear_44, k_X1_hear_53, k_X1_hear_56, k_X1_hear_58, k_X1_hear_67, k_X1_hear_88, k_X1_hear_98, k_X1_hear_105, k_X1_hear_115, k_X1_hear_119, k_X1_hear_120, k_X1_hear_127, k_X1_hear_131, k_X1_hear_143, k_X1_hear_150, k_X1_hear_156, k_X1_hear_160, k_X1_hear_168, k_X1_hear_176, k_X1_hear_186, k_X1_hear_187, k_X1_hear_198, k_X1_hear_204, k_X1_hear_212, k_X1_hear_220, li_0, li_1, li_2, li_3, li_4, li_5, li_6, li_9, li_10, li_40, lm_1, lm_2, lm_3, lm_4, zs_ap, i32_add, i32_sub, i32_mul, i32_neg, i32_lt, i32_le, i32_eq, i32_nat, ckn, pka_r, pka_v, if_pos, if_neg, if_true, if_false, q3]
    · rw [if_neg cb]
      have htb2 : 0 ≤ jto m tp dd (j + 1) k ps t ∧ jto m tp dd (j + 1) k ps t ≤ ps k := by omega
      obtain ⟨Z', q1, q2, q3⟩ := ih (k + 1) ((t + 1) % qS m) (up1 ps (k + 1) (jto m tp dd (j + 1) k ps t).toNat) (u2 Z2 130 (k + 1) (jto m tp dd (j + 1) k ps t)) (some (.int x7)) (some (.int (i32 (jwho m dd (j + 1) k ps)))) (some (.int (i32 (jto m tp dd (j + 1) k ps t)))) (by omega) (Nat.mod_lt _ (by omega)) (fun a a1 a2 a3 => (u2_ne a2).trans (hx2 a a1 a2 a3)) (fun x hxk => by
        unfold up1
        by_cases c : x = k + 1
        · subst c
          rw [if_pos rfl, u2s]
          omega
        · rw [if_neg c, u2f c]
          exact hps2 x (by omega))
      refine ⟨Z', q1, q2, ?_⟩
      have hK2 : KI m p0 (u2 Z2 130 (k + 1) (jto m tp dd (j + 1) k ps t)) := KI_fr (HX_KI h hx2) (fun a ha => u2_ne (by omega))
      have sa := h_sideAfter (d := d + 4) (J := J) (Z := u2 Z2 130 (k + 1) (jto m tp dd (j + 1) k ps t)) (p0 := p0) (p1 := p1) (p2 := p0) (p3 := 35) (p4 := p0) (p5 := p5) (p6 := p6) (p7 := 97) (h := p0) (by unfold hv3; omega) hS.2 hK2.2.2.1.1.1 htS
      simp (disch := omega) only [k_X1_hear_0, k_X1_hear_16, k_X1_hear_23, k_X1_hear_24, k_X1_hear_30, k_X1_hear_44, k_X1_hear_53, k_X1_hear_56, k_X1_hear_58, k_X1_hear_67, k_X1_hear_88, k_X1_hear_98, k_X1_hear_105, k_X1_hear_115, k_X1_hear_119, k_X1_hear_120, k_X1_hear_127, k_X1_hear_131, k_X1_hear_143, k_X1_hear_150, k_X1_hear_156, k_X1_hear_160, k_X1_hear_168, k_X1_hear_176, k_X1_hear_186, k_X1_hear_187, k_X1_hear_198, k_X1_hear_204, k_X1_hear_212, k_X1_hear_220, li_0, li_1, li_2, li_3, li_4, li_5, li_6, li_9, li_10, li_40, lm_1, lm_2, lm_3, lm_4, zs_ap, i32_add, i32_sub, i32_mul, i32_neg, i32_lt, i32_le, i32_eq, i32_nat, ckn, pka_r, pka_v, if_pos, if_neg, if_true, if_false, show ((k : Int) + 1).toNat = k + 1 by omega, zs_u2, sa]
      exact q3
theorem h_judge (h : KI m p0 Z) (ht : TC tp Z) {len : Nat} (hl : len ≤ 700) (h1 : Z 1 1 = (len : Int)) {dd : Int} (hd : -2147483648 ≤ dd ∧ dd < 2147483648) : ∃ Z' : Nat → Nat → Int, (∀ a : Nat, a ≠ 1 → a ≠ 129 → a ≠ 130 → a ≠ 131 → Z' a = Z a) ∧ (∀ j : Nat, j ≠ 1 → Z' 1 j = Z 1 j) ∧ Z' 1 1 = 0 ∧ (0 ≤ aJudge m tp len dd → HG Z' (jall m tp len dd.toNat)) ∧ (aJudge m tp len dd < 0 → Z' 129 = Z 129) ∧ Mean (d + 7) 130 [.ref 0, .int (i32 dd)] (176, zs Z, J, RP p0 p1 p0 35 p0 p5 p6 97) = some (some (.int (i32 (aJudge m tp len dd))), (176, zs Z', J, RP p0 p1 p0 35 p0 p5 p6 97)) := by
  have hw := h.1
  have hS := hw.1
  have hN := hw.2.2.2.2.2.2
  have hfst := hw.2.2.2.2.2.1.2.2.2.1
  have hp := h.2.1
  unfold hv2 at hp
  have z1 : Z p0 1 = (qS m : Int) := h.2.2.1.1.1
  have z13 : Z p0 13 = (qmode m : Int) := h.2.2.1.1.2.2.2.2.1
  have z14 : Z p0 14 = (qfst m : Int) := h.2.2.1.1.2.2.2.2.2.1
  have z2 : Z 35 2 = (qbeg m : Int) := h.2.2.2.1.1.2.1
  have hmd := hw.2.2.2.2.2.1.2.2.1
  have hjw : 1 ≤ jwd m ∧ jwd m ≤ 3 := by
    unfold jwd
    split <;> omega
  have wi := h_within (d := d + 5) (J := J) (Z := Z) (p0 := p0) (p1 := p1) (p2 := p0) (p3 := 35) (p4 := p0) (p5 := p5) (p6 := p6) (p7 := 97) hd (lo := 0) (hi := 9) (by omega) (by omega)
  unfold aJudge
  by_cases c1 : 0 ≤ dd ∧ dd ≤ 9
  · obtain ⟨dn, rfl⟩ : ∃ dn : Nat, dd = dn := ⟨dd.toNat, by omega⟩
    rw [bI_t c1] at wi
    rw [if_pos c1, Int.toNat_natCast]
    have e0 : Mean (d + 6) 12 [.ref 129, .int (i32 (dn : Int))] (176, zs Z, J, RP p0 p1 p0 35 p0 p5 p6 97) = den none (Mean (d + 5)) (some .int) tQ_X1_hear (24, [some (.ref 129), some (.int (i32 (dn : Int))), some (.ref p0), none, none, none, none, none, none, none], [.int (i32 ((jwd m : Nat) : Int))], 176, zs Z, J, RP p0 p1 p0 35 p0 p5 p6 97) := by
      rw [e_X1_hear, k_X1_hear_0 (hv_p2 := by omega)]
      unfold jwd
      by_cases c2 : qmode m = 2
      · rw [if_pos c2]
        simp (disch := omega) only [k_X1_hear_0, k_X1_hear_16, k_X1_hear_23, k_X1_hear_30, k_X1_hear_44, k_X1_hear_53, k_X1_hear_56, k_X1_hear_58, k_X1_hear_67, k_X1_hear_88, k_X1_hear_98, k_X1_hear_105, k_X1_hear_115, k_X1_hear_119, k_X1_hear_120, k_X1_hear_127, k_X1_hear_131, k_X1_hear_143, k_X1_hear_150, k_X1_hear_156, k_X1_hear_160, k_X1_hear_168, k_X1_hear_176, k_X1_hear_186, k_X1_hear_187, k_X1_hear_198, k_X1_hear_204, k_X1_hear_212, k_X1_hear_220, li_0, li_1, li_2, li_3, li_4, li_5, li_6, li_9, li_10, li_40, lm_1, lm_2, lm_3, lm_4, zs_ap, i32_add, i32_sub, i32_mul, i32_neg, i32_lt, i32_le, i32_eq, i32_nat, ckn, pka_r, pka_v, if_pos, if_neg, if_true, if_false, z13, z1]
      · rw [if_neg c2]
        simp (disch := omega) only [k_X1_hear_0, k_X1_hear_16, k_X1_hear_23, k_X1_hear_30, k_X1_hear_44, k_X1_hear_53, k_X1_hear_56, k_X1_hear_58, k_X1_hear_67, k_X1_hear_88, k_X1_hear_98, k_X1_hear_105, k_X1_hear_115, k_X1_hear_119, k_X1_hear_120, k_X1_hear_127, k_X1_hear_131, k_X1_hear_143, k_X1_hear_150, k_X1_hear_156, k_X1_hear_160, k_X1_hear_168, k_X1_hear_176, k_X1_hear_186, k_X1_hear_187, k_X1_hear_198, k_X1_hear_204, k_X1_hear_212, k_X1_hear_220, li_0, li_1, li_2, li_3, li_4, li_5, li_6, li_9, li_10, li_40, lm_1, lm_2, lm_3, lm_4, zs_ap, i32_add, i32_sub, i32_mul, i32_neg, i32_lt, i32_le, i32_eq, i32_nat, ckn, pka_r, pka_v, if_pos, if_neg, if_true, if_false, z13]
        rfl
    have er := rem_q (a := len) (S := jwd m) (by omega) (by omega) (by omega)
    have ed : i32 (len : Int) / i32 ((jwd m : Nat) : Int) = i32 ((len / jwd m : Nat) : Int) := by
      rw [i32_div (by omega) (by omega)]
      rfl
    rw [ed, i32_mul] at er
    have hdm := Nat.div_add_mod len (jwd m)
    have hml : (len % jwd m) < jwd m := Nat.mod_lt _ (by omega)
    have hq : len / jwd m ≤ 700 := Nat.le_trans (Nat.div_le_self _ _) hl
    by_cases c2 : len % jwd m = 0 ∧ len / jwd m ≤ 40
    · have hln : jwd m * (len / jwd m) = len := by omega
      have hle : ¬ (40 * ((jwd m : Nat) : Int) < (len : Int)) := by
        have := Nat.mul_le_mul_left (jwd m) c2.2
        rw [hln] at this
        omega
      obtain ⟨Z1, a1, a2, a3⟩ := he_loop (d := d) (J := J) (p1 := p1) (p5 := p5) (p6 := p6) h ht hl h1 (dd := dn) (n := len / jwd m) (by omega) c2.2 hln (i32 ((jwd m : Nat) : Int)) (len / jwd m) 0 (qfst m) (fun _ => qbeg m) (u2 Z 130 0 (qbeg m : Int)) none none none (by omega) hfst (fun a b1 b2 b3 => u2_ne b2) (fun x hx => by
        have : x = 0 := by omega
        subst this
        rw [u2s]
        exact ⟨rfl, qbeg_lt m⟩)
      have e1 : Mean (d + 6) 12 [.ref 129, .int (i32 (dn : Int))] (176, zs Z, J, RP p0 p1 p0 35 p0 p5 p6 97) = some (some (.int (i32 (if (jall m tp len dn).1 = -1 ∧ (jall m tp len dn).2.2.1 = qfin m then 1 else 0))), (176, zs Z1, J, RP p0 p1 p0 35 p0 p5 p6 97)) := by
        rw [e0]
        refine Eq.trans ?_ a3
        simp (disch := omega) only [k_X1_hear_24, k_X1_hear_30, k_X1_hear_44, k_X1_hear_53, k_X1_hear_58, k_X1_hear_67, k_X1_hear_88, h1, zs_ap, li_0, li_1, li_40, i32_mul, i32_lt, i32_eq, if_neg, if_pos, ed, er, c2.1, z2, z14, zs_u2, show Int.toNat 0 = 0 from rfl, i32_nat, ckn]
        rfl
      have ec := h_tclear (d := d + 5) (J := J) (Z := Z1) (p0 := p0) (p1 := p1) (p2 := p0) (p3 := 35) (p4 := p0) (p5 := p5) (p6 := p6) (p7 := 97)
      rw [if_pos c2]
      refine ⟨u2 Z1 1 1 0, fun a b1 b2 b3 b4 => (u2_ne b1).trans (a1 a b2 b3 b4), fun j hj => ?_, u2s, fun _ => ?_, fun hneg => ?_, ?_⟩
      · rw [u2f hj, a1 1 (by omega) (by omega) (by omega)]
      · unfold HG
        rw [u2_ne (show 129 ≠ 1 by omega)]
        exact a2
      · split at hneg <;> omega
      · rw [e_X10_judge, k_X10_judge_0]
        simp (disch := omega) only [k_X10_judge_7, k_X10_judge_10, k_X10_judge_18, k_X10_judge_21, k_X10_judge_23, k_X10_judge_31, li_0, li_1, li_2, li_3, li_4, li_5, li_6, li_9, li_10, li_40, lm_1, lm_2, lm_3, lm_4, zs_ap, i32_add, i32_sub, i32_mul, i32_neg, i32_lt, i32_le, i32_eq, i32_nat, ckn, pka_r, pka_v, if_pos, if_neg, if_true, if_false, wi, e1, ec]
    · have e1 : Mean (d + 6) 12 [.ref 129, .int (i32 (dn : Int))] (176, zs Z, J, RP p0 p1 p0 35 p0 p5 p6 97) = some (some (.int (i32 (-1))), (176, zs Z, J, RP p0 p1 p0 35 p0 p5 p6 97)) := by
        rw [e0]
        by_cases c3 : 40 * ((jwd m : Nat) : Int) < (len : Int)
        · simp (disch := omega) only [k_X1_hear_24, k_X1_hear_30, k_X1_hear_56, h1, zs_ap, li_1, li_40, lm_1, i32_neg, i32_mul, i32_lt, if_neg, if_pos]
        · have hr : ((len % jwd m : Nat) : Int) ≠ 0 := fun q => c2 ⟨by omega, by
            have hln : jwd m * (len / jwd m) = len := by omega
            rcases Nat.lt_or_ge 40 (len / jwd m) with q | q
            · have h9 := Nat.mul_le_mul_left (jwd m) (show 41 ≤ len / jwd m from q)
              rw [hln] at h9
              omega
            · exact q⟩
          simp (disch := omega) only [k_X1_hear_24, k_X1_hear_30, k_X1_hear_44, k_X1_hear_53, k_X1_hear_56, h1, zs_ap, li_0, li_1, li_40, lm_1, i32_neg, i32_mul, i32_lt, i32_eq, if_neg, if_pos, if_false, ed, er, hr]
      have ec := h_tclear (d := d + 5) (J := J) (Z := Z) (p0 := p0) (p1 := p1) (p2 := p0) (p3 := 35) (p4 := p0) (p5 := p5) (p6 := p6) (p7 := 97)
      rw [if_neg c2]
      refine ⟨u2 Z 1 1 0, fun a b1 b2 b3 b4 => u2_ne b1, fun j hj => u2f hj, u2s, fun hpos => by omega, fun _ => u2_ne (by omega), ?_⟩
      rw [e_X10_judge, k_X10_judge_0]
      simp (disch := omega) only [k_X10_judge_7, k_X10_judge_10, k_X10_judge_18, k_X10_judge_21, k_X10_judge_23, k_X10_judge_31, li_0, li_1, li_2, li_3, li_4, li_5, li_6, li_9, li_10, li_40, lm_1, lm_2, lm_3, lm_4, zs_ap, i32_add, i32_sub, i32_mul, i32_neg, i32_lt, i32_le, i32_eq, i32_nat, ckn, pka_r, pka_v, if_pos, if_neg, if_true, if_false, wi, e1, ec]
  · rw [bI_f c1] at wi
    have ec := h_tclear (d := d + 5) (J := J) (Z := Z) (p0 := p0) (p1 := p1) (p2 := p0) (p3 := 35) (p4 := p0) (p5 := p5) (p6 := p6) (p7 := 97)
    rw [if_neg c1]
    refine ⟨u2 Z 1 1 0, fun a b1 b2 b3 b4 => u2_ne b1, fun j hj => u2f hj, u2s, fun hpos => by omega, fun _ => u2_ne (by omega), ?_⟩
    rw [e_X10_judge, k_X10_judge_0]
    simp (disch := omega) only [k_X10_judge_7, k_X10_judge_10, k_X10_judge_18, k_X10_judge_21, k_X10_judge_23, k_X10_judge_31, li_0, li_1, li_2, li_3, li_4, li_5, li_6, li_9, li_10, li_40, lm_1, lm_2, lm_3, lm_4, zs_ap, i32_add, i32_sub, i32_mul, i32_neg, i32_lt, i32_le, i32_eq, i32_nat, ckn, pka_r, pka_v, if_pos, if_neg, if_true, if_false, wi, ec]
end
