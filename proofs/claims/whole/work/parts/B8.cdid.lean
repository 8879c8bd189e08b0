/-! THE CLASS'S did, right -/
section
variable {d : Nat} {J : Nat → Nat → Int64} {Z Y : Nat → Nat → Int} {p0 p1 p5 p6 : Nat} {m : Mat} {nd nr : Nat}
theorem h_mayTell {to st : Int} (h2 : 0 ≤ Z 132 2 ∧ Z 132 2 ≤ 999) (h1 : -2147483648 ≤ to ∧ to < 2147483648) (h5 : -2147483648 ≤ st ∧ st < 2147483648) : Mean (d + 2) 2 [.ref 132, .int (i32 to), .int (i32 st)] (176, zs Z, J, RP p0 p1 p0 35 p0 p5 p6 97) = some (some (.int (i32 (bI ((Z 132 2 ≤ to ∧ to ≤ 999) ∧ (0 ≤ st ∧ st ≤ 1))))), (176, zs Z, J, RP p0 p1 p0 35 p0 p5 p6 97)) := by
  have l999 : (999 : Int32) = i32 999 := rfl
  have w1 := h_within (d := d) (J := J) (Z := Z) (p0 := p0) (p1 := p1) (p2 := p0) (p3 := 35) (p4 := p0) (p5 := p5) (p6 := p6) (p7 := 97) h1 (lo := Z 132 2) (hi := 999) (by omega) (by omega)
  have w2 := h_within (d := d) (J := J) (Z := Z) (p0 := p0) (p1 := p1) (p2 := p0) (p3 := 35) (p4 := p0) (p5 := p5) (p6 := p6) (p7 := 97) h5 (lo := 0) (hi := 1) (by omega) (by omega)
  rw [e_X0_mayTell, k_X0_mayTell_0]
  by_cases c1 : Z 132 2 ≤ to ∧ to ≤ 999
  · rw [bI_t c1] at w1
    by_cases c2 : 0 ≤ st ∧ st ≤ 1
    · rw [bI_t c2] at w2
      rw [bI_t ⟨c1, c2⟩]
      simp (disch := omega) only [k_X0_mayTell_11, k_X0_mayTell_14, k_X0_mayTell_20, k_X0_mayTell_23, k_X0_mayTell_27, k_X0_mayTell_28, li_0, li_1, li_2, li_3, li_4, li_5, li_6, li_9, li_10, li_40, lm_1, lm_2, lm_3, lm_4, zs_ap, i32_add, i32_sub, i32_mul, i32_neg, i32_lt, i32_le, i32_eq, i32_nat, ckn, pka_r, pka_v, if_pos, if_neg, if_true, if_false, l999, w1, w2, or_true]
    · rw [bI_f c2] at w2
      rw [bI_f (fun q => c2 q.2)]
      simp (disch := omega) only [k_X0_mayTell_11, k_X0_mayTell_14, k_X0_mayTell_20, k_X0_mayTell_23, k_X0_mayTell_27, k_X0_mayTell_28, li_0, li_1, li_2, li_3, li_4, li_5, li_6, li_9, li_10, li_40, lm_1, lm_2, lm_3, lm_4, zs_ap, i32_add, i32_sub, i32_mul, i32_neg, i32_lt, i32_le, i32_eq, i32_nat, ckn, pka_r, pka_v, if_pos, if_neg, if_true, if_false, l999, w1, w2, true_or]
  · rw [bI_f c1] at w1
    rw [bI_f (fun q => c1 q.1)]
    simp (disch := omega) only [k_X0_mayTell_11, k_X0_mayTell_14, k_X0_mayTell_20, k_X0_mayTell_23, k_X0_mayTell_27, k_X0_mayTell_28, li_0, li_1, li_2, li_3, li_4, li_5, li_6, li_9, li_10, li_40, lm_1, lm_2, lm_3, lm_4, zs_ap, i32_add, i32_sub, i32_mul, i32_neg, i32_lt, i32_le, i32_eq, i32_nat, ckn, pka_r, pka_v, if_pos, if_neg, if_true, if_false, l999, w1, true_or]
theorem h_addDeed (hn : Z 132 0 = (nd : Int)) (hnd : nd < 20) (x1 x2 x3 x4 : Int) : Mean (d + 1) 4 [.ref 132, .int (i32 x1), .int (i32 x2), .int (i32 x3), .int (i32 x4)] (176, zs Z, J, RP p0 p1 p0 35 p0 p5 p6 97) = some (some (.int (i32 (nd : Int))), (176, zs (u2 (u2 (u2 (u2 (u2 (u2 Z 133 nd x1) 134 nd x2) 135 nd x3) 136 nd x4) 132 2 x1) 132 0 ((nd : Int) + 1)), J, RP p0 p1 p0 35 p0 p5 p6 97)) := by
  have n1 : u2 Z 133 nd x1 132 0 = (nd : Int) := by rw [u2_ne (by omega)]; exact hn
  have n2 : u2 (u2 Z 133 nd x1) 134 nd x2 132 0 = (nd : Int) := by rw [u2_ne (by omega)]; exact n1
  have n3 : u2 (u2 (u2 Z 133 nd x1) 134 nd x2) 135 nd x3 132 0 = (nd : Int) := by rw [u2_ne (by omega)]; exact n2
  have n4 : u2 (u2 (u2 (u2 Z 133 nd x1) 134 nd x2) 135 nd x3) 136 nd x4 132 0 = (nd : Int) := by rw [u2_ne (by omega)]; exact n3
  have n5 : u2 (u2 (u2 (u2 (u2 Z 133 nd x1) 134 nd x2) 135 nd x3) 136 nd x4) 132 2 x1 132 0 = (nd : Int) := by rw [u2f (by omega)]; exact n4
  rw [e_X0_addDeed, k_X0_addDeed_0]
  simp (disch := omega) only [li_20, zs_ap, hn, i32_lt, if_pos, if_neg, k_X0_addDeed_12, k_X0_addDeed_22, k_X0_addDeed_32, k_X0_addDeed_42, k_X0_addDeed_53, i32_nat, ckn, li_0, Int.toNat_natCast, zs_u2, n1, n2, n3, n4, n5, li_1, i32_add, u2s, i32_sub, show (nd : Int) + 1 - 1 = (nd : Int) by omega]
theorem DC_did (hv : DV m Y nd nr) (hc : DC m Z Y nd nr) (hnd : nd < 20) {to sd s n st : Int} : DC m (u2 (u2 (u2 (u2 (u2 (u2 Z 133 nd to) 134 nd sd) 135 nd (mrg m sd.toNat s.toNat n)) 136 nd st) 132 2 to) 132 0 ((nd : Int) + 1)) (dZ Y nd to sd s n st) (nd + 1) nr := by
  obtain ⟨⟨c1, c2, c3⟩, d1, d2⟩ := hc
  refine ⟨⟨?_, ?_, ?_⟩, fun k hk => ?_, fun r hr => ?_⟩
  · rw [u2s]; rfl
  · rw [u2f (by omega), u2f (by omega), u2_ne (by omega), u2_ne (by omega), u2_ne (by omega), u2_ne (by omega)]
    exact c2
  · unfold dZ
    rw [u2f (by omega), u2s, u2f (by omega), u2_ne (by omega), u2_ne (by omega), u2_ne (by omega), u2_ne (by omega), u2_ne (by omega), u2s]
  · unfold dZ
    by_cases c : k = nd
    · subst c
      simp [u2]
    · obtain ⟨q1, q2, q3, q4⟩ := d1 k (by omega)
      simp [u2, c, q1, q2, q3, q4]
  · unfold dZ
    obtain ⟨q1, q2, q3⟩ := d2 r hr
    simp [u2, q1, q2, q3]
theorem h_did (h : KI m p0 Z) (hv : DV m Y nd nr) (hc : DC m Z Y nd nr) {to sd s n st : Int} (h1 : -2147483648 ≤ to ∧ to < 2147483648) (h2 : -2147483648 ≤ sd ∧ sd < 2147483648) (h3 : -2147483648 ≤ s ∧ s < 2147483648) (h4 : -2147483648 ≤ n ∧ n < 2147483648) (h5 : -2147483648 ≤ st ∧ st < 2147483648) : ∃ Z' : Nat → Nat → Int, (∀ a : Nat, (a < 132 ∨ 139 < a) → Z' a = Z a) ∧ (dOK m Y to sd s n st → nd ≠ 20 → DC m Z' (dZ Y nd to sd s n st) (nd + 1) nr) ∧ (¬ (dOK m Y to sd s n st ∧ nd ≠ 20) → Z' = Z) ∧ Mean (d + 3) 132 [.ref 0, .int (i32 to), .int (i32 sd), .int (i32 s), .int (i32 n), .int (i32 st)] (176, zs Z, J, RP p0 p1 p0 35 p0 p5 p6 97) = some (some (.int (i32 (if dOK m Y to sd s n st then (if nd = 20 then -3 else (nd : Int)) else -2))), (176, zs Z', J, RP p0 p1 p0 35 p0 p5 p6 97)) := by
  have hw := h.1
  have hS := hw.1
  have hN := hw.2.2.2.2.2.2
  have hp := h.2.1
  unfold hv2 at hp
  obtain ⟨⟨c1, c2, c3⟩, d1, d2⟩ := id hc
  obtain ⟨⟨v1, v2, v3, v4, v5⟩, w1, w2⟩ := id hv
  have mt := h_mayTell (d := d) (J := J) (Z := Z) (p0 := p0) (p1 := p1) (p5 := p5) (p6 := p6) (by omega) h1 h5
  rw [c3] at mt
  have hsd := h_hasSide (d := d + 1) (J := J) (Z := Z) (p0 := p0) (p1 := p1) (p2 := p0) (p3 := 35) (p4 := p0) (p5 := p5) (p6 := p6) (p7 := 97) (h := p0) (by unfold hv3; omega) hS.2 h.2.2.1.1.1 (a := sd) h2
  have hst := h_hasState_a (d := d + 1) (J := J) (Z := Z) (p0 := p0) (p1 := p1) (p2 := p0) (p3 := 35) (p4 := p0) (p5 := p5) (p6 := p6) (p7 := 97) hN h.2.2.2.1.1.1 (a := s) h3
  have wi := h_within (d := d + 1) (J := J) (Z := Z) (p0 := p0) (p1 := p1) (p2 := p0) (p3 := 35) (p4 := p0) (p5 := p5) (p6 := p6) (p7 := 97) h4 (lo := 1) (hi := 40) (by omega) (by omega)
  by_cases a1 : (Y 140 70 ≤ to ∧ to ≤ 999) ∧ (0 ≤ st ∧ st ≤ 1)
  · rw [bI_t a1] at mt
    by_cases a2 : 0 ≤ sd ∧ sd < qS m
    · rw [bI_t a2] at hsd
      by_cases a3 : 0 ≤ s ∧ s < qN m
      · rw [bI_t a3] at hst
        by_cases a4 : 1 ≤ n ∧ n ≤ 40
        · rw [bI_t a4] at wi
          have hd : dOK m Y to sd s n st := ⟨⟨a1.1, a2⟩, ⟨a3, a4⟩, a1.2⟩
          obtain ⟨sd', rfl⟩ := Int.eq_ofNat_of_zero_le a2.1
          obtain ⟨s', rfl⟩ := Int.eq_ofNat_of_zero_le a3.1
          have mg := h_margin (d := d + 1) (J := J) (Z := Z) (p0 := p0) (p1 := p1) (p2 := p0) (p3 := 35) (p4 := p0) (p5 := p5) (p6 := p6) (p7 := 97) hp hw h.2.2.1 h.2.2.2 (i := sd') (s := s') (by omega) (by omega) n
          rw [if_pos hd]
          by_cases c20 : nd = 20
          · refine ⟨Z, fun _ _ => rfl, fun _ q => absurd c20 q, fun _ => rfl, ?_⟩
            rw [if_pos c20, e_X10_did, k_X10_did_0]
            have ad : ∀ x1 x2 x3 x4 : Int32, Mean (d + 2) 4 [.ref 132, .int x1, .int x2, .int x3, .int x4] (176, zs Z, J, RP p0 p1 p0 35 p0 p5 p6 97) = some (some (.int (i32 (-3))), (176, zs Z, J, RP p0 p1 p0 35 p0 p5 p6 97)) := fun x1 x2 x3 x4 => by
              rw [e_X0_addDeed, k_X0_addDeed_0]
              simp (disch := omega) only [k_X0_addDeed_9, k_X0_addDeed_12, k_X0_addDeed_22, k_X0_addDeed_32, k_X0_addDeed_42, k_X0_addDeed_53, li_0, li_1, li_2, li_3, li_4, li_5, li_6, li_9, li_10, li_40, lm_1, lm_2, lm_3, lm_4, zs_ap, i32_add, i32_sub, i32_mul, i32_neg, i32_lt, i32_le, i32_eq, i32_nat, ckn, pka_r, pka_v, if_pos, if_neg, if_true, if_false, li_20, c1, c20]
            simp (disch := omega) only [k_X10_did_10, k_X10_did_13, k_X10_did_21, k_X10_did_24, k_X10_did_32, k_X10_did_35, k_X10_did_43, k_X10_did_46, k_X10_did_49, k_X10_did_66, k_X10_did_71, li_0, li_1, li_2, li_3, li_4, li_5, li_6, li_9, li_10, li_40, lm_1, lm_2, lm_3, lm_4, zs_ap, i32_add, i32_sub, i32_mul, i32_neg, i32_lt, i32_le, i32_eq, i32_nat, ckn, pka_r, pka_v, if_pos, if_neg, if_true, if_false, mt, hsd, hst, wi, mg, ad]
          · have ad := h_addDeed (d := d + 1) (J := J) (Z := Z) (p0 := p0) (p1 := p1) (p5 := p5) (p6 := p6) c1 (by omega) to (sd' : Int) (qgoal m sd' - n * (qday m : Int) - qstop m s' sd') st
            refine ⟨_, fun a ha => ?_, fun _ _ => DC_did (sd := (sd' : Int)) (s := (s' : Int)) (n := n) hv hc (by omega), fun q => absurd ⟨hd, c20⟩ q, ?_⟩
            · rw [u2_ne (by omega), u2_ne (by omega), u2_ne (by omega), u2_ne (by omega), u2_ne (by omega), u2_ne (by omega)]
            · rw [if_neg c20, e_X10_did, k_X10_did_0]
              simp (disch := omega) only [k_X10_did_10, k_X10_did_13, k_X10_did_21, k_X10_did_24, k_X10_did_32, k_X10_did_35, k_X10_did_43, k_X10_did_46, k_X10_did_49, k_X10_did_66, k_X10_did_71, li_0, li_1, li_2, li_3, li_4, li_5, li_6, li_9, li_10, li_40, lm_1, lm_2, lm_3, lm_4, zs_ap, i32_add, i32_sub, i32_mul, i32_neg, i32_lt, i32_le, i32_eq, i32_nat, ckn, pka_r, pka_v, if_pos, if_neg, if_true, if_false, mt, hsd, hst, wi, mg, ad]
              rfl
        · rw [bI_f a4] at wi
          refine ⟨Z, fun _ _ => rfl, fun q => absurd q.2.1.2 a4, fun _ => rfl, ?_⟩
          rw [if_neg (show ¬ dOK m Y to sd s n st from fun q => a4 q.2.1.2), e_X10_did, k_X10_did_0]
          simp (disch := omega) only [k_X10_did_10, k_X10_did_13, k_X10_did_21, k_X10_did_24, k_X10_did_32, k_X10_did_35, k_X10_did_43, k_X10_did_46, k_X10_did_49, k_X10_did_66, k_X10_did_71, li_0, li_1, li_2, li_3, li_4, li_5, li_6, li_9, li_10, li_40, lm_1, lm_2, lm_3, lm_4, zs_ap, i32_add, i32_sub, i32_mul, i32_neg, i32_lt, i32_le, i32_eq, i32_nat, ckn, pka_r, pka_v, if_pos, if_neg, if_true, if_false, mt, hsd, hst, wi]
      · rw [bI_f a3] at hst
        refine ⟨Z, fun _ _ => rfl, fun q => absurd q.2.1.1 a3, fun _ => rfl, ?_⟩
        rw [if_neg (show ¬ dOK m Y to sd s n st from fun q => a3 q.2.1.1), e_X10_did, k_X10_did_0]
        simp (disch := omega) only [k_X10_did_10, k_X10_did_13, k_X10_did_21, k_X10_did_24, k_X10_did_32, k_X10_did_35, k_X10_did_43, k_X10_did_46, k_X10_did_49, k_X10_did_66, k_X10_did_71, li_0, li_1, li_2, li_3, li_4, li_5, li_6, li_9, li_10, li_40, lm_1, lm_2, lm_3, lm_4, zs_ap, i32_add, i32_sub, i32_mul, i32_neg, i32_lt, i32_le, i32_eq, i32_nat, ckn, pka_r, pka_v, if_pos, if_neg, if_true, if_false, mt, hsd, hst]
    · rw [bI_f a2] at hsd
      refine ⟨Z, fun _ _ => rfl, fun q => absurd q.1.2 a2, fun _ => rfl, ?_⟩
      rw [if_neg (show ¬ dOK m Y to sd s n st from fun q => a2 q.1.2), e_X10_did, k_X10_did_0]
      simp (disch := omega) only [k_X10_did_10, k_X10_did_13, k_X10_did_21, k_X10_did_24, k_X10_did_32, k_X10_did_35, k_X10_did_43, k_X10_did_46, k_X10_did_49, k_X10_did_66, k_X10_did_71, li_0, li_1, li_2, li_3, li_4, li_5, li_6, li_9, li_10, li_40, lm_1, lm_2, lm_3, lm_4, zs_ap, i32_add, i32_sub, i32_mul, i32_neg, i32_lt, i32_le, i32_eq, i32_nat, ckn, pka_r, pka_v, if_pos, if_neg, if_true, if_false, mt, hsd]
  · rw [bI_f a1] at mt
    refine ⟨Z, fun _ _ => rfl, fun q => absurd ⟨q.1.1, q.2.2⟩ a1, fun _ => rfl, ?_⟩
    rw [if_neg (show ¬ dOK m Y to sd s n st from fun q => a1 ⟨q.1.1, q.2.2⟩), e_X10_did, k_X10_did_0]
    simp (disch := omega) only [k_X10_did_10, k_X10_did_13, k_X10_did_21, k_X10_did_24, k_X10_did_32, k_X10_did_35, k_X10_did_43, k_X10_did_46, k_X10_did_49, k_X10_did_66, k_X10_did_71, li_0, li_1, li_2, li_3, li_4, li_5, li_6, li_9, li_10, li_40, lm_1, lm_2, lm_3, lm_4, zs_ap, i32_add, i32_sub, i32_mul, i32_neg, i32_lt, i32_le, i32_eq, i32_nat, ckn, pka_r, pka_v, if_pos, if_neg, if_true, if_false, mt]
theorem h_putRight (hn : Z 132 1 = (nr : Int)) (hnr : nr < 20) {x1 k x3 : Int} (hk : 0 ≤ k ∧ k ≤ 20) (hz : ∀ r : Nat, r < nr → 0 ≤ Z 138 r ∧ Z 138 r ≤ 20) : Mean (d + 1) 5 [.ref 132, .int (i32 x1), .int (i32 k), .int (i32 x3)] (176, zs Z, J, RP p0 p1 p0 35 p0 p5 p6 97) = some (some (.int (i32 ((often (u2 Z 138 nr k 138) k (nr + 1) : Nat) : Int))), (176, zs (u2 (u2 (u2 (u2 (u2 Z 137 nr x1) 138 nr k) 139 nr x3) 132 2 x1) 132 1 ((nr : Int) + 1)), J, RP p0 p1 p0 35 p0 p5 p6 97)) := by
  have n1 : u2 Z 137 nr x1 132 1 = (nr : Int) := by rw [u2_ne (by omega)]; exact hn
  have n2 : u2 (u2 Z 137 nr x1) 138 nr k 132 1 = (nr : Int) := by rw [u2_ne (by omega)]; exact n1
  have n3 : u2 (u2 (u2 Z 137 nr x1) 138 nr k) 139 nr x3 132 1 = (nr : Int) := by rw [u2_ne (by omega)]; exact n2
  have n4 : u2 (u2 (u2 (u2 Z 137 nr x1) 138 nr k) 139 nr x3) 132 2 x1 132 1 = (nr : Int) := by rw [u2f (by omega)]; exact n3
  generalize hZ1 : u2 (u2 (u2 (u2 (u2 Z 137 nr x1) 138 nr k) 139 nr x3) 132 2 x1) 132 1 ((nr : Int) + 1) = Z1
  have z1 : Z1 132 1 = ((nr + 1 : Nat) : Int) := by rw [← hZ1, u2s]; rfl
  have z138 : Z1 138 = u2 Z 138 nr k 138 := by
    rw [← hZ1, u2_ne (by omega), u2_ne (by omega), u2_ne (by omega)]
    funext j
    by_cases c : j = nr
    · subst c
      rw [u2s, u2s]
    · rw [u2f c, u2f c, u2_ne (by omega)]
  have hb : ∀ r : Nat, r < nr + 1 → 0 ≤ Z1 138 r ∧ Z1 138 r ≤ 20 := fun r hr => by
    rw [z138]
    by_cases c : r = nr
    · subst c
      rw [u2s]
      exact hk
    · rw [u2f c]
      exact hz r (by omega)
  rw [← z138]
  have key := up_eq (fun r => den none (Mean d) (some .int) tQ_X0_putRight (63, [some (.ref 132), some (.int (i32 x1)), some (.int (i32 k)), some (.int (i32 x3)), some (.int (i32 ((often (Z1 138) k r : Nat) : Int))), some (.int (i32 (r : Int)))], [], 176, zs Z1, J, RP p0 p1 p0 35 p0 p5 p6 97)) (nr + 1) (fun r hr => by
    have hbr := hb r hr
    have e : often (Z1 138) k (r + 1) = often (Z1 138) k r + (if Z1 138 r = k then 1 else 0) := rfl
    rw [k_X0_putRight_63]
    by_cases c : Z1 138 r = k
    · rw [if_pos c] at e
      simp (disch := omega) only [k_X0_putRight_9, k_X0_putRight_12, k_X0_putRight_22, k_X0_putRight_32, k_X0_putRight_42, k_X0_putRight_72, k_X0_putRight_79, k_X0_putRight_83, k_X0_putRight_86, k_X0_putRight_92, li_0, li_1, li_2, li_3, li_4, li_5, li_6, li_9, li_10, li_40, lm_1, lm_2, lm_3, lm_4, zs_ap, i32_add, i32_sub, i32_mul, i32_neg, i32_lt, i32_le, i32_eq, i32_nat, ckn, pka_r, pka_v, if_pos, if_neg, if_true, if_false, z1, Int.toNat_natCast, e]
      rfl
    · rw [if_neg c] at e
      simp (disch := omega) only [k_X0_putRight_9, k_X0_putRight_12, k_X0_putRight_22, k_X0_putRight_32, k_X0_putRight_42, k_X0_putRight_72, k_X0_putRight_79, k_X0_putRight_83, k_X0_putRight_86, k_X0_putRight_92, li_0, li_1, li_2, li_3, li_4, li_5, li_6, li_9, li_10, li_40, lm_1, lm_2, lm_3, lm_4, zs_ap, i32_add, i32_sub, i32_mul, i32_neg, i32_lt, i32_le, i32_eq, i32_nat, ckn, pka_r, pka_v, if_pos, if_neg, if_true, if_false, z1, Int.toNat_natCast, e]
      rfl)
  rw [e_X0_putRight, k_X0_putRight_0]
  simp (disch := omega) only [li_20, zs_ap, hn, i32_lt, if_pos, if_neg, k_X0_putRight_12, k_X0_putRight_22, k_X0_putRight_32, k_X0_putRight_42, i32_nat, ckn, li_0, Int.toNat_natCast, zs_u2, n1, n2, n3, n4, li_1, i32_add, hZ1]
  refine Eq.trans key ?_
  rw [k_X0_putRight_63]
  simp (disch := omega) only [k_X0_putRight_9, k_X0_putRight_12, k_X0_putRight_22, k_X0_putRight_32, k_X0_putRight_42, k_X0_putRight_72, k_X0_putRight_79, k_X0_putRight_83, k_X0_putRight_86, k_X0_putRight_92, li_0, li_1, li_2, li_3, li_4, li_5, li_6, li_9, li_10, li_40, lm_1, lm_2, lm_3, lm_4, zs_ap, i32_add, i32_sub, i32_mul, i32_neg, i32_lt, i32_le, i32_eq, i32_nat, ckn, pka_r, pka_v, if_pos, if_neg, if_true, if_false, z1]
theorem h_hasDeed (hn : Z 132 0 = (nd : Int)) (hnd : nd ≤ 20) {k : Int} (hk : -2147483648 ≤ k ∧ k < 2147483648) : Mean (d + 1) 3 [.ref 132, .int (i32 k)] (176, zs Z, J, RP p0 p1 p0 35 p0 p5 p6 97) = some (some (.int (i32 (bI (0 ≤ k ∧ k < nd)))), (176, zs Z, J, RP p0 p1 p0 35 p0 p5 p6 97)) := by
  rw [e_X0_hasDeed, k_X0_hasDeed_0]
  by_cases c1 : 0 ≤ k
  · by_cases c2 : k < nd
    · rw [bI_t ⟨c1, c2⟩]
      simp (disch := omega) only [k_X0_hasDeed_4, k_X0_hasDeed_12, k_X0_hasDeed_16, k_X0_hasDeed_17, li_0, li_1, li_2, li_3, li_4, li_5, li_6, li_9, li_10, li_40, lm_1, lm_2, lm_3, lm_4, zs_ap, i32_add, i32_sub, i32_mul, i32_neg, i32_lt, i32_le, i32_eq, i32_nat, ckn, pka_r, pka_v, if_pos, if_neg, if_true, if_false, hn, or_true]
    · rw [bI_f (fun q => c2 q.2)]
      simp (disch := omega) only [k_X0_hasDeed_4, k_X0_hasDeed_12, k_X0_hasDeed_16, k_X0_hasDeed_17, li_0, li_1, li_2, li_3, li_4, li_5, li_6, li_9, li_10, li_40, lm_1, lm_2, lm_3, lm_4, zs_ap, i32_add, i32_sub, i32_mul, i32_neg, i32_lt, i32_le, i32_eq, i32_nat, ckn, pka_r, pka_v, if_pos, if_neg, if_true, if_false, hn, true_or]
  · rw [bI_f (fun q => c1 q.1)]
    simp (disch := omega) only [k_X0_hasDeed_4, k_X0_hasDeed_12, k_X0_hasDeed_16, k_X0_hasDeed_17, li_0, li_1, li_2, li_3, li_4, li_5, li_6, li_9, li_10, li_40, lm_1, lm_2, lm_3, lm_4, zs_ap, i32_add, i32_sub, i32_mul, i32_neg, i32_lt, i32_le, i32_eq, i32_nat, ckn, pka_r, pka_v, if_pos, if_neg, if_true, if_false, true_or]
theorem DC_right (hc : DC m Z Y nd nr) {to k st : Int} : DC m (u2 (u2 (u2 (u2 (u2 Z 137 nr to) 138 nr k) 139 nr st) 132 2 to) 132 1 ((nr : Int) + 1)) (rZ Y nr to k st) nd (nr + 1) := by
  obtain ⟨⟨c1, c2, c3⟩, d1, d2⟩ := hc
  refine ⟨⟨?_, ?_, ?_⟩, fun k' hk => ?_, fun r hr => ?_⟩
  · rw [u2f (by omega), u2f (by omega), u2_ne (by omega), u2_ne (by omega), u2_ne (by omega)]
    exact c1
  · rw [u2s]; rfl
  · unfold rZ
    rw [u2f (by omega), u2s, u2f (by omega), u2_ne (by omega), u2_ne (by omega), u2_ne (by omega), u2s]
  · unfold rZ
    obtain ⟨q1, q2, q3, q4⟩ := d1 k' hk
    simp [u2, q1, q2, q3, q4]
  · unfold rZ
    by_cases c : r = nr
    · subst c
      simp [u2]
    · obtain ⟨q1, q2, q3⟩ := d2 r (by omega)
      simp [u2, c, q1, q2, q3]
theorem often_c {g g' : Nat → Int} {k : Int} : ∀ n : Nat, (∀ r : Nat, r < n → g r = g' r) → often g k n = often g' k n
  | 0, _ => rfl
  | n + 1, h => by
    show often g k n + (if g n = k then 1 else 0) = often g' k n + (if g' n = k then 1 else 0)
    rw [often_c n (fun r hr => h r (by omega)), h n (by omega)]
theorem h_right (hv : DV m Y nd nr) (hc : DC m Z Y nd nr) {to k st : Int} (h1 : -2147483648 ≤ to ∧ to < 2147483648) (h2 : -2147483648 ≤ k ∧ k < 2147483648) (h5 : -2147483648 ≤ st ∧ st < 2147483648) : ∃ Z' : Nat → Nat → Int, (∀ a : Nat, (a < 132 ∨ 139 < a) → Z' a = Z a) ∧ (rOK Y nd to k st → nr ≠ 20 → DC m Z' (rZ Y nr to k st) nd (nr + 1)) ∧ (¬ (rOK Y nd to k st ∧ nr ≠ 20) → Z' = Z) ∧ Mean (d + 3) 133 [.ref 0, .int (i32 to), .int (i32 k), .int (i32 st)] (176, zs Z, J, RP p0 p1 p0 35 p0 p5 p6 97) = some (some (.int (i32 (if rOK Y nd to k st then (if nr = 20 then -3 else ((often (rZ Y nr to k st 173) k (nr + 1) : Nat) : Int)) else -2))), (176, zs Z', J, RP p0 p1 p0 35 p0 p5 p6 97)) := by
  obtain ⟨⟨c1, c2, c3⟩, d1, d2⟩ := id hc
  obtain ⟨⟨v1, v2, v3, v4, v5⟩, w1, w2⟩ := id hv
  have mt := h_mayTell (d := d) (J := J) (Z := Z) (p0 := p0) (p1 := p1) (p5 := p5) (p6 := p6) (by omega) h1 h5
  rw [c3] at mt
  have hd := h_hasDeed (d := d + 1) (J := J) (Z := Z) (p0 := p0) (p1 := p1) (p5 := p5) (p6 := p6) c1 v2 h2
  by_cases a1 : (Y 140 70 ≤ to ∧ to ≤ 999) ∧ (0 ≤ st ∧ st ≤ 1)
  · rw [bI_t a1] at mt
    by_cases a2 : 0 ≤ k ∧ k < nd
    · rw [bI_t a2] at hd
      have hr : rOK Y nd to k st := ⟨⟨a1.1, a2⟩, a1.2⟩
      rw [if_pos hr]
      by_cases c20 : nr = 20
      · refine ⟨Z, fun _ _ => rfl, fun _ q => absurd c20 q, fun _ => rfl, ?_⟩
        have ad : ∀ x1 x2 x3 : Int32, Mean (d + 2) 5 [.ref 132, .int x1, .int x2, .int x3] (176, zs Z, J, RP p0 p1 p0 35 p0 p5 p6 97) = some (some (.int (i32 (-3))), (176, zs Z, J, RP p0 p1 p0 35 p0 p5 p6 97)) := fun x1 x2 x3 => by
          rw [e_X0_putRight, k_X0_putRight_0]
          simp (disch := omega) only [k_X0_putRight_9, k_X0_putRight_12, k_X0_putRight_22, k_X0_putRight_32, k_X0_putRight_42, k_X0_putRight_72, k_X0_putRight_79, k_X0_putRight_83, k_X0_putRight_86, k_X0_putRight_92, li_0, li_1, li_2, li_3, li_4, li_5, li_6, li_9, li_10, li_40, lm_1, lm_2, lm_3, lm_4, zs_ap, i32_add, i32_sub, i32_mul, i32_neg, i32_lt, i32_le, i32_eq, i32_nat, ckn, pka_r, pka_v, if_pos, if_neg, if_true, if_false, li_20, c2, c20]
        rw [if_pos c20, e_X10_right, k_X10_right_0]
        simp (disch := omega) only [k_X10_right_9, k_X10_right_12, k_X10_right_20, k_X10_right_23, k_X10_right_26, k_X10_right_36, li_0, li_1, li_2, li_3, li_4, li_5, li_6, li_9, li_10, li_40, lm_1, lm_2, lm_3, lm_4, zs_ap, i32_add, i32_sub, i32_mul, i32_neg, i32_lt, i32_le, i32_eq, i32_nat, ckn, pka_r, pka_v, if_pos, if_neg, if_true, if_false, mt, hd, ad]
      · have pr := h_putRight (d := d + 1) (J := J) (Z := Z) (p0 := p0) (p1 := p1) (p5 := p5) (p6 := p6) c2 (by omega) (x1 := to) (k := k) (x3 := st) (by omega) (fun r hr => by
          have q := (d2 r hr).2.1
          have u := (w2 r hr).1
          omega)
        have eo : often (u2 Z 138 nr k 138) k (nr + 1) = often (rZ Y nr to k st 173) k (nr + 1) := often_c _ (fun r hr => by
          unfold rZ
          by_cases c : r = nr
          · subst c
            simp [u2]
          · have q := (d2 r (by omega)).2.1
            simp [u2, c, q])
        rw [eo] at pr
        refine ⟨_, fun a ha => ?_, fun _ _ => DC_right hc, fun q => absurd ⟨hr, c20⟩ q, ?_⟩
        · rw [u2_ne (by omega), u2_ne (by omega), u2_ne (by omega), u2_ne (by omega), u2_ne (by omega)]
        · rw [if_neg c20, e_X10_right, k_X10_right_0]
          simp (disch := omega) only [k_X10_right_9, k_X10_right_12, k_X10_right_20, k_X10_right_23, k_X10_right_26, k_X10_right_36, li_0, li_1, li_2, li_3, li_4, li_5, li_6, li_9, li_10, li_40, lm_1, lm_2, lm_3, lm_4, zs_ap, i32_add, i32_sub, i32_mul, i32_neg, i32_lt, i32_le, i32_eq, i32_nat, ckn, pka_r, pka_v, if_pos, if_neg, if_true, if_false, mt, hd, pr]
    · rw [bI_f a2] at hd
      refine ⟨Z, fun _ _ => rfl, fun q => absurd q.1.2 a2, fun _ => rfl, ?_⟩
      rw [if_neg (show ¬ rOK Y nd to k st from fun q => a2 q.1.2), e_X10_right, k_X10_right_0]
      simp (disch := omega) only [k_X10_right_9, k_X10_right_12, k_X10_right_20, k_X10_right_23, k_X10_right_26, k_X10_right_36, li_0, li_1, li_2, li_3, li_4, li_5, li_6, li_9, li_10, li_40, lm_1, lm_2, lm_3, lm_4, zs_ap, i32_add, i32_sub, i32_mul, i32_neg, i32_lt, i32_le, i32_eq, i32_nat, ckn, pka_r, pka_v, if_pos, if_neg, if_true, if_false, mt, hd]
  · rw [bI_f a1] at mt
    refine ⟨Z, fun _ _ => rfl, fun q => absurd ⟨q.1.1, q.2⟩ a1, fun _ => rfl, ?_⟩
    rw [if_neg (show ¬ rOK Y nd to k st from fun q => a1 ⟨q.1.1, q.2⟩), e_X10_right, k_X10_right_0]
    simp (disch := omega) only [k_X10_right_9, k_X10_right_12, k_X10_right_20, k_X10_right_23, k_X10_right_26, k_X10_right_36, li_0, li_1, li_2, li_3, li_4, li_5, li_6, li_9, li_10, li_40, lm_1, lm_2, lm_3, lm_4, zs_ap, i32_add, i32_sub, i32_mul, i32_neg, i32_lt, i32_le, i32_eq, i32_nat, ckn, pka_r, pka_v, if_pos, if_neg, if_true, if_false, mt]
end
