/-! THE CLASS'S matter, whole -/
def CMq (p0 p1 p5 p6 : Nat) (Z : Nat → Nat → Int) (J : Nat → Nat → Int64) (r : Except (Int × Nat) (PS × Nat)) (o : Option (Option Value × pW)) : Prop := match r with
  | .error e => ∃ (Z' : Nat → Nat → Int) (J' : Nat → Nat → Int64), (∀ a : Nat, (a < p1 ∨ p1 + 14 < a) → a ≠ 1 → a ≠ 3 → a ≠ 4 → Z' a = Z a) ∧ (∀ a : Nat, a ≠ p1 + 1 → J' a = J a) ∧ (Z' 1 1 = 0 ∧ Z' 3 5 = e.1 ∧ Z' 3 6 = (e.2 : Int)) ∧ o = some (some (.int (i32 (-1))), (176, zs Z', J', RP p0 p1 p0 35 p0 p5 p6 97))
  | .ok s => ∃ (Z' : Nat → Nat → Int) (J' : Nat → Nat → Int64), ((∀ a : Nat, 140 ≤ a → Z' a = Z a) ∧ Z' 2 = Z 2 ∧ ∀ a : Nat, 140 ≤ a → J' a = J a) ∧ (Z' 1 1 = 0 ∧ Z' 3 5 = 0 ∧ Z' 3 6 = -1) ∧ KL (dM s.1.1) (qbre (dM s.1.1)) p1 Z' J' ∧ (Z' p1 0 = (s.2 : Int) ∧ Z' 52 3 = -1 ∧ Z' 129 4 = 0 ∧ Z' 132 0 = 0 ∧ Z' 132 1 = 0 ∧ Z' 132 2 = 0) ∧ o = some (some (.int (i32 (s.2 : Int))), (176, zs Z', J', RP p1 p0 p1 35 p1 p5 p6 97))
theorem CD_KM {p n S : Nat} {D : Nat → Nat → Int} {N : Nat → Int64} {Z : Nat → Nat → Int} {J : Nat → Nat → Int64} (hd : DW D n S) (h : CD p D N Z J) : KM (dM D) p Z := by
  obtain ⟨h1, h2, h3, h4, _⟩ := h
  obtain ⟨d1, d2, d3, d4, d5, d6, d7⟩ := id hd
  have d25 := d4 25 (by omega) (by omega)
  have eP : qP (dM D) = n := by rw [dM_P]; omega
  have eS : qS (dM D) = S := by rw [dM_S]; omega
  refine ⟨?_, fun k hk => ?_, fun k hk i hi => ?_, fun i hi => h4 i hi⟩
  · obtain ⟨a1, a2, a3, a4, a5, a6, a7⟩ := h1
    rw [a1, a2, a3, a4, a5, a6, a7, eS, eP]
    refine ⟨d1.1, d2.1, ?_, ?_, ?_, ?_, ?_⟩
    · show D 140 19 = ((D 140 19).toNat : Int); omega
    · show D 140 20 = ((D 140 20).toNat : Int); omega
    · show D 140 21 = ((D 140 21).toNat : Int); omega
    · show D 140 22 = ((D 140 22).toNat : Int); omega
    · show D 140 25 = ((D 140 25).toNat : Int); omega
  · rw [eP] at hk
    obtain ⟨q1, q2, q3, q4, _⟩ := h2 k (by omega)
    have hpc := d7 k hk
    unfold pcO at hpc
    rw [q1, q2, q3, q4]
    refine ⟨?_, ?_, ?_, ?_⟩
    · show D 151 k = ((D 151 k).toNat : Int); omega
    · show D 152 k = ((D 152 k).toNat : Int); omega
    · show D 153 k = ((D 153 k).toNat : Int); omega
    · show D 149 k = ((D 149 k).toNat : Int); omega
  · rw [eP] at hk
    rw [eS] at hi
    rw [dM_wor (by omega)]
    exact h3 k (by omega) i (by omega)
section
variable {d : Nat} {J : Nat → Nat → Int64} {Z : Nat → Nat → Int} {p0 p1 p5 p6 : Nat} {tp : Nat → Nat} {len : Nat}
theorem h_matter (hp : hv2 p0) (hp1 : hv2 p1) (ht : CT tp len p1 Z) {D0 : Nat → Nat → Int} (hD0 : P0 D0) (N : Nat → Int64) (hWB : ∀ s : PS × Nat, pMatter tp len D0 N = .ok s → WB s.1.1) : CMq p0 p1 p5 p6 Z J (pMatter tp len D0 N) (Mean (d + 12) 108 [.ref 0] (176, zs Z, J, RP p0 p1 p0 35 p0 p5 p6 97)) := by
  have rd := h_read (d := d) (p0 := p0) (p1 := p1) (p2 := p0) (p3 := 35) (p4 := p0) (p5 := p5) (p6 := p6) (p7 := 97) (Z := Z) (J := J) ht hD0 N
  have e0 : Mean (d + 12) 108 [.ref 0] (176, zs Z, J, RP p0 p1 p0 35 p0 p5 p6 97) = pka (Mean (d + 11) 43 [.ref 3] (176, zs Z, J, RP p0 p1 p0 35 p0 p5 p6 97)) (fun v w => den none (Mean (d + 11)) (some .int) tQ_X10_matter (7, [some (.ref 0), none], [v], w)) (fun w => den none (Mean (d + 11)) (some .int) tQ_X10_matter (7, [some (.ref 0), none], [], w)) := by
    rw [e_X10_matter, k_X10_matter_0]
  unfold hv2 at hp hp1
  cases hr : pMatter tp len D0 N with
  | error e =>
    rw [hr] at rd
    obtain ⟨Z', J', r1, r2, r3, r4⟩ := rd
    have ec := h_tclear (d := d + 10) (J := J') (Z := Z') (p0 := p0) (p1 := p1) (p2 := p0) (p3 := 35) (p4 := p0) (p5 := p5) (p6 := p6) (p7 := 97)
    refine ⟨u2 Z' 1 1 0, J', fun a ha h1 h3 h4 => (u2_ne h1).trans (r1 a ha h3 h4), r2, ⟨u2s, ?_⟩, ?_⟩
    · rw [u2_ne (show 3 ≠ 1 by omega)]
      exact r3
    · rw [e0, r4]
      simp (disch := omega) only [k_X10_matter_7, k_X10_matter_15, k_X10_matter_19, k_X10_matter_21, k_X10_matter_33, k_X10_matter_36 (p0 := 0), k_X10_matter_47 (p0 := 0), k_X10_matter_65 (p0 := 0), k_X10_matter_72 (p0 := 0), k_X10_matter_79 (p0 := 0), k_X10_matter_86 (p0 := 0), li_0, li_1, li_2, li_3, li_4, li_5, li_6, li_9, li_10, li_40, lm_1, lm_2, lm_3, lm_4, zs_ap, i32_add, i32_sub, i32_mul, i32_neg, i32_lt, i32_le, i32_eq, i32_nat, ckn, pka_r, pka_v, if_pos, if_neg, if_true, if_false, ec]
  | ok s =>
    rw [hr] at rd
    obtain ⟨⟨n', S, hd⟩, hsl⟩ := pMatter_ok hD0 hr
    have hwb := hWB s hr
    obtain ⟨q, Z1, J1, ⟨r1, r2, r3, r4, r5, r6⟩, r7⟩ := rd
    obtain ⟨⟨D, N', q'⟩, cl⟩ := s
    dsimp only at hd hwb hsl r3 r5 r7 ⊢
    have hw : wf (dM D) := (dM_wf hd hwb).1
    have hP := hw.2.1
    have hS := hw.1
    have ec := h_tclear (d := d + 10) (J := J1) (Z := Z1) (p0 := p0) (p1 := p1) (p2 := p0) (p3 := 35) (p4 := p0) (p5 := p5) (p6 := p6) (p7 := 97)
    generalize hZ2 : u2 Z1 1 1 0 = Z2 at ec
    have n2 : ∀ a : Nat, a ≠ 1 → Z2 a = Z1 a := fun a ha => by rw [← hZ2, u2_ne ha]
    have hm2 : KM (dM D) p1 Z2 := KM_fr hP (CD_KM hd r3) (fun a b1 b2 => n2 a (by omega))
    obtain ⟨Z3, l1, l2, l3⟩ := h_lay_a (d := d + 8) (J := J1) (p0 := p1) (p1 := p0) (p2 := p1) (p3 := 35) (p4 := p0) (p5 := p5) (p6 := p6) (p7 := 97) (q9 := p0) hp1 hw hm2
    have hm3 : KM (dM D) p1 Z3 := KM_fr hP hm2 (fun a b1 b2 => l1 a (by omega) (by omega) (by omega))
    have s14 : pshn (p1 + 14) = some (.inl (.int, 3)) := by
      rcases hp1 with rfl | rfl <;> rfl
    obtain ⟨Z4, J4, a1, a2, a3, a4⟩ := h_solve_a (d := d + 7) (J := J1) (p0 := p1) (p1 := p0) (p2 := p1) (p5 := p5) (p6 := p6) (p7 := 97) (q8 := 35) (q9 := p0) hp1 hw (b := qbre (dM D)) (fun i hi => by have := (hw.2.2.2.2.1 i (by omega)).2; omega) hm3 l2 (g2 := p1 + 14) s14 (by omega) (fun i hi => (hm3.2.2.2 i (by omega)).2)
    generalize hZ5 : u2 (u2 (u2 (u2 (u2 Z4 52 3 (-1)) 129 4 0) 132 0 0) 132 1 0) 132 2 0 = Z5
    have n5 : ∀ a : Nat, a ≠ 52 → a ≠ 129 → a ≠ 132 → Z5 a = Z4 a := fun a b1 b2 b3 => by rw [← hZ5, u2_ne b3, u2_ne b3, u2_ne b3, u2_ne b2, u2_ne b1]
    have m5 : Z5 52 3 = -1 ∧ Z5 129 4 = 0 ∧ Z5 132 0 = 0 ∧ Z5 132 1 = 0 ∧ Z5 132 2 = 0 := by
      rw [← hZ5]
      simp [u2]
    have fr : ∀ a : Nat, a < 35 → Z5 a = Z2 a := fun a ha => by rw [n5 a (by omega) (by omega) (by omega), a1 a (by omega) (by omega) (by omega), l1 a (by omega) (by omega) (by omega)]
    have hm5 : KM (dM D) p1 Z5 := KM_fr hP hm2 (fun a b1 b2 => fr a (by omega))
    have hk5 : KS (dM D) 35 Z5 := KS_fr hS.2 l2 (fun a b1 b2 => by rw [n5 a (by omega) (by omega) (by omega), a1 a (by omega) (by omega) (by omega)])
    have z0 : Z5 p1 0 = (cl : Int) := by rw [fr p1 (by omega), n2 p1 (by omega)]; exact r5
    refine ⟨Z5, J4, ⟨fun a ha => ?_, ?_, fun a ha => ?_⟩, ⟨?_, ?_, ?_⟩, ⟨⟨hw, hp1, hm5, hk5⟩, ⟨fun i hi => ?_, fun i hi => ?_⟩, a3.2⟩, ⟨z0, m5⟩, ?_⟩
    · rw [n5 a (by omega) (by omega) (by omega), a1 a (by omega) (by omega) (by omega), l1 a (by omega) (by omega) (by omega), n2 a (by omega), r1 a (by omega) (by omega) (by omega)]
    · rw [fr 2 (by omega), n2 2 (by omega), r1 2 (by omega) (by omega) (by omega)]
    · rw [a2 a (by omega) (by omega), r2 a (by omega)]
    · rw [fr 1 (by omega), ← hZ2, u2s]
    · rw [fr 3 (by omega), n2 3 (by omega)]; exact r6.1
    · rw [fr 3 (by omega), n2 3 (by omega)]; exact r6.2
    · rw [n5 (43 + 8) (by omega) (by omega) (by omega)]; exact a3.1.1 i hi
    · rw [n5 (43 + 5) (by omega) (by omega) (by omega)]; exact a3.1.2 i hi
    · have sw : Mean (d + 11) 42 [.ref 3, .ref p0] (176, zs Z2, J1, RP p0 p1 p0 35 p0 p5 p6 97) = some (some (.ref p1), (176, zs Z2, J1, RP p0 p0 p0 35 p0 p5 p6 97)) := by
        rw [e_X5_swapDraft, k_X5_swapDraft_0, k_X5_swapDraft_10]
      have w1 : Mean (d + 11) 19 [.ref 52] (176, zs Z4, J4, RP p1 p0 p1 35 p1 p5 p6 97) = some (none, (176, zs (u2 Z4 52 3 (-1)), J4, RP p1 p0 p1 35 p1 p5 p6 97)) := by
        rw [e_X2_forget, k_X2_forget_0]
        simp only [li_1, i32_neg, zs_u2]
      have w2 : Mean (d + 11) 10 [.ref 129] (176, zs (u2 Z4 52 3 (-1)), J4, RP p1 p0 p1 35 p1 p5 p6 97) = some (none, (176, zs (u2 (u2 Z4 52 3 (-1)) 129 4 0), J4, RP p1 p0 p1 35 p1 p5 p6 97)) := by
        rw [e_X1_forget, k_X1_forget_0]
        simp only [li_0, zs_u2]
      have w3 : Mean (d + 11) 1 [.ref 132] (176, zs (u2 (u2 Z4 52 3 (-1)) 129 4 0), J4, RP p1 p0 p1 35 p1 p5 p6 97) = some (none, (176, zs Z5, J4, RP p1 p0 p1 35 p1 p5 p6 97)) := by
        rw [e_X0_forget, k_X0_forget_0]
        simp only [li_0, zs_u2, hZ5]
      rw [e0, r7]
      simp (disch := omega) only [pka_r, pka_v, k_X10_matter_7, ec, k_X10_matter_15, li_0, i32_eq, if_neg, k_X10_matter_21, sw, k_X10_matter_33, k_X10_matter_36 (p0 := 0), l3, k_X10_matter_47 (p0 := 0), a4, k_X10_matter_65 (p0 := 0), w1, k_X10_matter_72 (p0 := 0), w2, k_X10_matter_79 (p0 := 0), w3, k_X10_matter_86 (p0 := 0), zs_ap, z0]
end
