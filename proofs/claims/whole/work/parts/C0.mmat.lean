/-! THE MODEL'S matter, whole -/
def MF (Z Z' : Nat → Nat → Int) : Prop := (∀ a : Nat, a ≠ 140 → (a < 149 ∨ 156 < a) → Z' a = Z a) ∧ ∀ j : Nat, (j = 0 ∨ (9 < j ∧ j < 17) ∨ j = 24 ∨ (31 < j ∧ j ≠ 48)) → Z' 140 j = Z 140 j
def MQm (Z : Nat → Nat → Int) (J : Nat → Nat → Int64) (R : Nat → Nat → Option Nat) (r : Except (Int × Nat) (PS × Nat)) (o : Option (Option Value × pW)) : Prop := match r with
  | .error e => ∃ (Z' : Nat → Nat → Int) (J' : Nat → Nat → Int64), MF Z Z' ∧ (∀ a : Nat, a ≠ 157 → J' a = J a) ∧ (Z' 140 1 = 0 ∧ Z' 140 7 = e.1 ∧ Z' 140 8 = (e.2 : Int)) ∧ WB Z' ∧ o = some (some (.int (i32 (-1))), (176, zs Z', J', R))
  | .ok s => ∃ (Z' : Nat → Nat → Int) (J' : Nat → Nat → Int64), (∀ a : Nat, (a < 140 ∨ a = 141 ∨ 161 ≤ a) → Z' a = Z a) ∧ (∀ a : Nat, a ≠ 157 → J' a = J a) ∧ (Z' 140 1 = 0 ∧ Z' 140 7 = 0 ∧ Z' 140 8 = -1) ∧ (MB (dM s.1.1) Z' ∧ wfT (dM s.1.1)) ∧ (Z' 140 16 = (s.2 : Int) ∧ Z' 140 60 = -1 ∧ Z' 140 62 = 0 ∧ Z' 140 68 = 0 ∧ Z' 140 69 = 0 ∧ Z' 140 70 = 0) ∧ WB Z' ∧ o = some (some (.int (i32 (s.2 : Int))), (176, zs Z', J', R))
theorem dM_wor {D : Nat → Nat → Int} {k i : Nat} (hk : k < 6) : qwor (dM D) k i = D 154 (3 * k + i) := by
  show (if k = 10 then D 155 i else if k = 11 then D 156 i else D 154 (3 * k + i)) = _
  rw [if_neg (by omega), if_neg (by omega)]
section
variable {d : Nat} {J : Nat → Nat → Int64} {Z : Nat → Nat → Int} {p0 p1 p2 p3 p4 p5 p6 p7 : Nat} {tp : Nat → Nat} {len : Nat}
theorem g_matter (hl : len ≤ 700) (ht : TBz tp Z) (h1 : Z 140 1 = (len : Int)) (hw : WB Z) (hj : mJk Z) (h161 : ∀ i : Nat, i < 3 → Z 161 i = 0) {D0 : Nat → Nat → Int} (hP : P0 D0) (hA : ∀ a j : Nat, ((149 ≤ a ∧ a ≤ 154) ∨ ((a = 155 ∨ a = 156) ∧ 3 ≤ j) ∨ (a = 140 ∧ j = 17)) → D0 a j = Z a j) : MQm Z J (RP p0 p1 p2 p3 p4 p5 p6 p7) (pMatter tp len D0 (J 157)) (Mean (d + 12) 166 [.ref 140] (176, zs Z, J, RP p0 p1 p2 p3 p4 p5 p6 p7)) := by
  generalize hZa : u2 (u2 (u2 (u2 (u2 Z 140 2 (len : Int)) 140 1 0) 140 4 0) 140 7 0) 140 8 (-1) = Za
  have a1 : ∀ a : Nat, a ≠ 140 → Za a = Z a := fun a ha => by rw [← hZa, u2_ne ha, u2_ne ha, u2_ne ha, u2_ne ha, u2_ne ha]
  have a2 : ∀ j : Nat, j ≠ 1 → j ≠ 2 → j ≠ 4 → j ≠ 7 → j ≠ 8 → Za 140 j = Z 140 j := fun j j1 j2 j4 j7 j8 => by rw [← hZa, u2f j8, u2f j7, u2f j4, u2f j1, u2f j2]
  have a3 : Za 140 2 = (len : Int) ∧ Za 140 1 = 0 ∧ Za 140 4 = 0 ∧ Za 140 7 = 0 ∧ Za 140 8 = -1 := by
    rw [← hZa]
    simp [u2]
  obtain ⟨Zs, s1, s2, s3⟩ := g_scan (d := d + 9) (J := J) (p0 := p0) (p1 := p1) (p2 := p2) (p3 := p3) (p4 := p4) (p5 := p5) (p6 := p6) (p7 := p7) (Z := Za) hl (tp := tp) (fun x hx => by rw [a1 141 (by decide)]; exact ht x hx) a3.1 (q := 0) a3.2.2.1 (Nat.zero_le _)
  have b1 : ∀ a : Nat, a ≠ 140 → Zs a = Z a := fun a ha => (s1.1 a ha).trans (a1 a ha)
  have b2 : ∀ j : Nat, j = 0 ∨ 8 < j → Zs 140 j = Z 140 j := fun j hj' => (s1.2 j (by simp; omega)).trans (a2 j (by omega) (by omega) (by omega) (by omega) (by omega))
  have b3 : Zs 140 1 = 0 ∧ Zs 140 7 = 0 ∧ Zs 140 8 = -1 := ⟨(s1.2 1 (by decide)).trans a3.2.1, (s1.2 7 (by decide)).trans a3.2.2.2.1, (s1.2 8 (by decide)).trans a3.2.2.2.2⟩
  have rd := g_readMatter2 (d := d) (J := J) (p0 := p0) (p1 := p1) (p2 := p2) (p3 := p3) (p4 := p4) (p5 := p5) (p6 := p6) (p7 := p7) (Z := Zs) hP (fun a j h => (hA a j h).trans (by
    rcases h with h | h | ⟨rfl, rfl⟩
    · rw [b1 a (by omega)]
    · rw [b1 a (by omega)]
    · rw [b2 17 (by omega)])) hl (tp := tp) (fun x hx => by rw [b1 141 (by decide)]; exact ht x hx) s2 (fun j hj' => by rw [b1 154 (by decide)]; exact hw j hj')
  have e0 : Mean (d + 12) 166 [.ref 140] (176, zs Z, J, RP p0 p1 p2 p3 p4 p5 p6 p7) = pka (Mean (d + 11) 161 [.ref 140] (176, zs Zs, J, RP p0 p1 p2 p3 p4 p5 p6 p7)) (fun v w => den none (Mean (d + 11)) (some .int) tQ_X11_matter (36, [some (.ref 140), none], [v], w)) (fun w => den none (Mean (d + 11)) (some .int) tQ_X11_matter (36, [some (.ref 140), none], [], w)) := by
    rw [e_X11_matter, k_X11_matter_0]
    simp (disch := omega) only [zs_ap, h1, li_0, li_1, i32_neg, zs_u2, hZa, s3, pka_v, k_X11_matter_32]
  cases hr : pMatter tp len D0 (J 157) with
  | error e =>
    rw [hr] at rd
    obtain ⟨c, Z', J', r1, r2, r3, r4, r5⟩ := rd
    refine ⟨Z', J', ⟨fun a ha hb => ?_, fun j hj' => ?_⟩, r2, ⟨?_, r3⟩, r4, ?_⟩
    · rw [r1.1 a ha hb, u2_ne ha, b1 a ha]
    · rw [r1.2 j (by omega), u2f (by omega), b2 j (by omega)]
    · rw [r1.2 1 (by omega), u2f (by omega), b3.1]
    · rw [e0, r5]
      simp (disch := omega) only [k_X11_matter_32, k_X11_matter_36, k_X11_matter_39, k_X11_matter_41, k_X11_matter_97, k_X11_matter_115, k_X11_matter_126, k_X11_matter_127, k_X11_matter_138, k_X11_matter_139, k_X11_matter_150, k_X11_matter_151, k_X11_matter_162, k_X11_matter_163, k_X11_matter_169, k_X11_matter_177, k_X11_matter_188, k_X11_matter_189, k_X11_matter_195, k_X11_matter_202, k_X11_matter_213, k_X11_matter_214, k_X11_matter_225, k_X11_matter_226, k_X11_matter_232, k_X11_matter_236, li_0, li_1, li_2, li_3, li_4, li_5, li_6, li_9, li_10, li_40, lm_1, lm_2, lm_3, lm_4, zs_ap, i32_add, i32_sub, i32_mul, i32_neg, i32_lt, i32_le, i32_eq, i32_nat, ckn, pka_r, pka_v, if_pos, if_neg, if_true, if_false]
  | ok s =>
    rw [hr] at rd
    obtain ⟨⟨n', S, hd⟩, hsl⟩ := pMatter_ok hP hr
    obtain ⟨Z2, J2, ⟨r1, r2, ⟨r3, r4, _, _, _⟩, r6⟩, r7⟩ := rd
    obtain ⟨⟨D, N, q⟩, cl⟩ := s
    dsimp only at hd r1 r2 r3 r4 r6 r7 hsl ⊢
    have hwT := dM_wf hd r4
    obtain ⟨d1, d2, d3, d4, d5, d6, d7⟩ := id hd
    have g1 : ∀ a : Nat, a ≠ 140 → (a < 149 ∨ 156 < a) → Z2 a = Z a := fun a ha hb => by rw [r1.1 a ha hb, u2_ne ha, b1 a ha]
    have g48 : Z2 140 48 = (cl : Int) := by rw [r1.2 48 (by omega), u2s]
    have g1' : Z2 140 1 = 0 := by rw [r1.2 1 (by omega), u2f (by omega), b3.1]
    have g7 : Z2 140 7 = 0 ∧ Z2 140 8 = -1 := by
      rw [r6.1, r6.2, u2f (by omega), u2f (by omega)]
      exact b3.2
    have e17 : Z2 140 17 = (S : Int) := (r3 140 17 (Or.inl (by omega))).trans d1.1
    have e18 : Z2 140 18 = (n' : Int) := (r3 140 18 (Or.inl (by omega))).trans d2.1
    have e19 : Z2 140 19 = D 140 19 := r3 140 19 (Or.inl (by omega))
    have e20 : Z2 140 20 = D 140 20 := r3 140 20 (Or.inl (by omega))
    have e21 : Z2 140 21 = D 140 21 := r3 140 21 (Or.inl (by omega))
    have e22 : Z2 140 22 = D 140 22 := r3 140 22 (Or.inl (by omega))
    have e25 : Z2 140 25 = D 140 25 := r3 140 25 (Or.inl (by omega))
    have d25 := d4 25 (by omega) (by omega)
    generalize hZ3 : u2 (u2 (u2 (u2 (u2 (u2 (u2 (u2 Z2 140 10 (S : Int)) 140 11 (n' : Int)) 140 12 (D 140 19)) 140 13 (D 140 20)) 140 14 (D 140 21)) 140 15 (D 140 22)) 140 24 (D 140 25)) 140 16 (cl : Int) = Z3
    have h31 : ∀ a : Nat, a ≠ 140 → Z3 a = Z2 a := fun a ha => by rw [← hZ3, u2_ne ha, u2_ne ha, u2_ne ha, u2_ne ha, u2_ne ha, u2_ne ha, u2_ne ha, u2_ne ha]
    have h32 : ∀ j : Nat, (j < 10 ∨ (16 < j ∧ j ≠ 24)) → Z3 140 j = Z2 140 j := fun j hj' => by rw [← hZ3, u2f (by omega), u2f (by omega), u2f (by omega), u2f (by omega), u2f (by omega), u2f (by omega), u2f (by omega), u2f (by omega)]
    have h33 : Z3 140 10 = (S : Int) ∧ Z3 140 11 = (n' : Int) ∧ Z3 140 12 = D 140 19 ∧ Z3 140 13 = D 140 20 ∧ Z3 140 14 = D 140 21 ∧ Z3 140 15 = D 140 22 ∧ Z3 140 24 = D 140 25 ∧ Z3 140 16 = (cl : Int) := by
      rw [← hZ3]
      simp [u2]
    have hag3 : AG D Z3 := fun a j hrd => by
      rw [← r3 a j hrd]
      by_cases c : a = 140
      · subst c
        exact h32 j (by omega)
      · rw [h31 a c]
    obtain ⟨Z4, c1, c2, c3, c4⟩ := cp_1 (d := d + 11) (J := J2) (p0 := p0) (p1 := p1) (p2 := p2) (p3 := p3) (p4 := p4) (p5 := p5) (p6 := p6) (p7 := p7) hd hag3 h33.2.1
    obtain ⟨Z5, f1, f2, f3⟩ := cp_2 (d := d + 11) (J := J2) (Z := Z4) (p0 := p0) (p1 := p1) (p2 := p2) (p3 := p3) (p4 := p4) (p5 := p5) (p6 := p6) (p7 := p7)
    obtain ⟨Z6, k1, k2, k3⟩ := cp_3 (d := d + 11) (J := J2) (Z := Z5) (p0 := p0) (p1 := p1) (p2 := p2) (p3 := p3) (p4 := p4) (p5 := p5) (p6 := p6) (p7 := p7)
    have z140 : Z6 140 = Z3 140 := by rw [k1 140 (by decide) (by decide), f1 140 (by decide), c1 140 (by decide) (by decide) (by decide) (by decide)]
    have eP : qP (dM D) = n' := by rw [dM_P]; omega
    have eS : qS (dM D) = S := by rw [dM_S]; omega
    have hr6 : MR (dM D) Z6 := by
      refine ⟨?_, fun k hk => ?_, fun k hk i hi => ?_, fun i hi => ?_⟩
      · rw [z140, h33.1, h33.2.1, h33.2.2.1, h33.2.2.2.1, h33.2.2.2.2.1, h33.2.2.2.2.2.1, h33.2.2.2.2.2.2.1, eS, eP]
        refine ⟨rfl, rfl, ?_, ?_, ?_, ?_, ?_⟩
        · show D 140 19 = ((D 140 19).toNat : Int); omega
        · show D 140 20 = ((D 140 20).toNat : Int); omega
        · show D 140 21 = ((D 140 21).toNat : Int); omega
        · show D 140 22 = ((D 140 22).toNat : Int); omega
        · show D 140 25 = ((D 140 25).toNat : Int); omega
      · rw [eP] at hk
        obtain ⟨q1, q2, q3, q4⟩ := c2 k hk
        have hpc := d7 k hk
        unfold pcO at hpc
        rw [k1 142 (by decide) (by decide), k1 143 (by decide) (by decide), k1 144 (by decide) (by decide), k1 148 (by decide) (by decide), f1 142 (by decide), f1 143 (by decide), f1 144 (by decide), f1 148 (by decide), q1, q2, q3, q4]
        refine ⟨?_, ?_, ?_, ?_⟩
        · show D 151 k = ((D 151 k).toNat : Int); omega
        · show D 152 k = ((D 152 k).toNat : Int); omega
        · show D 153 k = ((D 153 k).toNat : Int); omega
        · show D 149 k = ((D 149 k).toNat : Int); omega
      · rw [eP] at hk
        rw [eS] at hi
        rw [k1 145 (by decide) (by decide), f2 _ (by omega), c1 154 (by decide) (by decide) (by decide) (by decide), hag3 154 _ (Or.inr (by omega)), dM_wor (by omega)]
      · obtain ⟨q1, q2⟩ := k2 i hi
        rw [q1, q2, f1 155 (by decide), f1 156 (by decide), c1 155 (by decide) (by decide) (by decide) (by decide), c1 156 (by decide) (by decide) (by decide) (by decide), hag3 155 _ (Or.inr (by omega)), hag3 156 _ (Or.inr (by omega))]
        exact ⟨rfl, rfl⟩
    have fr6 : ∀ a : Nat, a ≠ 140 → (a < 142 ∨ 156 < a) → Z6 a = Z a := fun a ha hb => by
      rw [k1 a (by omega) (by omega), f1 a (by omega), c1 a (by omega) (by omega) (by omega) (by omega), h31 a ha, g1 a ha (by omega)]
    have hj6 : mJk Z6 := by
      obtain ⟨j1, j2, j3, j4⟩ := hj
      refine ⟨fun x hx => ?_, fun x hx => ?_, fun x hx => ?_, fun x hx => ?_⟩
      · rw [k1 145 (by decide) (by decide), f2 x hx, c1 154 (by decide) (by decide) (by decide) (by decide), hag3 154 _ (Or.inr (by omega))]
        have := r4 x hx
        omega
      · rw [fr6 159 (by decide) (by decide)]
        exact j2 x hx
      · rw [k1 142 (by decide) (by decide), f1 142 (by decide)]
        by_cases c : x < n'
        · rw [(c2 x c).1]
          have := (d7 x c).2.2.1
          omega
        · rw [c3 x (by omega), h31 142 (by decide), g1 142 (by decide) (by decide)]
          exact j3 x hx
      · rw [fr6 160 (by decide) (by decide)]
        exact j4 x hx
    obtain ⟨Z7, p1', p2', p3', p4', p5', p6'⟩ := s_place (d := d + 9) (J := J2) (p0 := p0) (p1 := p1) (p2 := p2) (p3 := p3) (p4 := p4) (p5 := p5) (p6 := p6) (p7 := p7) hwT.1 hr6 hj6
    generalize hZ8 : u2 (u2 (u2 (u2 (u2 Z7 140 60 (-1)) 140 62 0) 140 68 0) 140 69 0) 140 70 0 = Z8
    have h81 : ∀ a : Nat, a ≠ 140 → Z8 a = Z7 a := fun a ha => by rw [← hZ8, u2_ne ha, u2_ne ha, u2_ne ha, u2_ne ha, u2_ne ha]
    have h82 : ∀ j : Nat, j < 60 → Z8 140 j = Z7 140 j := fun j hj' => by rw [← hZ8, u2f (by omega), u2f (by omega), u2f (by omega), u2f (by omega), u2f (by omega)]
    have h83 : Z8 140 60 = -1 ∧ Z8 140 62 = 0 ∧ Z8 140 68 = 0 ∧ Z8 140 69 = 0 ∧ Z8 140 70 = 0 := by
      rw [← hZ8]
      simp [u2]
    have f7 : ∀ j : Nat, j < 49 → Z8 140 j = Z3 140 j := fun j hj' => by rw [h82 j (by omega), p2' j (by omega) (by omega) (by omega), z140]
    have e16 : Z8 140 16 = (cl : Int) := (f7 16 (by omega)).trans h33.2.2.2.2.2.2.2
    refine ⟨Z8, J2, fun a ha => ?_, r2, ⟨?_, ?_, ?_⟩, ⟨⟨MI_fr2 ⟨hwT.1, p3', p4', p5'⟩ (fun j h1 h2 => h82 j h2) (fun a ha hb => h81 a (by omega)), fun i hi => ?_⟩, hwT⟩, ⟨e16, h83⟩, fun j hj' => ?_, ?_⟩
    · rw [h81 a (by omega), p1' a (by omega) (by omega) (by omega) (by omega), fr6 a (by omega) (by omega)]
    · rw [f7 1 (by omega), h32 1 (by omega), g1']
    · rw [f7 7 (by omega), h32 7 (by omega), g7.1]
    · rw [f7 8 (by omega), h32 8 (by omega), g7.2]
    · rw [h81 161 (by decide), p1' 161 (by decide) (by decide) (by decide) (by decide), fr6 161 (by decide) (by decide)]
      exact h161 i hi
    · rw [h81 154 (by decide), p1' 154 (by decide) (by decide) (by decide) (by decide), k1 154 (by decide) (by decide), f1 154 (by decide), c1 154 (by decide) (by decide) (by decide) (by decide), hag3 154 _ (Or.inr (by omega))]
      exact r4 j hj'
    · have ec : i32 (D 140 25) = 0 ∨ i32 (D 140 25) = 1 := by
        have : D 140 25 = 0 ∨ D 140 25 = 1 := by omega
        rcases this with q | q
        · exact Or.inl (by rw [q]; rfl)
        · exact Or.inr (by rw [q]; rfl)
      have ex : den none (Mean (d + 11)) (some .int) tQ_X11_matter (41, [some (.ref 140), none], [], 176, zs Z2, J2, RP p0 p1 p2 p3 p4 p5 p6 p7) = den none (Mean (d + 11)) (some .int) tQ_X11_matter (107, [some (.ref 140), some (.int (i32 ((0 : Nat) : Int)))], [], 176, zs Z3, J2, RP p0 p1 p2 p3 p4 p5 p6 p7) := by
        rw [k_X11_matter_41]
        simp (disch := omega) only [zs_ap, zs_u2, u2f, e17, e18, e19, e20, e21, e22, e25, if_pos ec]
        rw [k_X11_matter_97]
        simp (disch := omega) only [zs_ap, zs_u2, u2f, g48, li_0, hZ3]
        rfl
      rw [e0, r7]
      simp (disch := omega) only [pka_r, pka_v, k_X11_matter_36, li_0, i32_eq, if_neg, ex, c4]
      rw [k_X11_matter_169, li_0]
      refine Eq.trans f3 ?_
      rw [k_X11_matter_195, li_0]
      refine Eq.trans k3 ?_
      simp (disch := omega) only [k_X11_matter_232, p6', pka_v, k_X11_matter_236, li_0, li_1, i32_neg, zs_u2, zs_ap, hZ8, e16]
end
