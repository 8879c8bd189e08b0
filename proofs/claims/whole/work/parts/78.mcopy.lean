/-! THE MODEL'S matter: what was read becomes the matter -/
theorem li_18 : (18 : Int32) = i32 18 := rfl
def dM (D : Nat → Nat → Int) : Mat := (fun j => if j = 0 then (D 140 17).toNat else if j = 1 then (D 140 18).toNat else if j = 2 then (D 140 19).toNat else if j = 3 then (D 140 20).toNat else if j = 4 then (D 140 21).toNat else if j = 5 then (D 140 22).toNat else (D 140 25).toNat, fun a k => if a = 0 then (D 151 k).toNat else if a = 1 then (D 152 k).toNat else if a = 2 then (D 153 k).toNat else (D 149 k).toNat, fun k i => if k = 10 then D 155 i else if k = 11 then D 156 i else D 154 (3 * k + i))
theorem dM_S (D : Nat → Nat → Int) : qS (dM D) = (D 140 17).toNat := rfl
theorem dM_P (D : Nat → Nat → Int) : qP (dM D) = (D 140 18).toNat := rfl
theorem dM_pl {D : Nat → Nat → Int} {n S : Nat} (h : DW D n S) : ∀ k : Nat, k ≤ n → ((qpl (dM D) k : Nat) : Int) = prodD (D 152) k
  | 0, _ => rfl
  | k + 1, hk => by
    have h1 := (h.2.2.2.2.2.2 k (by omega)).2.2.2.1
    rw [pl_succ]
    show _ = prodD (D 152) k * (D 152 k + 1)
    rw [Int.natCast_mul, dM_pl h k (by omega)]
    congr 1
    show (((D 152 k).toNat + 1 : Nat) : Int) = _
    omega
theorem dM_wf {D : Nat → Nat → Int} {n S : Nat} (h : DW D n S) (hw : WB D) : wfT (dM D) := by
  obtain ⟨h1, h2, h3, h4, h5, h6, h7⟩ := id h
  have eP : qP (dM D) = n := by rw [dM_P]; omega
  have eS : qS (dM D) = S := by rw [dM_S]; omega
  have e25 := h4 25 (by decide) (by decide)
  have wor : ∀ k : Nat, k < qP (dM D) → ∀ i : Nat, i < qS (dM D) → -999 ≤ qwor (dM D) k i ∧ qwor (dM D) k i ≤ 999 := fun k hk i hi => by
    rw [eP] at hk
    rw [eS] at hi
    have : qwor (dM D) k i = D 154 (3 * k + i) := by
      show (if k = 10 then D 155 i else if k = 11 then D 156 i else D 154 (3 * k + i)) = _
      rw [if_neg (by omega), if_neg (by omega)]
    rw [this]
    exact hw _ (by omega)
  refine ⟨⟨?_, ?_, fun k hk => ?_, fun k hk i hi => ?_, fun i hi => ?_, ?_, ?_⟩, wor⟩
  · rw [eS]
    exact h1.2
  · rw [eP]
    exact h2.2
  · rw [eP] at hk
    have q := h7 k hk
    unfold pcO at q
    rw [eS]
    show (D 151 k).toNat < S ∧ (1 ≤ (D 152 k).toNat ∧ (D 152 k).toNat ≤ 9) ∧ (D 153 k).toNat < (D 152 k).toNat ∧ (D 149 k).toNat ≤ 1
    omega
  · have := wor k hk i hi
    omega
  · exact h6 i hi
  · show (D 140 19).toNat ≤ 99 ∧ (1 ≤ (D 140 20).toNat ∧ (D 140 20).toNat ≤ 3) ∧ (D 140 21).toNat ≤ 2 ∧ (D 140 22).toNat < (D 140 17).toNat ∧ (D 140 25).toNat ≤ 1
    omega
  · have := dM_pl h n (Nat.le_refl _)
    unfold qN
    rw [eP]
    omega
section
variable {d : Nat} {J : Nat → Nat → Int64} {Z D : Nat → Nat → Int} {p0 p1 p2 p3 p4 p5 p6 p7 : Nat} {n S : Nat}
theorem cp_1 (hd : DW D n S) (ha : AG D Z) (h11 : Z 140 11 = (n : Int)) : ∃ Z' : Nat → Nat → Int, (∀ a : Nat, a ≠ 142 → a ≠ 143 → a ≠ 144 → a ≠ 148 → Z' a = Z a) ∧ (∀ k : Nat, k < n → Z' 142 k = D 151 k ∧ Z' 143 k = D 152 k ∧ Z' 144 k = D 153 k ∧ Z' 148 k = D 149 k) ∧ (∀ k : Nat, n ≤ k → Z' 142 k = Z 142 k) ∧ den none (Mean d) (some .int) tQ_X11_matter (107, [some (.ref 140), some (.int (i32 ((0 : Nat) : Int)))], [], 176, zs Z, J, RP p0 p1 p2 p3 p4 p5 p6 p7) = den none (Mean d) (some .int) tQ_X11_matter (169, [some (.ref 140), some (.int (i32 (n : Int)))], [], 176, zs Z', J, RP p0 p1 p2 p3 p4 p5 p6 p7) := by
  have hn := hd.2.1.2
  obtain ⟨Z', v, e⟩ := up_inv (fun (k : Nat) (Z : Nat → Nat → Int) => den none (Mean d) (some .int) tQ_X11_matter (107, [some (.ref 140), some (.int (i32 (k : Int)))], [], 176, zs Z, J, RP p0 p1 p2 p3 p4 p5 p6 p7)) n (fun k Z' => (∀ a : Nat, a ≠ 142 → a ≠ 143 → a ≠ 144 → a ≠ 148 → Z' a = Z a) ∧ (∀ x : Nat, x < k → Z' 142 x = D 151 x ∧ Z' 143 x = D 152 x ∧ Z' 144 x = D 153 x ∧ Z' 148 x = D 149 x) ∧ (∀ x : Nat, k ≤ x → Z' 142 x = Z 142 x)) (fun k Z1 hk hv => by
    obtain ⟨v1, v2, v3⟩ := hv
    have z11 : Z1 140 11 = (n : Int) := by rw [v1 140 (by decide) (by decide) (by decide) (by decide), h11]
    have z151 : Z1 151 k = D 151 k := by rw [v1 151 (by decide) (by decide) (by decide) (by decide)]; exact ha 151 k (by omega)
    have z152 : Z1 152 k = D 152 k := by rw [v1 152 (by decide) (by decide) (by decide) (by decide)]; exact ha 152 k (by omega)
    have z153 : Z1 153 k = D 153 k := by rw [v1 153 (by decide) (by decide) (by decide) (by decide)]; exact ha 153 k (by omega)
    have z149 : Z1 149 k = D 149 k := by rw [v1 149 (by decide) (by decide) (by decide) (by decide)]; exact ha 149 k (by omega)
    have b149 := (hd.2.2.2.2.2.2 k hk).1
    have nb : vp_nar .boolean (i32 (D 149 k)) = i32 (D 149 k) := by
      have : D 149 k = 0 ∨ D 149 k = 1 := by omega
      rcases this with e | e
      · rw [e]; rfl
      · rw [e]; rfl
    refine ⟨u2 (u2 (u2 (u2 Z1 142 k (D 151 k)) 143 k (D 152 k)) 144 k (D 153 k)) 148 k (D 149 k), ⟨fun a a1 a2 a3 a4 => ?_, fun x hx => ?_, fun x hx => ?_⟩, ?_⟩
    · rw [u2_ne a4, u2_ne a3, u2_ne a2, u2_ne a1]
      exact v1 a a1 a2 a3 a4
    · by_cases c : x = k
      · subst c
        simp (disch := omega) only [u2a, u2s]
        exact ⟨trivial, trivial, trivial, trivial⟩
      · simp (disch := omega) only [u2a, u2f]
        exact v2 x (by omega)
    · simp (disch := omega) only [u2a, u2f]
      exact v3 x (by omega)
    · rw [k_X11_matter_107]
      simp (disch := omega) only [k_X11_matter_0, k_X11_matter_32, k_X11_matter_36, k_X11_matter_39, k_X11_matter_41, k_X11_matter_97, k_X11_matter_115, k_X11_matter_126, k_X11_matter_127, k_X11_matter_138, k_X11_matter_139, k_X11_matter_150, k_X11_matter_151, k_X11_matter_162, k_X11_matter_163, k_X11_matter_177, k_X11_matter_188, k_X11_matter_189, k_X11_matter_195, k_X11_matter_202, k_X11_matter_213, k_X11_matter_214, k_X11_matter_225, k_X11_matter_226, k_X11_matter_232, k_X11_matter_236, li_0, li_1, li_2, li_3, li_4, li_5, li_6, li_9, li_10, li_40, lm_1, lm_2, lm_3, lm_4, zs_ap, i32_add, i32_sub, i32_mul, i32_neg, i32_lt, i32_le, i32_eq, i32_nat, ckn, pka_r, pka_v, if_pos, if_neg, if_true, if_false, z11, Int.toNat_natCast, z151, zs_u2, u2a (show 152 ≠ 142 by decide), z152, u2a (show 153 ≠ 143 by decide), u2a (show 153 ≠ 142 by decide), z153, u2a (show 149 ≠ 144 by decide), u2a (show 149 ≠ 143 by decide), u2a (show 149 ≠ 142 by decide), z149, nb]
      rfl) Z ⟨fun _ _ _ _ _ => rfl, fun x hx => absurd hx (by omega), fun _ _ => rfl⟩
  refine ⟨Z', v.1, v.2.1, v.2.2, e.trans ?_⟩
  have z11 : Z' 140 11 = (n : Int) := by rw [v.1 140 (by decide) (by decide) (by decide) (by decide), h11]
  rw [k_X11_matter_107]
  simp (disch := omega) only [k_X11_matter_0, k_X11_matter_32, k_X11_matter_36, k_X11_matter_39, k_X11_matter_41, k_X11_matter_97, k_X11_matter_115, k_X11_matter_126, k_X11_matter_127, k_X11_matter_138, k_X11_matter_139, k_X11_matter_150, k_X11_matter_151, k_X11_matter_162, k_X11_matter_163, k_X11_matter_177, k_X11_matter_188, k_X11_matter_189, k_X11_matter_195, k_X11_matter_202, k_X11_matter_213, k_X11_matter_214, k_X11_matter_225, k_X11_matter_226, k_X11_matter_232, k_X11_matter_236, li_0, li_1, li_2, li_3, li_4, li_5, li_6, li_9, li_10, li_40, lm_1, lm_2, lm_3, lm_4, zs_ap, i32_add, i32_sub, i32_mul, i32_neg, i32_lt, i32_le, i32_eq, i32_nat, ckn, pka_r, pka_v, if_pos, if_neg, if_true, if_false, z11]
theorem cp_2 : ∃ Z' : Nat → Nat → Int, (∀ a : Nat, a ≠ 145 → Z' a = Z a) ∧ (∀ k : Nat, k < 18 → Z' 145 k = Z 154 k) ∧ den none (Mean d) (some .int) tQ_X11_matter (171, [some (.ref 140), some (.int (i32 ((0 : Nat) : Int)))], [], 176, zs Z, J, RP p0 p1 p2 p3 p4 p5 p6 p7) = den none (Mean d) (some .int) tQ_X11_matter (195, [some (.ref 140), some (.int (i32 ((18 : Nat) : Int)))], [], 176, zs Z', J, RP p0 p1 p2 p3 p4 p5 p6 p7) := by
  obtain ⟨Z', v, e⟩ := up_inv (fun (k : Nat) (Z : Nat → Nat → Int) => den none (Mean d) (some .int) tQ_X11_matter (171, [some (.ref 140), some (.int (i32 (k : Int)))], [], 176, zs Z, J, RP p0 p1 p2 p3 p4 p5 p6 p7)) 18 (fun k Z' => (∀ a : Nat, a ≠ 145 → Z' a = Z a) ∧ (∀ x : Nat, x < k → Z' 145 x = Z 154 x)) (fun k Z1 hk hv => by
    obtain ⟨v1, v2⟩ := hv
    refine ⟨u2 Z1 145 k (Z 154 k), ⟨fun a a1 => (u2_ne a1).trans (v1 a a1), fun x hx => ?_⟩, ?_⟩
    · by_cases c : x = k
      · rw [c, u2s]
      · rw [u2f c]
        exact v2 x (by omega)
    · have z : Z1 154 k = Z 154 k := by rw [v1 154 (by decide)]
      rw [k_X11_matter_171]
      simp (disch := omega) only [k_X11_matter_0, k_X11_matter_32, k_X11_matter_36, k_X11_matter_39, k_X11_matter_41, k_X11_matter_97, k_X11_matter_115, k_X11_matter_126, k_X11_matter_127, k_X11_matter_138, k_X11_matter_139, k_X11_matter_150, k_X11_matter_151, k_X11_matter_162, k_X11_matter_163, k_X11_matter_169, k_X11_matter_177, k_X11_matter_188, k_X11_matter_189, k_X11_matter_202, k_X11_matter_213, k_X11_matter_214, k_X11_matter_225, k_X11_matter_226, k_X11_matter_232, k_X11_matter_236, li_0, li_1, li_2, li_3, li_4, li_5, li_6, li_9, li_10, li_40, lm_1, lm_2, lm_3, lm_4, zs_ap, i32_add, i32_sub, i32_mul, i32_neg, i32_lt, i32_le, i32_eq, i32_nat, ckn, pka_r, pka_v, if_pos, if_neg, if_true, if_false, li_18, Int.toNat_natCast, z, zs_u2]
      rfl) Z ⟨fun _ _ => rfl, fun x hx => absurd hx (by omega)⟩
  refine ⟨Z', v.1, v.2, e.trans ?_⟩
  rw [k_X11_matter_171]
  simp (disch := omega) only [k_X11_matter_0, k_X11_matter_32, k_X11_matter_36, k_X11_matter_39, k_X11_matter_41, k_X11_matter_97, k_X11_matter_115, k_X11_matter_126, k_X11_matter_127, k_X11_matter_138, k_X11_matter_139, k_X11_matter_150, k_X11_matter_151, k_X11_matter_162, k_X11_matter_163, k_X11_matter_169, k_X11_matter_177, k_X11_matter_188, k_X11_matter_189, k_X11_matter_202, k_X11_matter_213, k_X11_matter_214, k_X11_matter_225, k_X11_matter_226, k_X11_matter_232, k_X11_matter_236, li_0, li_1, li_2, li_3, li_4, li_5, li_6, li_9, li_10, li_40, lm_1, lm_2, lm_3, lm_4, zs_ap, i32_add, i32_sub, i32_mul, i32_neg, i32_lt, i32_le, i32_eq, i32_nat, ckn, pka_r, pka_v, if_pos, if_neg, if_true, if_false, li_18]
theorem cp_3 : ∃ Z' : Nat → Nat → Int, (∀ a : Nat, a ≠ 146 → a ≠ 147 → Z' a = Z a) ∧ (∀ k : Nat, k < 3 → Z' 146 k = Z 155 k ∧ Z' 147 k = Z 156 k) ∧ den none (Mean d) (some .int) tQ_X11_matter (197, [some (.ref 140), some (.int (i32 ((0 : Nat) : Int)))], [], 176, zs Z, J, RP p0 p1 p2 p3 p4 p5 p6 p7) = den none (Mean d) (some .int) tQ_X11_matter (232, [some (.ref 140), some (.int (i32 ((3 : Nat) : Int)))], [], 176, zs Z', J, RP p0 p1 p2 p3 p4 p5 p6 p7) := by
  obtain ⟨Z', v, e⟩ := up_inv (fun (k : Nat) (Z : Nat → Nat → Int) => den none (Mean d) (some .int) tQ_X11_matter (197, [some (.ref 140), some (.int (i32 (k : Int)))], [], 176, zs Z, J, RP p0 p1 p2 p3 p4 p5 p6 p7)) 3 (fun k Z' => (∀ a : Nat, a ≠ 146 → a ≠ 147 → Z' a = Z a) ∧ (∀ x : Nat, x < k → Z' 146 x = Z 155 x ∧ Z' 147 x = Z 156 x)) (fun k Z1 hk hv => by
    obtain ⟨v1, v2⟩ := hv
    refine ⟨u2 (u2 Z1 146 k (Z 155 k)) 147 k (Z 156 k), ⟨fun a a1 a2 => by rw [u2_ne a2, u2_ne a1]; exact v1 a a1 a2, fun x hx => ?_⟩, ?_⟩
    · by_cases c : x = k
      · subst c
        simp (disch := omega) only [u2a, u2s]
        exact ⟨trivial, trivial⟩
      · simp (disch := omega) only [u2a, u2f]
        exact v2 x (by omega)
    · have z1 : Z1 155 k = Z 155 k := by rw [v1 155 (by decide) (by decide)]
      have z2 : Z1 156 k = Z 156 k := by rw [v1 156 (by decide) (by decide)]
      rw [k_X11_matter_197]
      simp (disch := omega) only [k_X11_matter_0, k_X11_matter_32, k_X11_matter_36, k_X11_matter_39, k_X11_matter_41, k_X11_matter_97, k_X11_matter_115, k_X11_matter_126, k_X11_matter_127, k_X11_matter_138, k_X11_matter_139, k_X11_matter_150, k_X11_matter_151, k_X11_matter_162, k_X11_matter_163, k_X11_matter_169, k_X11_matter_177, k_X11_matter_188, k_X11_matter_189, k_X11_matter_195, k_X11_matter_202, k_X11_matter_213, k_X11_matter_214, k_X11_matter_225, k_X11_matter_226, k_X11_matter_236, li_0, li_1, li_2, li_3, li_4, li_5, li_6, li_9, li_10, li_40, lm_1, lm_2, lm_3, lm_4, zs_ap, i32_add, i32_sub, i32_mul, i32_neg, i32_lt, i32_le, i32_eq, i32_nat, ckn, pka_r, pka_v, if_pos, if_neg, if_true, if_false, Int.toNat_natCast, z1, zs_u2, u2a (show 156 ≠ 146 by decide), z2]
      rfl) Z ⟨fun _ _ _ => rfl, fun x hx => absurd hx (by omega)⟩
  refine ⟨Z', v.1, v.2, e.trans ?_⟩
  rw [k_X11_matter_197]
  simp (disch := omega) only [k_X11_matter_0, k_X11_matter_32, k_X11_matter_36, k_X11_matter_39, k_X11_matter_41, k_X11_matter_97, k_X11_matter_115, k_X11_matter_126, k_X11_matter_127, k_X11_matter_138, k_X11_matter_139, k_X11_matter_150, k_X11_matter_151, k_X11_matter_162, k_X11_matter_163, k_X11_matter_169, k_X11_matter_177, k_X11_matter_188, k_X11_matter_189, k_X11_matter_195, k_X11_matter_202, k_X11_matter_213, k_X11_matter_214, k_X11_matter_225, k_X11_matter_226, k_X11_matter_236, li_0, li_1, li_2, li_3, li_4, li_5, li_6, li_9, li_10, li_40, lm_1, lm_2, lm_3, lm_4, zs_ap, i32_add, i32_sub, i32_mul, i32_neg, i32_lt, i32_le, i32_eq, i32_nat, ckn, pka_r, pka_v, if_pos, if_neg, if_true, if_false]
end
