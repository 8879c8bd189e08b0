/-! THE MODEL'S place(), whole -/
section
variable {d : Nat} {J : Nat → Nat → Int64} {p0 p1 p2 p3 p4 p5 p6 p7 : Nat}
theorem s_place {m : Mat} {Z : Nat → Nat → Int} (h : wf m) (hr : MR m Z) (hj : mJk Z) :
    ∃ Z' : Nat → Nat → Int, (∀ a : Nat, a ≠ 140 → a ≠ 158 → a ≠ 159 → a ≠ 160 → Z' a = Z a) ∧ (∀ b : Nat, b ≠ 49 → b ≠ 50 → b ≠ 51 → Z' 140 b = Z 140 b) ∧ MR m Z' ∧ mJk Z' ∧ MT m Z' ∧ Mean (d + 2) 170 [.ref 140] (176, zs Z, J, RP p0 p1 p2 p3 p4 p5 p6 p7) = some (none, (176, zs Z', J, RP p0 p1 p2 p3 p4 p5 p6 p7)) := by
  have hP := h.2.1
  have hS := h.1
  have hN := h.2.2.2.2.2.2
  have hlay : mLay (u2 Z 158 0 1) (qP m) := MR_lay h (MR_fr hr (fun b _ => u2a (by decide)) (fun a h1 h2 => by funext b; exact u2a (by omega)))
  obtain ⟨Z1, a1, a2, a3⟩ := l_place1 (Mean (d + 1)) J p0 p1 p2 p3 p4 p5 p6 p7 hlay none (qP m) 0 (u2 Z 158 0 1) (by omega) (fun _ _ => rfl) (fun q hq => by
    have : q = 0 := by omega
    subst this
    rw [u2s]
    rfl)
  have f1 : ∀ a : Nat, a ≠ 158 → Z1 a = Z a := fun a ha => by
    rw [a1 a ha]
    funext b
    exact u2a ha
  have e143 : (u2 Z 158 0 1) 143 = Z 143 := by funext b; exact u2a (by decide)
  have e144 : (u2 Z 158 0 1) 144 = Z 144 := by funext b; exact u2a (by decide)
  rw [e143] at a2
  have hlay1 : mLay Z1 (qP m) := MR_lay h (MR_fr hr (fun b _ => by rw [f1 140 (by decide)]) (fun a h1 h2 => f1 a (by omega)))
  have g11 : Z1 140 11 = qP m := hlay1.1
  have g158 := a2 (qP m) (Nat.le_refl _)
  obtain ⟨Z2, b1, b2, b3, b4, b5, b6, b7⟩ := l_place2 (Mean (d + 1)) J p0 p1 p2 p3 p4 p5 p6 p7 hlay1 none (qP m) 0 (u2 (u2 (u2 Z1 140 49 (mPl (Z 143) (qP m))) 140 50 0) 140 51 0) (by omega) (fun a _ hb => by funext b; rw [u2a hb, u2a hb, u2a hb]) (fun b h1 h2 h3 => by rw [u2f h3, u2f h2, u2f h1]) (fun q hq => by rw [u2a (by decide), u2a (by decide), u2a (by decide), f1 143 (by decide)]; exact a2 q hq) (by rw [u2f (by decide), u2f (by decide), u2s, f1 143 (by decide)]) (by rw [u2f (by decide), u2s]; rfl) (by rw [u2s]; rfl)
  rw [f1 143 (by decide)] at b3 b4 b5 b6
  rw [f1 144 (by decide)] at b6
  have f2 : ∀ a : Nat, a ≠ 140 → a ≠ 158 → Z2 a = Z a := fun a ha hb => by rw [b1 a hb ha, f1 a hb]
  have f2' : ∀ b : Nat, b ≠ 49 → b ≠ 50 → b ≠ 51 → Z2 140 b = Z 140 b := fun b h1 h2 h3 => by rw [b2 b h1 h2 h3, f1 140 (by decide)]
  have r2 : MR m Z2 := MR_fr hr (fun b hb => f2' b (by omega) (by omega) (by omega)) (fun a h1 h2 => f2 a (by omega) (by omega))
  have j2 : mJk Z2 := by
    unfold mJk
    rw [f2 145 (by decide) (by decide), f2 159 (by decide) (by decide), f2 142 (by decide) (by decide), f2 160 (by decide) (by decide)]
    exact hj
  have ec : ∀ n : Nat, n ≤ qP m → ∀ k : Nat, k < n → Z 143 k = qcut m k := fun n hn k hk => (hr.2.1 k (by omega)).2.1
  have ek : ∀ n : Nat, n ≤ qP m → ∀ k : Nat, k < n → Z 144 k = qkept m k := fun n hn k hk => (hr.2.1 k (by omega)).2.2.1
  rw [mPl_q _ (ec _ (Nat.le_refl _))] at b4
  rw [mDot_q _ (ec _ (Nat.le_refl _)) (ec _ (Nat.le_refl _))] at b5
  rw [mDot_q _ (ec _ (Nat.le_refl _)) (ek _ (Nat.le_refl _))] at b6
  have e143' : Z2 143 = Z 143 := f2 143 (by decide) (by decide)
  obtain ⟨Z3, c1, c2, c2b, c3, c4, c5⟩ := l_place5 d J p0 p1 p2 p3 p4 p5 p6 p7 (S := qS m) (N := qN m) (MR_lay h r2) (MR_ok h r2 j2) r2.1.1 (fun q hq => by rw [e143']; exact b3 q hq) b4 hN (qN m) 0 none Z2 (by omega) (fun _ _ _ => rfl) (fun q hq => j2.2.1 q hq) j2.2.2.2 (fun t ht => by omega) (fun t ht => by omega)
  rw [e143'] at c3 c4
  have r3 : MR m Z3 := MR_fr r2 (fun b hb => by rw [c1 140 (by decide) (by decide)]) (fun a h1 h2 => c1 a (by omega) (by omega))
  refine ⟨Z3, ?_, ?_, r3, ?_, ?_, ?_⟩
  · intro a h1 h2 h3 h4
    rw [c1 a h3 h4, f2 a h1 h2]
  · intro b h1 h2 h3
    rw [c1 140 (by decide) (by decide), f2' b h1 h2 h3]
  · refine ⟨?_, c2, ?_, c2b⟩
    · rw [c1 145 (by decide) (by decide)]
      exact j2.1
    · rw [c1 142 (by decide) (by decide)]
      exact j2.2.2.1
  · refine ⟨?_, ?_, ?_, ?_⟩
    · rw [c1 140 (by decide) (by decide)]
      exact ⟨b4, b5, b6⟩
    · intro q hq
      rw [c1 158 (by decide) (by decide), b3 q hq, mPl_q q (ec q hq)]
    · intro s hs q hq
      rw [c3 s hs q hq]
      exact mHas_q s (fun k hk => ec (q + 1) (by omega) k (by omega))
    · intro s hs q hq
      rw [c4 s hs q hq]
      exact gSum_q r2 hq (qP m) (Nat.le_refl _) (fun k hk => mHas_q s (fun k2 hk2 => ec (k + 1) (by omega) k2 (by omega)))
  · rw [e_X11_place]
    have hz : (0 : Int).toNat = 0 := rfl
    simp (disch := omega) only [k_X11_place_0, k_X11_place_7, li_0, li_1, li_2, li_3, li_4, li_5, li_6, li_9, li_10, li_40, lm_1, lm_2, lm_3, lm_4, i32_lt, i32_le, i32_eq, i32_nat, ckn, pka_r, pka_v, if_pos, if_neg, zs_u2, hz]
    refine a3.trans ?_
    rw [k_X11_place_46]
    have hP0 : ((qP m : Nat) : Int).toNat = qP m := by omega
    simp (disch := omega) only [li_0, li_1, li_2, li_3, li_4, li_5, li_6, li_9, li_10, li_40, lm_1, lm_2, lm_3, lm_4, zs_ap, i32_add, i32_sub, i32_mul, i32_neg, i32_lt, i32_le, i32_eq, i32_nat, ckn, pka_r, pka_v, if_pos, if_neg, g11, hP0, g158, e143, k_X11_place_56, zs_u2]
    refine b7.trans ?_
    rw [k_X11_place_129]
    exact c5
end
