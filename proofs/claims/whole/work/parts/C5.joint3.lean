/-! BOTH STORES: did, right, feed, end -/
theorem DV_did {m : Mat} {Z : Nat → Nat → Int} {nd nr : Nat} (hv : DV m Z nd nr) (hnd : nd < 20) {to sd s n st : Int} (hd : dOK m Z to sd s n st) : DV m (dZ Z nd to sd s n st) (nd + 1) nr := by
  obtain ⟨⟨v1, v2, v3, v4, v5⟩, w1, w2⟩ := hv
  obtain ⟨⟨q1, q2⟩, ⟨q3, q4⟩, q5⟩ := hd
  refine ⟨⟨?_, by omega, ?_, v4, ?_⟩, fun k hk => ?_, fun r hr => ?_⟩
  · unfold dZ
    rw [u2s]
    rfl
  · unfold dZ
    rw [u2f (by omega), u2_ne (by omega), u2_ne (by omega), u2_ne (by omega), u2_ne (by omega), u2_ne (by omega), u2f (by omega)]
    exact v3
  · unfold dZ
    rw [u2f (by omega), u2_ne (by omega), u2_ne (by omega), u2_ne (by omega), u2_ne (by omega), u2_ne (by omega), u2s]
    omega
  · unfold dZ
    by_cases c : k = nd
    · subst c
      simp only [u2s, u2_ne (show 168 ≠ 140 by decide), u2_ne (show 169 ≠ 140 by decide), u2_ne (show 170 ≠ 140 by decide), u2_ne (show 171 ≠ 140 by decide), u2_ne (show 172 ≠ 140 by decide), u2_ne (show 168 ≠ 169 by decide), u2_ne (show 168 ≠ 170 by decide), u2_ne (show 168 ≠ 171 by decide), u2_ne (show 168 ≠ 172 by decide), u2_ne (show 169 ≠ 170 by decide), u2_ne (show 169 ≠ 171 by decide), u2_ne (show 169 ≠ 172 by decide), u2_ne (show 170 ≠ 171 by decide), u2_ne (show 170 ≠ 172 by decide), u2_ne (show 171 ≠ 172 by decide)]
      exact ⟨q2, q3, q4, q5, by omega⟩
    · have := w1 k (by omega)
      simp only [u2f c, u2_ne (show 168 ≠ 140 by decide), u2_ne (show 169 ≠ 140 by decide), u2_ne (show 170 ≠ 140 by decide), u2_ne (show 171 ≠ 140 by decide), u2_ne (show 172 ≠ 140 by decide), u2_ne (show 168 ≠ 169 by decide), u2_ne (show 168 ≠ 170 by decide), u2_ne (show 168 ≠ 171 by decide), u2_ne (show 168 ≠ 172 by decide), u2_ne (show 169 ≠ 170 by decide), u2_ne (show 169 ≠ 171 by decide), u2_ne (show 169 ≠ 172 by decide), u2_ne (show 170 ≠ 171 by decide), u2_ne (show 170 ≠ 172 by decide), u2_ne (show 171 ≠ 172 by decide), u2_ne (show 169 ≠ 168 by decide), u2_ne (show 170 ≠ 168 by decide), u2_ne (show 170 ≠ 169 by decide), u2_ne (show 171 ≠ 168 by decide), u2_ne (show 171 ≠ 169 by decide), u2_ne (show 171 ≠ 170 by decide), u2_ne (show 172 ≠ 168 by decide), u2_ne (show 172 ≠ 169 by decide), u2_ne (show 172 ≠ 170 by decide), u2_ne (show 172 ≠ 171 by decide)]
      exact this
  · unfold dZ
    have := w2 r hr
    rw [u2_ne (show 173 ≠ 140 by decide), u2_ne (show 173 ≠ 172 by decide), u2_ne (show 173 ≠ 171 by decide), u2_ne (show 173 ≠ 170 by decide), u2_ne (show 173 ≠ 169 by decide), u2_ne (show 173 ≠ 168 by decide), u2_ne (show 173 ≠ 140 by decide), u2_ne (show 174 ≠ 140 by decide), u2_ne (show 174 ≠ 172 by decide), u2_ne (show 174 ≠ 171 by decide), u2_ne (show 174 ≠ 170 by decide), u2_ne (show 174 ≠ 169 by decide), u2_ne (show 174 ≠ 168 by decide), u2_ne (show 174 ≠ 140 by decide), u2_ne (show 175 ≠ 140 by decide), u2_ne (show 175 ≠ 172 by decide), u2_ne (show 175 ≠ 171 by decide), u2_ne (show 175 ≠ 170 by decide), u2_ne (show 175 ≠ 169 by decide), u2_ne (show 175 ≠ 168 by decide), u2_ne (show 175 ≠ 140 by decide)]
    exact ⟨by omega, this.2⟩
theorem DV_right {m : Mat} {Z : Nat → Nat → Int} {nd nr : Nat} (hv : DV m Z nd nr) (hnr : nr < 20) {to k st : Int} (hd : rOK Z nd to k st) : DV m (rZ Z nr to k st) nd (nr + 1) := by
  obtain ⟨⟨v1, v2, v3, v4, v5⟩, w1, w2⟩ := hv
  obtain ⟨⟨q1, q2⟩, q5⟩ := hd
  refine ⟨⟨?_, v2, ?_, by omega, ?_⟩, fun k' hk => ?_, fun r hr => ?_⟩
  · unfold rZ
    rw [u2f (by omega), u2_ne (by omega), u2_ne (by omega), u2_ne (by omega), u2f (by omega)]
    exact v1
  · unfold rZ
    rw [u2s]
    rfl
  · unfold rZ
    rw [u2f (by omega), u2_ne (by omega), u2_ne (by omega), u2_ne (by omega), u2s]
    omega
  · have e : ∀ a : Nat, a ≠ 140 → a ≠ 173 → a ≠ 174 → a ≠ 175 → rZ Z nr to k st a = Z a := fun a b1 b2 b3 b4 => by
      unfold rZ
      rw [u2_ne b1, u2_ne b4, u2_ne b3, u2_ne b2, u2_ne b1]
    rw [e 168 (by decide) (by decide) (by decide) (by decide), e 169 (by decide) (by decide) (by decide) (by decide), e 170 (by decide) (by decide) (by decide) (by decide), e 171 (by decide) (by decide) (by decide) (by decide), e 172 (by decide) (by decide) (by decide) (by decide)]
    exact w1 k' hk
  · unfold rZ
    by_cases c : r = nr
    · subst c
      simp only [u2s, u2_ne (show 173 ≠ 140 by decide), u2_ne (show 174 ≠ 140 by decide), u2_ne (show 175 ≠ 140 by decide), u2_ne (show 173 ≠ 174 by decide), u2_ne (show 173 ≠ 175 by decide), u2_ne (show 174 ≠ 175 by decide)]
      exact ⟨q2, q5, by omega⟩
    · have := w2 r (by omega)
      simp only [u2f c, u2_ne (show 173 ≠ 140 by decide), u2_ne (show 174 ≠ 140 by decide), u2_ne (show 175 ≠ 140 by decide), u2_ne (show 173 ≠ 174 by decide), u2_ne (show 173 ≠ 175 by decide), u2_ne (show 174 ≠ 175 by decide), u2_ne (show 174 ≠ 173 by decide), u2_ne (show 175 ≠ 173 by decide), u2_ne (show 175 ≠ 174 by decide)]
      exact this
theorem dZ_fr {Z : Nat → Nat → Int} {nd : Nat} {to sd s n st : Int} : (∀ a : Nat, a ≠ 140 → (a < 168 ∨ 175 < a) → dZ Z nd to sd s n st a = Z a) ∧ ∀ j : Nat, j < 68 ∨ 70 < j → dZ Z nd to sd s n st 140 j = Z 140 j := by
  constructor
  · intro a h1 h2
    unfold dZ
    rw [u2_ne h1, u2_ne (by omega), u2_ne (by omega), u2_ne (by omega), u2_ne (by omega), u2_ne (by omega), u2_ne h1]
  · intro j hj
    unfold dZ
    rw [u2f (by omega), u2_ne (by omega), u2_ne (by omega), u2_ne (by omega), u2_ne (by omega), u2_ne (by omega), u2f (by omega)]
theorem rZ_fr {Z : Nat → Nat → Int} {nr : Nat} {to k st : Int} : (∀ a : Nat, a ≠ 140 → (a < 168 ∨ 175 < a) → rZ Z nr to k st a = Z a) ∧ ∀ j : Nat, j < 68 ∨ 70 < j → rZ Z nr to k st 140 j = Z 140 j := by
  constructor
  · intro a h1 h2
    unfold rZ
    rw [u2_ne h1, u2_ne (by omega), u2_ne (by omega), u2_ne (by omega), u2_ne h1]
  · intro j hj
    unfold rZ
    rw [u2f (by omega), u2_ne (by omega), u2_ne (by omega), u2_ne (by omega), u2f (by omega)]
theorem DC_x {m : Mat} {Z Z' Y Y' : Nat → Nat → Int} {nd nr : Nat} (h : DC m Z Y nd nr) (e : ∀ a : Nat, 132 ≤ a → a ≤ 139 → Z' a = Z a) (e0 : Y' 140 70 = Y 140 70) (e1 : ∀ a : Nat, 168 ≤ a → a ≤ 175 → Y' a = Y a) : DC m Z' Y' nd nr := DC_fr2 (DC_fr h e) e0 e1
section
variable {J J' : Nat → Nat → Int64} {Z Z' : Nat → Nat → Int} {p0 p1 p5 p6 : Nat} {m : Mat} {nd nr len : Nat} {tp : Nat → Nat}
theorem st_26 (h : IV p0 p1 m nd nr tp len Z J) {to sd s n st : Int} (h1 : -2147483648 ≤ to ∧ to < 2147483648) (h2 : -2147483648 ≤ sd ∧ sd < 2147483648) (h3 : -2147483648 ≤ s ∧ s < 2147483648) (h4 : -2147483648 ≤ n ∧ n < 2147483648) (h5 : -2147483648 ≤ st ∧ st < 2147483648) : SmI 132 225 [.int (i32 to), .int (i32 sd), .int (i32 s), .int (i32 n), .int (i32 st)] (176, zs Z, J, RP p0 p1 p0 35 p0 p5 p6 97) := by
  obtain ⟨hv, hc⟩ := h.2.2.2.2.2.2.2
  have hM := h.2.2.1.1
  obtain ⟨Z1, e1, e2, e3, e4⟩ := h_did (d := 37) (J := J) (p1 := p1) (p5 := p5) (p6 := p6) h.2.1.1 hv hc h1 h2 h3 h4 h5
  have hM1 : MB m Z1 := MB_fr hM (fun a ha => e1 a (by omega))
  have hv1 : DV m Z1 nd nr := DV_fr hv (fun j _ _ => by rw [e1 140 (by omega)]) (fun a _ _ => e1 a (by omega))
  have g := g_did (d := 37) (J := J) (p0 := p0) (p1 := p1) (p2 := p0) (p3 := 35) (p4 := p0) (p5 := p5) (p6 := p6) (p7 := 97) hM1.1 hv1 h1 h2 h3 h4 h5
  have e70 : Z1 140 = Z 140 := e1 140 (by omega)
  have ok : dOK m Z1 to sd s n st ↔ dOK m Z to sd s n st := by
    unfold dOK
    rw [e70]
  by_cases c : dOK m Z to sd s n st
  · rw [if_pos (ok.mpr c)] at g
    rw [if_pos c] at e4
    by_cases c20 : nd = 20
    · rw [if_pos c20] at g e4
      have q := e3 (fun q => q.2 c20)
      subst q
      exact ⟨_, _, _, _, _, e4, g, p0, p1, p5, p6, m, nd, nr, tp, len, _, J, h, rfl⟩
    · rw [if_neg c20] at g e4
      have hd := e2 c c20
      refine ⟨_, _, _, _, _, e4, g, p0, p1, p5, p6, m, nd + 1, nr, tp, len, dZ Z1 nd to sd s n st, J, IV_dd h (fun a b1 b2 b3 => (dZ_fr.1 a b2 b3).trans (e1 a b1)) (fun j hj => by rw [dZ_fr.2 j hj, e70]) ⟨DV_did hv1 (by have := hv.1.2.1; omega) (ok.mpr c), ?_⟩, rfl⟩
      refine DC_x hd (fun a b1 b2 => dZ_fr.1 a (by omega) (by omega)) ?_ (fun a b1 b2 => ?_)
      · unfold dZ
        simp [u2]
      · unfold dZ
        have ez : ∀ a : Nat, 139 < a → Z1 a = Z a := fun a ha => e1 a (by omega)
        funext j
        simp only [u2, ez 140 (by omega), ez a (by omega)]
  · rw [if_neg (fun q => c (ok.mp q))] at g
    rw [if_neg c] at e4
    have q := e3 (fun q => c q.1)
    subst q
    exact ⟨_, _, _, _, _, e4, g, p0, p1, p5, p6, m, nd, nr, tp, len, _, J, h, rfl⟩
theorem st_27 (h : IV p0 p1 m nd nr tp len Z J) {to k st : Int} (h1 : -2147483648 ≤ to ∧ to < 2147483648) (h2 : -2147483648 ≤ k ∧ k < 2147483648) (h5 : -2147483648 ≤ st ∧ st < 2147483648) : SmI 133 226 [.int (i32 to), .int (i32 k), .int (i32 st)] (176, zs Z, J, RP p0 p1 p0 35 p0 p5 p6 97) := by
  obtain ⟨hv, hc⟩ := h.2.2.2.2.2.2.2
  obtain ⟨Z1, e1, e2, e3, e4⟩ := h_right (d := 37) (J := J) (p0 := p0) (p1 := p1) (p5 := p5) (p6 := p6) hv hc h1 h2 h5
  have hv1 : DV m Z1 nd nr := DV_fr hv (fun j _ _ => by rw [e1 140 (by omega)]) (fun a _ _ => e1 a (by omega))
  have g := g_right (d := 37) (J := J) (p0 := p0) (p1 := p1) (p2 := p0) (p3 := 35) (p4 := p0) (p5 := p5) (p6 := p6) (p7 := 97) hv1 h1 h2 h5
  have e70 : Z1 140 = Z 140 := e1 140 (by omega)
  have ok : rOK Z1 nd to k st ↔ rOK Z nd to k st := by
    unfold rOK
    rw [e70]
  by_cases c : rOK Z nd to k st
  · rw [if_pos (ok.mpr c)] at g
    rw [if_pos c] at e4
    by_cases c20 : nr = 20
    · rw [if_pos c20] at g e4
      have q := e3 (fun q => q.2 c20)
      subst q
      exact ⟨_, _, _, _, _, e4, g, p0, p1, p5, p6, m, nd, nr, tp, len, _, J, h, rfl⟩
    · rw [if_neg c20] at g e4
      have hd := e2 c c20
      have e173 : rZ Z1 nr to k st 173 = rZ Z nr to k st 173 := by
        unfold rZ
        funext j
        simp only [u2, e1 140 (by omega), e1 173 (by omega)]
      rw [e173] at g
      refine ⟨_, _, _, _, _, e4, g, p0, p1, p5, p6, m, nd, nr + 1, tp, len, rZ Z1 nr to k st, J, IV_dd h (fun a b1 b2 b3 => (rZ_fr.1 a b2 b3).trans (e1 a b1)) (fun j hj => by rw [rZ_fr.2 j hj, e70]) ⟨DV_right hv1 (by have := hv.1.2.2.2.1; omega) (ok.mpr c), ?_⟩, rfl⟩
      refine DC_x hd (fun a b1 b2 => rZ_fr.1 a (by omega) (by omega)) ?_ (fun a b1 b2 => ?_)
      · unfold rZ
        simp [u2]
      · unfold rZ
        have ez : ∀ a : Nat, 139 < a → Z1 a = Z a := fun a ha => e1 a (by omega)
        funext j
        simp only [u2, ez 140 (by omega), ez a (by omega)]
  · rw [if_neg (fun q => c (ok.mp q))] at g
    rw [if_neg c] at e4
    have q := e3 (fun q => c q.1)
    subst q
    exact ⟨_, _, _, _, _, e4, g, p0, p1, p5, p6, m, nd, nr, tp, len, _, J, h, rfl⟩
/-- only the tape has changed -/
theorem IV_tp {tp' : Nat → Nat} {len' : Nat} (h : IV p0 p1 m nd nr tp len Z J) (e : ∀ a : Nat, a ≠ 1 → a ≠ 2 → a ≠ 140 → a ≠ 141 → Z' a = Z a) (e0 : ∀ j : Nat, j ≠ 1 → Z' 140 j = Z 140 j) (ht : TWC tp' len' Z') : IV p0 p1 m nd nr tp' len' Z' J := by
  obtain ⟨⟨i1, i1'⟩, i2, i3, _, ⟨⟨f1, f2⟩, f3, f4⟩, i6, i7, i8, i9⟩ := h
  have hp := i1
  unfold hv2 at hp
  have hM : MB m Z' := ⟨MI_fr2 i3.1.1 (fun j h1 h2 => e0 j (by omega)) (fun a h1 h2 => e a (by omega) (by omega) (by omega) (by omega)), fun i hi => by rw [e 161 (by omega) (by omega) (by omega) (by omega)]; exact i3.1.2 i hi⟩
  refine ⟨⟨i1, i1'⟩, KL_fr2 i2 (fun a ha => e a (by omega) (by omega) (by omega) (by omega)) (fun _ _ _ => rfl), ⟨hM, i3.2⟩, ht, ⟨⟨?_, ?_⟩, ?_, fun j hj => ?_⟩, RWC_fr i6 (fun a h1 h2 => e a (by omega) (by omega) (by omega) (by omega)) (e0 60 (by omega)) (e 164 (by omega) (by omega) (by omega) (by omega)) (e 165 (by omega) (by omega) (by omega) (by omega)), ?_, DV_fr i8 (fun j h1 h2 => e0 j (by omega)) (fun a h1 h2 => e a (by omega) (by omega) (by omega) (by omega)), DC_x i9 (fun a h1 h2 => e a (by omega) (by omega) (by omega) (by omega)) (e0 70 (by omega)) (fun a h1 h2 => e a (by omega) (by omega) (by omega) (by omega))⟩
  · rw [e 3 (by omega) (by omega) (by omega) (by omega), e0 7 (by omega)]; exact f1
  · rw [e 3 (by omega) (by omega) (by omega) (by omega), e0 8 (by omega)]; exact f2
  · rw [e p0 (by omega) (by omega) (by omega) (by omega), e0 16 (by omega)]; exact f3
  · rw [e 154 (by omega) (by omega) (by omega) (by omega)]; exact f4 j hj
  · unfold JWC
    rw [e 129 (by omega) (by omega) (by omega) (by omega), e0 62 (by omega), e0 63 (by omega), e0 64 (by omega), e0 65 (by omega), e0 66 (by omega)]
    exact i7
theorem st_1 (h : IV p0 p1 m nd nr tp len Z J) {a : Int} (ha : -2147483648 ≤ a ∧ a < 2147483648) : SmI 107 165 [.int (i32 a)] (176, zs Z, J, RP p0 p1 p0 35 p0 p5 p6 97) := by
  obtain ⟨t1, t2, t3, t4, t5⟩ := h.2.2.2.1
  have h1 := h_end (d := 38) (J := J) (p0 := p0) (p1 := p1) (p2 := p0) (p3 := 35) (p4 := p0) (p5 := p5) (p6 := p6) (p7 := 97) t1 t2 ha
  by_cases c : 0 ≤ a ∧ a ≤ len
  · rw [if_pos c] at h1
    have h2 := m_end (d := 38) (J := J) (Z := u2 Z 1 1 a) (p0 := p0) (p1 := p1) (p2 := p0) (p3 := 35) (p4 := p0) (p5 := p5) (p6 := p6) (p7 := 97) t1 (by rw [u2_ne (by omega)]; exact t3) ha
    rw [if_pos c] at h2
    refine ⟨_, _, _, _, _, h1, h2, p0, p1, p5, p6, m, nd, nr, tp, a.toNat, u2 (u2 Z 1 1 a) 140 1 a, J, IV_tp h (fun b b1 b2 b3 b4 => by rw [u2_ne b3, u2_ne b1]) (fun j hj => by rw [u2f hj, u2_ne (by omega)]) ⟨by omega, ?_, ?_, fun x hx => ?_, fun x hx => ?_⟩, rfl⟩
    · rw [u2_ne (by omega), u2s]; omega
    · rw [u2s]; omega
    · rw [u2_ne (by omega), u2_ne (by omega)]; exact t4 x hx
    · rw [u2_ne (by omega), u2_ne (by omega)]; exact t5 x hx
  · rw [if_neg c] at h1
    have h2 := m_end (d := 38) (J := J) (Z := Z) (p0 := p0) (p1 := p1) (p2 := p0) (p3 := 35) (p4 := p0) (p5 := p5) (p6 := p6) (p7 := 97) t1 t3 ha
    rw [if_neg c] at h2
    exact ⟨_, _, _, _, _, h1, h2, p0, p1, p5, p6, m, nd, nr, tp, len, Z, J, h, rfl⟩
end
