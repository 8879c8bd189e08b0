/-! BOTH STORES: find, pledge, judge, judged, did, right -/
theorem afew_40 {m : Mat} {b : Nat → Int} {s t : Nat} : afew m b s t ≤ 40 := by
  unfold afew
  split
  · next h => have := (fstN_lt _ h).1; omega
  · omega
section
variable {J J' : Nat → Nat → Int64} {Z Z' : Nat → Nat → Int} {p0 p1 p5 p6 : Nat} {m : Mat} {nd nr len : Nat} {tp : Nat → Nat}
theorem st_12 (h : IV p0 p1 m nd nr tp len Z J) {a b : Int} (ha : -2147483648 ≤ a ∧ a < 2147483648) (hb : -2147483648 ≤ b ∧ b < 2147483648) : SmI 118 202 [.int (i32 a), .int (i32 b)] (176, zs Z, J, RP p0 p1 p0 35 p0 p5 p6 97) := by
  obtain ⟨Z1, e1, e2, e3, e4⟩ := h_find (d := 33) (p1 := p1) (p5 := p5) (p6 := p6) h.2.1 ha hb
  have hM1 : MB m Z1 := MB_fr h.2.2.1.1 (fun a ha => e1 a (by omega))
  obtain ⟨Z2, J2, y0, y1, y2, y3, y4⟩ := g_find (d := 30) (J := J) (p0 := p0) (p1 := p1) (p2 := p0) (p3 := 35) (p4 := p0) (p5 := p5) (p6 := p6) (p7 := 97) hM1.1 (MB_MX hM1) ha hb
  refine ⟨_, _, _, _, _, e4, y4, p0, p1, p5, p6, m, nd, nr, tp, len, Z2, J2, ?_, rfl⟩
  obtain ⟨⟨i1, i1'⟩, i2, i3, ⟨t1, t2, t3, t4, t5⟩, ⟨⟨f1, f2⟩, f3, f4⟩, i6, i7, i8, i9⟩ := h
  have hp := i1
  unfold hv2 at hp
  by_cases c : 0 ≤ aFind m (qbre m) a b
  · have r1 := e2 c
    have r2 := y2 c
    have ea : ∀ a : Nat, (a < 52 ∨ 94 < a) → a ≠ 140 → a ≠ 164 → a ≠ 165 → Z2 a = Z a := fun a b1 b2 b3 b4 => (y1.1 a b2 b3 b4).trans (e1 a b1)
    have ez : ∀ a : Nat, a ≠ 140 → a ≠ 164 → a ≠ 165 → Z2 a = Z1 a := y1.1
    have e0 : ∀ j : Nat, j ≠ 60 → Z2 140 j = Z 140 j := fun j hj => by rw [y1.2 j hj, e1 140 (by omega)]
    have hn : aFind m (qbre m) a b ≤ 40 := by
      unfold aFind
      split
      · exact afew_40
      · omega
    have hM2 : MB m Z2 := ⟨MI_fr2 hM1.1 (fun j h1 h2 => y1.2 j (by omega)) (fun a h1 h2 => ez a (by omega) (by omega) (by omega)), fun i hi => by rw [ez 161 (by omega) (by omega) (by omega)]; exact hM1.2 i hi⟩
    refine ⟨⟨i1, i1'⟩, KL_fr2 i2 (fun a ha => ea a (by omega) (by omega) (by omega) (by omega)) (fun a h1 h2 => y0 a (by omega) (by omega)), ⟨hM2, i3.2⟩, ⟨t1, ?_, ?_, fun x hx => ?_, fun x hx => ?_⟩, ⟨⟨?_, ?_⟩, ?_, fun j hj => ?_⟩, ⟨⟨?_, ?_⟩, fun k i hk hi => ?_, fun k hk => ?_⟩, ?_, DV_fr i8 (fun j h1 h2 => e0 j (by omega)) (fun a h1 h2 => ea a (by omega) (by omega) (by omega) (by omega)), DC_fr2 (DC_fr i9 (fun a h1 h2 => ea a (by omega) (by omega) (by omega) (by omega))) (e0 70 (by omega)) (fun a h1 h2 => ea a (by omega) (by omega) (by omega) (by omega))⟩
    · rw [ea 1 (by omega) (by omega) (by omega) (by omega)]; exact t2
    · rw [e0 1 (by omega)]; exact t3
    · rw [ea 2 (by omega) (by omega) (by omega) (by omega)]; exact t4 x hx
    · rw [ea 141 (by omega) (by omega) (by omega) (by omega)]; exact t5 x hx
    · rw [ea 3 (by omega) (by omega) (by omega) (by omega), e0 7 (by omega)]; exact f1
    · rw [ea 3 (by omega) (by omega) (by omega) (by omega), e0 8 (by omega)]; exact f2
    · rw [ea p0 (by omega) (by omega) (by omega) (by omega), e0 16 (by omega)]; exact f3
    · rw [ea 154 (by omega) (by omega) (by omega) (by omega)]; exact f4 j hj
    · rw [ez 52 (by omega) (by omega) (by omega), r1.1, r2.1]
    · rw [ez 52 (by omega) (by omega) (by omega), r1.1]
      omega
    · rw [ez 52 (by omega) (by omega) (by omega), r1.1] at hk
      rw [ez (54 + k) (by omega) (by omega) (by omega), r1.2.2 k i (by omega) hi, r2.2.2 k i (by omega) hi]
    · rw [ez 52 (by omega) (by omega) (by omega), r1.1] at hk
      rw [ez 94 (by omega) (by omega) (by omega), r1.2.1 k (by omega), r2.2.1 k (by omega)]
    · unfold JWC
      rw [ea 129 (by omega) (by omega) (by omega) (by omega), e0 62 (by omega), e0 63 (by omega), e0 64 (by omega), e0 65 (by omega), e0 66 (by omega)]
      exact i7
  · have q1 := e3 (by omega)
    have q2 := y3 (by omega)
    rw [q2, q1]
    exact IV_sc ⟨⟨i1, i1'⟩, i2, i3, ⟨t1, t2, t3, t4, t5⟩, ⟨⟨f1, f2⟩, f3, f4⟩, i6, i7, i8, i9⟩ (fun _ _ _ => rfl) (fun a ha => y0 a (by omega) (by omega))
theorem st_19 (h : IV p0 p1 m nd nr tp len Z J) {a b : Int} (ha : -2147483648 ≤ a ∧ a < 2147483648) (hb : -2147483648 ≤ b ∧ b < 2147483648) : SmI 125 215 [.int (i32 a), .int (i32 b)] (176, zs Z, J, RP p0 p1 p0 35 p0 p5 p6 97) := by
  obtain ⟨Z1, J1, q5, q6, r, e1, e2, e4, e3⟩ := h_pledge (d := 33) (J := J) (p1 := p1) (p5 := p5) (p6 := p6) h.2.1.1 ha hb
  have h' := IV_tf h e1 e2
  obtain ⟨J', r', y0, y1, y3⟩ := g_pledge (d := 29) (J := J1) (p0 := p0) (p1 := p1) (p2 := p0) (p3 := 35) (p4 := p0) (p5 := q5) (p6 := q6) (p7 := 97) h'.2.2.1.1 ha hb
  have er := aPledge_u e4 y1
  subst er
  exact ⟨_, _, _, _, _, e3, y3, p0, p1, q5, q6, m, nd, nr, tp, len, Z1, J', IV_sc h' (fun _ _ _ => rfl) (fun a ha => y0 a (by omega) (by omega)), rfl⟩
theorem st_25 (h : IV p0 p1 m nd nr tp len Z J) {a : Int} (ha : -2147483648 ≤ a ∧ a < 2147483648) : SmI 131 223 [.int (i32 a)] (176, zs Z, J, RP p0 p1 p0 35 p0 p5 p6 97) := by
  obtain ⟨j1, j2, j3⟩ := h.2.2.2.2.2.2.1
  have h1 := h_judged (d := 39) (J := J) (Z := Z) (p0 := p0) (p1 := p1) (p5 := p5) (p6 := p6) ha (by omega)
  have h2 := g_judged (d := 39) (J := J) (Z := Z) (p0 := p0) (p1 := p1) (p2 := p0) (p3 := 35) (p4 := p0) (p5 := p5) (p6 := p6) (p7 := 97) ha j2
  have e : aJudged (Z 129 4) (Z 129 5) (Z 129 6) (Z 129 7) (Z 129 8) a = aJudged (Z 140 62) (Z 140 63) (Z 140 64) (Z 140 65) (Z 140 66) a := by
    by_cases c : Z 140 62 = 0
    · rw [j1, c]
      rfl
    · obtain ⟨q1, q2, q3, q4⟩ := j3 (by omega)
      rw [j1, q1, q2, q3, q4]
  rw [e] at h1
  exact ⟨_, _, _, _, _, h1, h2, p0, p1, p5, p6, m, nd, nr, tp, len, Z, J, h, rfl⟩
theorem st_24 (h : IV p0 p1 m nd nr tp len Z J) {a : Int} (ha : -2147483648 ≤ a ∧ a < 2147483648) : SmI 130 222 [.int (i32 a)] (176, zs Z, J, RP p0 p1 p0 35 p0 p5 p6 97) := by
  obtain ⟨⟨i1, i1'⟩, i2, i3, ⟨t1, t2, t3, t4, t5⟩, ⟨⟨f1, f2⟩, f3, f4⟩, i6, i7, i8, i9⟩ := h
  have hp := i1
  unfold hv2 at hp
  obtain ⟨Z1, e1, e2, e3, e4, e5, e6⟩ := h_judge (d := 33) (J := J) (p1 := p1) (p5 := p5) (p6 := p6) i2.1 t4 t1 t2 ha
  have hM1 : MB m Z1 := MB_fr i3.1 (fun a ha => e1 a (by omega) (by omega) (by omega) (by omega))
  have tb1 : TBz tp Z1 := fun x hx => by rw [e1 141 (by omega) (by omega) (by omega) (by omega)]; exact t5 x hx
  obtain ⟨Z2, y1, y2, y3, y4, y5⟩ := g_judge (d := 35) (J := J) (p0 := p0) (p1 := p1) (p2 := p0) (p3 := 35) (p4 := p0) (p5 := p5) (p6 := p6) (p7 := 97) hM1 (TBz_TB tb1) (len := len) (by rw [e1 140 (by omega) (by omega) (by omega) (by omega)]; exact t3) t1 ha
  refine ⟨_, _, _, _, _, e6, y5, p0, p1, p5, p6, m, nd, nr, tp, 0, Z2, J, ?_, rfl⟩
  have ea : ∀ a : Nat, a ≠ 1 → a ≠ 129 → a ≠ 130 → a ≠ 131 → a ≠ 140 → a ≠ 167 → Z2 a = Z a := fun a b1 b2 b3 b4 b5 b6 => (y1.1 a b5 b6).trans (e1 a b1 b2 b3 b4)
  have e0 : ∀ j : Nat, j ≠ 1 → j ≠ 62 → j ≠ 63 → j ≠ 64 → j ≠ 65 → j ≠ 66 → Z2 140 j = Z 140 j := fun j b1 b2 b3 b4 b5 b6 => by rw [y1.2 j b1 b2 b3 b4 b5 b6, e1 140 (by omega) (by omega) (by omega) (by omega)]
  refine ⟨⟨i1, i1'⟩, KL_fr2 i2 (fun a ha => ea a (by omega) (by omega) (by omega) (by omega) (by omega) (by omega)) (fun _ _ _ => rfl), ⟨JX_MB hM1 y1, i3.2⟩, ⟨by omega, ?_, y2, fun x hx => ?_, fun x hx => ?_⟩, ⟨⟨?_, ?_⟩, ?_, fun j hj => ?_⟩, RWC_fr i6 (fun a h1 h2 => ea a (by omega) (by omega) (by omega) (by omega) (by omega) (by omega)) (e0 60 (by omega) (by omega) (by omega) (by omega) (by omega) (by omega)) (ea 164 (by omega) (by omega) (by omega) (by omega) (by omega) (by omega)) (ea 165 (by omega) (by omega) (by omega) (by omega) (by omega) (by omega)), ?_, DV_fr i8 (fun j h1 h2 => e0 j (by omega) (by omega) (by omega) (by omega) (by omega) (by omega)) (fun a h1 h2 => ea a (by omega) (by omega) (by omega) (by omega) (by omega) (by omega)), DC_fr2 (DC_fr i9 (fun a h1 h2 => ea a (by omega) (by omega) (by omega) (by omega) (by omega) (by omega))) (e0 70 (by omega) (by omega) (by omega) (by omega) (by omega) (by omega)) (fun a h1 h2 => ea a (by omega) (by omega) (by omega) (by omega) (by omega) (by omega))⟩
  · rw [y1.1 1 (by omega) (by omega)]; exact e3
  · rw [ea 2 (by omega) (by omega) (by omega) (by omega) (by omega) (by omega)]; exact t4 x hx
  · rw [ea 141 (by omega) (by omega) (by omega) (by omega) (by omega) (by omega)]; exact t5 x hx
  · rw [ea 3 (by omega) (by omega) (by omega) (by omega) (by omega) (by omega), e0 7 (by omega) (by omega) (by omega) (by omega) (by omega) (by omega)]; exact f1
  · rw [ea 3 (by omega) (by omega) (by omega) (by omega) (by omega) (by omega), e0 8 (by omega) (by omega) (by omega) (by omega) (by omega) (by omega)]; exact f2
  · rw [ea p0 (by omega) (by omega) (by omega) (by omega) (by omega) (by omega), e0 16 (by omega) (by omega) (by omega) (by omega) (by omega) (by omega)]; exact f3
  · rw [ea 154 (by omega) (by omega) (by omega) (by omega) (by omega) (by omega)]; exact f4 j hj
  · by_cases c : 0 ≤ aJudge m tp len a
    · obtain ⟨a1, a2, a3, a4, a5⟩ := e4 c
      obtain ⟨b1, b2, b3, b4, b5⟩ := y3 c
      unfold JWC
      rw [y1.1 129 (by omega) (by omega), a1, a2, a3, a4, a5, b1, b2, b3, b4, b5]
      exact ⟨rfl, by omega, fun _ => ⟨rfl, rfl, rfl, rfl⟩⟩
    · have q1 := e5 (by omega)
      have q2 := y4 (by omega)
      have e62 : ∀ j : Nat, 62 ≤ j → j ≤ 66 → Z2 140 j = Z 140 j := fun j h1 h2 => by rw [q2 j h1 h2, e1 140 (by omega) (by omega) (by omega) (by omega)]
      unfold JWC
      rw [y1.1 129 (by omega) (by omega), q1, e62 62 (by omega) (by omega), e62 63 (by omega) (by omega), e62 64 (by omega) (by omega), e62 65 (by omega) (by omega), e62 66 (by omega) (by omega)]
      exact i7
/-- only deeds have changed -/
theorem IV_dd {nd' nr' : Nat} (h : IV p0 p1 m nd nr tp len Z J) (e : ∀ a : Nat, (a < 132 ∨ 139 < a) → a ≠ 140 → (a < 168 ∨ 175 < a) → Z' a = Z a) (e0 : ∀ j : Nat, (j < 68 ∨ 70 < j) → Z' 140 j = Z 140 j) (hd : DV m Z' nd' nr' ∧ DC m Z' Z' nd' nr') : IV p0 p1 m nd' nr' tp len Z' J := by
  obtain ⟨⟨i1, i1'⟩, i2, i3, ⟨t1, t2, t3, t4, t5⟩, ⟨⟨f1, f2⟩, f3, f4⟩, i6, i7, i8, i9⟩ := h
  have hp := i1
  unfold hv2 at hp
  have hM : MB m Z' := ⟨MI_fr2 i3.1.1 (fun j h1 h2 => e0 j (by omega)) (fun a h1 h2 => e a (by omega) (by omega) (by omega)), fun i hi => by rw [e 161 (by omega) (by omega) (by omega)]; exact i3.1.2 i hi⟩
  refine ⟨⟨i1, i1'⟩, KL_fr2 i2 (fun a ha => e a (by omega) (by omega) (by omega)) (fun _ _ _ => rfl), ⟨hM, i3.2⟩, ⟨t1, ?_, ?_, fun x hx => ?_, fun x hx => ?_⟩, ⟨⟨?_, ?_⟩, ?_, fun j hj => ?_⟩, RWC_fr i6 (fun a h1 h2 => e a (by omega) (by omega) (by omega)) (e0 60 (by omega)) (e 164 (by omega) (by omega) (by omega)) (e 165 (by omega) (by omega) (by omega)), ?_, hd⟩
  · rw [e 1 (by omega) (by omega) (by omega)]; exact t2
  · rw [e0 1 (by omega)]; exact t3
  · rw [e 2 (by omega) (by omega) (by omega)]; exact t4 x hx
  · rw [e 141 (by omega) (by omega) (by omega)]; exact t5 x hx
  · rw [e 3 (by omega) (by omega) (by omega), e0 7 (by omega)]; exact f1
  · rw [e 3 (by omega) (by omega) (by omega), e0 8 (by omega)]; exact f2
  · rw [e p0 (by omega) (by omega) (by omega), e0 16 (by omega)]; exact f3
  · rw [e 154 (by omega) (by omega) (by omega)]; exact f4 j hj
  · unfold JWC
    rw [e 129 (by omega) (by omega) (by omega), e0 62 (by omega), e0 63 (by omega), e0 64 (by omega), e0 65 (by omega), e0 66 (by omega)]
    exact i7
end
