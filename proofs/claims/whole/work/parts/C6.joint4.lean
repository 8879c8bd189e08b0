/-! BOTH STORES: feed, matter -/
theorem wr20_x {g g' : Nat → Int} {n x : Nat} {a b c e f : Int32} (h : g x = g' x) : wr20 g n a b c e f x = wr20 g' n a b c e f x := by
  simp only [wr20, wr4, wr1, h]
theorem MI_fr3 {m : Mat} {Z Z' : Nat → Nat → Int} (h : MI m Z) (h1 : ∀ j : Nat, ((9 < j ∧ j < 16) ∨ j = 24 ∨ (48 < j ∧ j < 60)) → Z' 140 j = Z 140 j) (h2 : ∀ a : Nat, ((142 ≤ a ∧ a ≤ 148) ∨ (157 < a ∧ a ≤ 160)) → Z' a = Z a) : MI m Z' := by
  obtain ⟨a1, a2, a3, a4⟩ := h
  refine ⟨a1, ?_, ?_, ?_⟩
  · unfold MR
    rw [h1 10 (by omega), h1 11 (by omega), h1 12 (by omega), h1 13 (by omega), h1 14 (by omega), h1 15 (by omega), h1 24 (by omega), h2 142 (by omega), h2 143 (by omega), h2 144 (by omega), h2 145 (by omega), h2 146 (by omega), h2 147 (by omega), h2 148 (by omega)]
    exact a2
  · unfold mJk
    rw [h2 142 (by omega), h2 145 (by omega), h2 159 (by omega), h2 160 (by omega)]
    exact a3
  · unfold MT
    rw [h1 49 (by omega), h1 50 (by omega), h1 51 (by omega), h2 158 (by omega), h2 159 (by omega), h2 160 (by omega)]
    exact a4
/-- a plain draft on a store -/
def pl0 (Z : Nat → Nat → Int) : Nat → Nat → Int := fun a j => if a = 140 then (if j = 20 ∨ j = 23 then 1 else if 18 ≤ j ∧ j ≤ 31 then 0 else Z 140 j) else if (a = 155 ∨ a = 156) ∧ j < 3 then 0 else Z a j
theorem pl0_P (Z : Nat → Nat → Int) : P0 (pl0 Z) := by
  refine ⟨⟨rfl, rfl, rfl, rfl, rfl, rfl⟩, fun j h1 h2 => ?_, fun i hi => ⟨?_, ?_⟩⟩
  · show (if j = 20 ∨ j = 23 then (1 : Int) else if 18 ≤ j ∧ j ≤ 31 then 0 else Z 140 j) = 0
    rw [if_neg (by omega), if_pos (by omega)]
  · show (if (155 = 155 ∨ 155 = 156) ∧ i < 3 then (0 : Int) else Z 155 i) = 0
    rw [if_pos ⟨Or.inl rfl, hi⟩]
  · show (if (156 = 155 ∨ 156 = 156) ∧ i < 3 then (0 : Int) else Z 156 i) = 0
    rw [if_pos ⟨Or.inr rfl, hi⟩]
theorem pl0_A (Z : Nat → Nat → Int) : ∀ a j : Nat, ((149 ≤ a ∧ a ≤ 154) ∨ ((a = 155 ∨ a = 156) ∧ 3 ≤ j) ∨ (a = 140 ∧ j = 17)) → pl0 Z a j = Z a j := fun a j h => by
  unfold pl0
  rcases h with h | h | ⟨rfl, rfl⟩
  · rw [if_neg (by omega), if_neg (by omega)]
  · rw [if_neg (by omega), if_neg (by omega)]
  · rfl
theorem pre_WB {tp : Nat → Nat} {len : Nat} {Z : Nat → Nat → Int} (hl : len ≤ 700) (ht : TBz tp Z) (hw : WB Z) (N : Nat → Int64) {s : PS × Nat} (hs : pMatter tp len (pl0 Z) N = .ok s) : WB s.1.1 := by
  generalize hZa : u2 (u2 Z 140 2 (len : Int)) 140 4 0 = Za
  have a1 : ∀ a : Nat, a ≠ 140 → Za a = Z a := fun a ha => by rw [← hZa, u2_ne ha, u2_ne ha]
  have a2 : ∀ j : Nat, j ≠ 2 → j ≠ 4 → Za 140 j = Z 140 j := fun j j2 j4 => by rw [← hZa, u2f j4, u2f j2]
  have a3 : Za 140 2 = (len : Int) ∧ Za 140 4 = 0 := by
    rw [← hZa]
    simp [u2]
  obtain ⟨Zs, s1, s2, s3⟩ := g_scan (d := 0) (J := fun _ => N) (p0 := 0) (p1 := 0) (p2 := 0) (p3 := 0) (p4 := 0) (p5 := 0) (p6 := 0) (p7 := 0) (Z := Za) hl (tp := tp) (fun x hx => by rw [a1 141 (by decide)]; exact ht x hx) a3.1 (q := 0) a3.2 (Nat.zero_le _)
  have b1 : ∀ a : Nat, a ≠ 140 → Zs a = Z a := fun a ha => (s1.1 a ha).trans (a1 a ha)
  have b2 : ∀ j : Nat, 8 < j → Zs 140 j = Z 140 j := fun j hj' => (s1.2 j (by simp; omega)).trans (a2 j (by omega) (by omega))
  have rd := g_readMatter2 (d := 0) (J := fun _ => N) (p0 := 0) (p1 := 0) (p2 := 0) (p3 := 0) (p4 := 0) (p5 := 0) (p6 := 0) (p7 := 0) (Z := Zs) (pl0_P Z) (fun a j h => (pl0_A Z a j h).trans (by
    rcases h with h | h | ⟨rfl, rfl⟩
    · rw [b1 a (by omega)]
    · rw [b1 a (by omega)]
    · rw [b2 17 (by omega)])) hl (tp := tp) (fun x hx => by rw [b1 141 (by decide)]; exact ht x hx) s2 (fun j hj' => by rw [b1 154 (by decide)]; exact hw j hj')
  change MRq tp len Zs _ _ (pMatter tp len (pl0 Z) N) _ at rd
  rw [hs] at rd
  obtain ⟨Z2, J2, ⟨r1, r2, ⟨r3, r4, _⟩, r6⟩, r7⟩ := rd
  exact r4
section
variable {J J' : Nat → Nat → Int64} {Z Z' : Nat → Nat → Int} {p0 p1 p5 p6 : Nat} {m : Mat} {nd nr len : Nat} {tp : Nat → Nat}
theorem st_0 (h : IV p0 p1 m nd nr tp len Z J) (a b c e f : Int32) : SmI 106 163 [.int a, .int b, .int c, .int e, .int f] (176, zs Z, J, RP p0 p1 p0 35 p0 p5 p6 97) := by
  obtain ⟨t1, t2, t3, t4, t5⟩ := h.2.2.2.1
  have h1 := h_feed (d := 37) (J := J) (p0 := p0) (p1 := p1) (p2 := p0) (p3 := 35) (p4 := p0) (p5 := p5) (p6 := p6) (p7 := 97) t1 t2 a b c e f
  by_cases cl : len ≤ 680
  · rw [if_pos cl] at h1
    have h2 := m_feed (d := 38) (J := J) (Z := tZ Z 1 2 (wr20 (Z 2) len a b c e f) ((len : Int) + 20)) (p0 := p0) (p1 := p1) (p2 := p0) (p3 := 35) (p4 := p0) (p5 := p5) (p6 := p6) (p7 := 97) t1 (by rw [tZ_o (by omega) (by omega)]; exact t3) a b c e f
    rw [if_pos cl, tZ_o (show 141 ≠ 1 by omega) (show 141 ≠ 2 by omega)] at h2
    have eq : ∀ x : Nat, x < 700 → Z 141 x = Z 2 x ∧ (-128 ≤ Z 2 x ∧ Z 2 x ≤ 127) := fun x hx => by
      have q1 := t4 x hx
      have q2 := t5 x hx
      omega
    have bd : ∀ x : Nat, x < 700 → -128 ≤ wr20 (Z 2) len a b c e f x ∧ wr20 (Z 2) len a b c e f x ≤ 127 := fun x hx => by
      have q := wr20_b (g := fun y => if y < 700 then Z 2 y else 0) (n := len) (a := a) (b := b) (c := c) (e := e) (f := f) (fun y => by
        split
        · next hy => exact (eq y hy).2
        · omega) x
      rw [wr20_x (g' := Z 2) (if_pos hx)] at q
      exact q
    have e141 : ∀ x : Nat, x < 700 → wr20 (Z 141) len a b c e f x = wr20 (Z 2) len a b c e f x := fun x hx => wr20_x (eq x hx).1
    refine ⟨_, _, _, _, _, h1, h2, p0, p1, p5, p6, m, nd, nr, fun x => if 0 ≤ wr20 (Z 2) len a b c e f x then (wr20 (Z 2) len a b c e f x).toNat else (wr20 (Z 2) len a b c e f x + 256).toNat, len + 20, _, J, IV_tp h (fun x b1 b2 b3 b4 => by rw [tZ_o b3 b4, tZ_o b1 b2]) (fun j hj => by rw [tZ_f hj (by omega), tZ_o (by omega) (by omega)]) ⟨by omega, ?_, ?_, fun x hx => ?_, fun x hx => ?_⟩, rfl⟩
    · rw [tZ_o (by omega) (by omega), tZ_1 (by omega)]; rfl
    · rw [tZ_1 (by omega)]; rfl
    · rw [tZ_o (by omega) (by omega), tZ_t]
      have := bd x hx
      dsimp only
      split <;> omega
    · rw [tZ_t, e141 x hx]
      have := bd x hx
      dsimp only
      split <;> omega
  · rw [if_neg cl] at h1
    have h2 := m_feed (d := 38) (J := J) (Z := Z) (p0 := p0) (p1 := p1) (p2 := p0) (p3 := 35) (p4 := p0) (p5 := p5) (p6 := p6) (p7 := 97) t1 t3 a b c e f
    rw [if_neg cl] at h2
    exact ⟨_, _, _, _, _, h1, h2, p0, p1, p5, p6, m, nd, nr, tp, len, Z, J, h, rfl⟩
theorem st_2 (h : IV p0 p1 m nd nr tp len Z J) : SmI 108 166 [] (176, zs Z, J, RP p0 p1 p0 35 p0 p5 p6 97) := by
  obtain ⟨⟨i1, i1'⟩, i2, i3, ⟨t1, t2, t3, t4, t5⟩, ⟨⟨f1, f2⟩, f3, f4⟩, i6, i7, i8, i9⟩ := h
  have hp := i1
  unfold hv2 at hp
  have hp1 : hv2 p1 := by unfold hv2; omega
  have hp1' := hp1
  unfold hv2 at hp1'
  have cm := h_matter (d := 28) (J := J) (p5 := p5) (p6 := p6) i1 hp1 (tp := tp) (len := len) ⟨t1, t4, t2, hp1⟩ (pl0_P Z) (J 157) (fun s hs => pre_WB t1 t5 f4 (J 157) hs)
  cases hr : pMatter tp len (pl0 Z) (J 157) with
  | error e =>
    rw [hr] at cm
    obtain ⟨Z1, J1, c1, c2, c3, c4⟩ := cm
    have z1 : ∀ a : Nat, 140 ≤ a → Z1 a = Z a := fun a ha => c1 a (by omega) (by omega) (by omega) (by omega)
    have hM1 : MB m Z1 := MB_fr i3.1 z1
    have gm := g_matter (d := 28) (J := J1) (Z := Z1) (p0 := p0) (p1 := p1) (p2 := p0) (p3 := 35) (p4 := p0) (p5 := p5) (p6 := p6) (p7 := 97) (tp := tp) (len := len) t1 (fun x hx => by rw [z1 141 (by omega)]; exact t5 x hx) (by rw [z1 140 (by omega)]; exact t3) (fun j hj => by rw [z1 154 (by omega)]; exact f4 j hj) hM1.1.2.2.1 hM1.2 (pl0_P Z) (fun a j hh => (pl0_A Z a j hh).trans (by rw [z1 a (by omega)]))
    rw [c2 157 (by omega), hr] at gm
    obtain ⟨Z2, J2, g1, g2, g3, g4, g5⟩ := gm
    have ea : ∀ a : Nat, (a < p1 ∨ p1 + 14 < a) → a ≠ 1 → a ≠ 3 → a ≠ 4 → a < 140 → Z2 a = Z a := fun a b1 b2 b3 b4 b5 => (g1.1 a (by omega) (by omega)).trans (c1 a b1 b2 b3 b4)
    have eb : ∀ a : Nat, a = 141 ∨ (157 ≤ a) → Z2 a = Z a := fun a b1 => (g1.1 a (by omega) (by omega)).trans (z1 a (by omega))
    have e0 : ∀ j : Nat, j = 0 ∨ (9 < j ∧ j < 17) ∨ j = 24 ∨ (31 < j ∧ j ≠ 48) → Z2 140 j = Z 140 j := fun j hj => by rw [g1.2 j hj, z1 140 (by omega)]
    have hM2 : MB m Z2 := ⟨MI_fr3 hM1.1 (fun j hj => g1.2 j (by omega)) (fun a ha => g1.1 a (by omega) (by omega)), fun i hi => by rw [g1.1 161 (by omega) (by omega)]; exact hM1.2 i hi⟩
    refine ⟨_, _, _, _, _, c4, g5, p0, p1, p5, p6, m, nd, nr, tp, 0, Z2, J2, ?_, rfl⟩
    have kl : KL m (qbre m) p0 Z2 J2 := by
      have hS := i2.1.1.1
      have hP := i2.1.1.2.1
      refine ⟨⟨i2.1.1, i1, KM_fr hP i2.1.2.2.1 (fun a b1 b2 => ea a (by omega) (by omega) (by omega) (by omega) (by omega)), KS_fr hS.2 i2.1.2.2.2 (fun a b1 b2 => ea a (by omega) (by omega) (by omega) (by omega) (by omega))⟩, ⟨fun i hi => ?_, fun i hi => ?_⟩, fun u hu t n htt hn => ?_⟩
      · rw [ea (43 + 8) (by omega) (by omega) (by omega) (by omega) (by omega)]; exact i2.2.1.1 i hi
      · rw [ea (43 + 5) (by omega) (by omega) (by omega) (by omega) (by omega)]; exact i2.2.1.2 i hi
      · have ht3 : t < 3 := by
          unfold nlay at htt
          split at htt <;> omega
        rw [g2 (43 + 2 + t) (by omega), c2 (43 + 2 + t) (by omega)]
        exact i2.2.2 u hu t n htt hn
    refine ⟨⟨i1, i1'⟩, kl, ⟨hM2, i3.2⟩, ⟨by omega, ?_, g3.1, fun x hx => ?_, fun x hx => ?_⟩, ⟨⟨?_, ?_⟩, ?_, g4⟩, RWC_fr i6 (fun a b1 b2 => ea a (by omega) (by omega) (by omega) (by omega) (by omega)) (e0 60 (by omega)) (eb 164 (by omega)) (eb 165 (by omega)), ?_, DV_fr i8 (fun j b1 b2 => e0 j (by omega)) (fun a b1 b2 => eb a (by omega)), DC_x i9 (fun a b1 b2 => ea a (by omega) (by omega) (by omega) (by omega) (by omega)) (e0 70 (by omega)) (fun a b1 b2 => eb a (by omega))⟩
    · rw [g1.1 1 (by omega) (by omega)]; exact c3.1
    · rw [ea 2 (by omega) (by omega) (by omega) (by omega) (by omega)]; exact t4 x hx
    · rw [eb 141 (by omega)]; exact t5 x hx
    · rw [g1.1 3 (by omega) (by omega), c3.2.1, g3.2.1]
    · rw [g1.1 3 (by omega) (by omega), c3.2.2, g3.2.2]
    · rw [ea p0 (by omega) (by omega) (by omega) (by omega) (by omega), e0 16 (by omega)]; exact f3
    · unfold JWC
      rw [ea 129 (by omega) (by omega) (by omega) (by omega) (by omega), e0 62 (by omega), e0 63 (by omega), e0 64 (by omega), e0 65 (by omega), e0 66 (by omega)]
      exact i7
  | ok s =>
    rw [hr] at cm
    obtain ⟨Z1, J1, ⟨c1, c1', c2⟩, c3, c5, c6, c4⟩ := cm
    have hM1 : MB m Z1 := MB_fr i3.1 c1
    have gm := g_matter (d := 28) (J := J1) (Z := Z1) (p0 := p1) (p1 := p0) (p2 := p1) (p3 := 35) (p4 := p1) (p5 := p5) (p6 := p6) (p7 := 97) (tp := tp) (len := len) t1 (fun x hx => by rw [c1 141 (by omega)]; exact t5 x hx) (by rw [c1 140 (by omega)]; exact t3) (fun j hj => by rw [c1 154 (by omega)]; exact f4 j hj) hM1.1.2.2.1 hM1.2 (pl0_P Z) (fun a j hh => (pl0_A Z a j hh).trans (by rw [c1 a (by omega)]))
    rw [c2 157 (by omega), hr] at gm
    obtain ⟨Z2, J2, g1, g2, g3, ⟨g4, g4'⟩, g5, g6, g7⟩ := gm
    refine ⟨_, _, _, _, _, c4, g7, p1, p0, p5, p6, dM s.1.1, 0, 0, tp, 0, Z2, J2, ?_, rfl⟩
    have ea : ∀ a : Nat, a < 140 → Z2 a = Z1 a := fun a ha => g1 a (Or.inl ha)
    refine ⟨⟨hp1, by omega⟩, KL_fr2 c5 (fun a ha => ea a (by omega)) (fun a b1 b2 => g2 a (by omega)), ⟨g4, g4'⟩, ⟨by omega, ?_, g3.1, fun x hx => ?_, fun x hx => ?_⟩, ⟨⟨?_, ?_⟩, ?_, g6⟩, ⟨⟨?_, ?_⟩, fun k i hk hi => ?_, fun k hk => ?_⟩, ⟨?_, ?_, fun q => ?_⟩, ⟨⟨?_, by omega, ?_, by omega, ?_⟩, fun k hk => absurd hk (by omega), fun k hk => absurd hk (by omega)⟩, ⟨?_, ?_, ?_⟩, fun k hk => absurd hk (by omega), fun k hk => absurd hk (by omega)⟩
    · rw [ea 1 (by omega)]; exact c3.1
    · rw [ea 2 (by omega), c1']; exact t4 x hx
    · rw [g1 141 (by omega), c1 141 (by omega)]; exact t5 x hx
    · rw [ea 3 (by omega), c3.2.1, g3.2.1]
    · rw [ea 3 (by omega), c3.2.2, g3.2.2]
    · rw [ea p1 (by omega), c6.1, g5.1]
    · rw [ea 52 (by omega), c6.2.1, g5.2.1]
    · rw [ea 52 (by omega), c6.2.1]
      omega
    · rw [ea 52 (by omega), c6.2.1] at hk
      omega
    · rw [ea 52 (by omega), c6.2.1] at hk
      omega
    · rw [ea 129 (by omega), c6.2.2.1, g5.2.2.1]
    · rw [g5.2.2.1]
      omega
    · rw [g5.2.2.1] at q
      omega
    · rw [g5.2.2.2.1]; rfl
    · rw [g5.2.2.2.2.1]; rfl
    · rw [g5.2.2.2.2.2]
      omega
    · rw [ea 132 (by omega), c6.2.2.2.1]; rfl
    · rw [ea 132 (by omega), c6.2.2.2.2.1]; rfl
    · rw [ea 132 (by omega), c6.2.2.2.2.2, g5.2.2.2.2.2]
end
