/-! BOTH STORES TOGETHER -/
/-- the row in hand is the same -/
def RWC (m : Mat) (Z : Nat → Nat → Int) : Prop := (Z 52 3 = Z 140 60 ∧ (-1 ≤ Z 52 3 ∧ Z 52 3 ≤ 40)) ∧ (∀ k i : Nat, (k : Int) < Z 52 3 → i < qS m → Z (54 + k) i = Z 164 (3 * k + i)) ∧ ∀ k : Nat, (k : Int) ≤ Z 52 3 → Z 94 k = Z 165 k
/-- what was judged is the same -/
def JWC (Z : Nat → Nat → Int) : Prop := Z 129 4 = Z 140 62 ∧ (0 ≤ Z 140 62 ∧ Z 140 62 ≤ 1) ∧ (Z 140 62 = 1 → Z 129 5 = Z 140 63 ∧ Z 129 6 = Z 140 64 ∧ Z 129 7 = Z 140 65 ∧ Z 129 8 = Z 140 66)
def TWC (tp : Nat → Nat) (len : Nat) (Z : Nat → Nat → Int) : Prop := len ≤ 700 ∧ Z 1 1 = (len : Int) ∧ Z 140 1 = (len : Int) ∧ TC tp Z ∧ TBz tp Z
def IV (p0 p1 : Nat) (m : Mat) (nd nr : Nat) (tp : Nat → Nat) (len : Nat) (Z : Nat → Nat → Int) (J : Nat → Nat → Int64) : Prop := (hv2 p0 ∧ p1 = 25 - p0) ∧ KL m (qbre m) p0 Z J ∧ (MB m Z ∧ wfT m) ∧ TWC tp len Z ∧ ((Z 3 5 = Z 140 7 ∧ Z 3 6 = Z 140 8) ∧ Z p0 0 = Z 140 16 ∧ WB Z) ∧ RWC m Z ∧ JWC Z ∧ (DV m Z nd nr ∧ DC m Z Z nd nr)
def WI (w : pW) : Prop := ∃ (p0 p1 p5 p6 : Nat) (m : Mat) (nd nr : Nat) (tp : Nat → Nat) (len : Nat) (Z : Nat → Nat → Int) (J : Nat → Nat → Int64), IV p0 p1 m nd nr tp len Z J ∧ w = (176, zs Z, J, RP p0 p1 p0 35 p0 p5 p6 97)
/-- the two calls answer alike -/
def SmI (jc jm : Nat) (l : List Value) (w : pW) : Prop := ∃ (v : Int32) (I1 : Nat → Nat → Int32) (J1 : Nat → Nat → Int64) (R1 : Nat → Nat → Option Nat) (w2 : pW), Mean 40 jc (.ref 0 :: l) w = some (some (.int v), (176, I1, J1, R1)) ∧ Mean 40 jm (.ref 140 :: l) (176, I1, J1, R1) = some (some (.int v), w2) ∧ WI w2
def SmJ (jc jm : Nat) (l : List Value) (w : pW) : Prop := ∃ (v : Int64) (I1 : Nat → Nat → Int32) (J1 : Nat → Nat → Int64) (R1 : Nat → Nat → Option Nat) (w2 : pW), Mean 40 jc (.ref 0 :: l) w = some (some (.long v), (176, I1, J1, R1)) ∧ Mean 40 jm (.ref 140 :: l) (176, I1, J1, R1) = some (some (.long v), w2) ∧ WI w2
theorem DV_fr {m : Mat} {Z Z' : Nat → Nat → Int} {nd nr : Nat} (h : DV m Z nd nr) (e0 : ∀ j : Nat, 68 ≤ j → j ≤ 70 → Z' 140 j = Z 140 j) (e : ∀ a : Nat, 168 ≤ a → a ≤ 175 → Z' a = Z a) : DV m Z' nd nr := by
  unfold DV
  rw [e0 68 (by omega) (by omega), e0 69 (by omega) (by omega), e0 70 (by omega) (by omega), e 168 (by omega) (by omega), e 169 (by omega) (by omega), e 170 (by omega) (by omega), e 171 (by omega) (by omega), e 172 (by omega) (by omega), e 173 (by omega) (by omega), e 174 (by omega) (by omega), e 175 (by omega) (by omega)]
  exact h
theorem MB_fr {m : Mat} {Z Z' : Nat → Nat → Int} (h : MB m Z) (e : ∀ a : Nat, 140 ≤ a → Z' a = Z a) : MB m Z' := ⟨MI_fr2 h.1 (fun j _ _ => by rw [e 140 (by omega)]) (fun a h1 _ => e a (by omega)), fun i hi => by rw [e 161 (by omega)]; exact h.2 i hi⟩
theorem RWC_fr {m : Mat} {Z Z' : Nat → Nat → Int} (h : RWC m Z) (e1 : ∀ a : Nat, 52 ≤ a → a ≤ 94 → Z' a = Z a) (e0 : Z' 140 60 = Z 140 60) (e2 : Z' 164 = Z 164) (e3 : Z' 165 = Z 165) : RWC m Z' := by
  obtain ⟨h1, h2, h3⟩ := h
  unfold RWC
  rw [e1 52 (by omega) (by omega), e0, e2, e3, e1 94 (by omega) (by omega)]
  refine ⟨h1, fun k i hk hi => ?_, h3⟩
  rw [e1 (54 + k) (by omega) (by omega)]
  exact h2 k i hk hi
section
variable {J J' : Nat → Nat → Int64} {Z Z' : Nat → Nat → Int} {p0 p1 p5 p6 : Nat} {m : Mat} {nd nr len : Nat} {tp : Nat → Nat}
theorem KL_fr2 (h : KL m (qbre m) p0 Z J) (e : ∀ a : Nat, (5 ≤ a ∧ a ≤ 41) ∨ a = 48 ∨ a = 51 → Z' a = Z a) (eJ : ∀ a : Nat, 45 ≤ a → a ≤ 47 → J' a = J a) : KL m (qbre m) p0 Z' J' := by
  have hS := h.1.1.1
  refine ⟨KI_fr h.1 (fun a ha => e a (Or.inl ha)), ⟨fun i hi => ?_, fun i hi => ?_⟩, fun u hu t n ht hn => ?_⟩
  · rw [e (43 + 8) (by omega)]; exact h.2.1.1 i hi
  · rw [e (43 + 5) (by omega)]; exact h.2.1.2 i hi
  · have ht3 : t < 3 := by
      unfold nlay at ht
      split at ht <;> omega
    rw [eJ (43 + 2 + t) (by omega) (by omega)]
    exact h.2.2 u hu t n ht hn
theorem IV_fr (h : IV p0 p1 m nd nr tp len Z J) (hM : MB m Z') (e : ∀ a : Nat, a ≠ 42 → (a < 96 ∨ 128 < a) → a ≠ 140 → (a < 142 ∨ 153 < a) → a ≠ 158 → a ≠ 159 → a ≠ 160 → Z' a = Z a) (e0 : ∀ j : Nat, j ≠ 49 → j ≠ 50 → j ≠ 51 → Z' 140 j = Z 140 j) (eJ : ∀ a : Nat, a < 98 → J' a = J a) : IV p0 p1 m nd nr tp len Z' J' := by
  obtain ⟨⟨i1, i1'⟩, i2, i3, ⟨t1, t2, t3, t4, t5⟩, ⟨⟨f1, f2⟩, f3, f4⟩, i6, i7, i8, i9⟩ := h
  have hp := i1
  unfold hv2 at hp
  have ea : ∀ a : Nat, a ≠ 42 → a < 96 → Z' a = Z a := fun a h1 h2 => e a h1 (Or.inl h2) (by omega) (by omega) (by omega) (by omega) (by omega)
  have eb : ∀ a : Nat, 161 ≤ a → Z' a = Z a := fun a h1 => e a (by omega) (by omega) (by omega) (by omega) (by omega) (by omega) (by omega)
  have ec : ∀ a : Nat, 129 ≤ a → a ≤ 139 → Z' a = Z a := fun a h1 h2 => e a (by omega) (by omega) (by omega) (by omega) (by omega) (by omega) (by omega)
  have e141 : Z' 141 = Z 141 := e 141 (by omega) (by omega) (by omega) (by omega) (by omega) (by omega) (by omega)
  have e154 : Z' 154 = Z 154 := e 154 (by omega) (by omega) (by omega) (by omega) (by omega) (by omega) (by omega)
  refine ⟨⟨i1, i1'⟩, KL_fr2 i2 (fun a ha => ea a (by omega) (by omega)) (fun a h1 h2 => eJ a (by omega)), ⟨hM, i3.2⟩, ⟨t1, ?_, ?_, fun x hx => ?_, fun x hx => ?_⟩, ⟨⟨?_, ?_⟩, ?_, fun j hj => ?_⟩, RWC_fr i6 (fun a h1 h2 => ea a (by omega) (by omega)) (e0 60 (by omega) (by omega) (by omega)) (eb 164 (by omega)) (eb 165 (by omega)), ?_, DV_fr i8 (fun j h1 h2 => e0 j (by omega) (by omega) (by omega)) (fun a h1 h2 => eb a (by omega)), DC_fr2 (DC_fr i9 (fun a h1 h2 => ec a (by omega) (by omega))) (e0 70 (by omega) (by omega) (by omega)) (fun a h1 h2 => eb a (by omega))⟩
  · rw [ea 1 (by omega) (by omega)]; exact t2
  · rw [e0 1 (by omega) (by omega) (by omega)]; exact t3
  · rw [ea 2 (by omega) (by omega)]; exact t4 x hx
  · rw [e141]; exact t5 x hx
  · rw [ea 3 (by omega) (by omega), e0 7 (by omega) (by omega) (by omega)]; exact f1
  · rw [ea 3 (by omega) (by omega), e0 8 (by omega) (by omega) (by omega)]; exact f2
  · rw [ea p0 (by omega) (by omega), e0 16 (by omega) (by omega) (by omega)]; exact f3
  · rw [e154]; exact f4 j hj
  · unfold JWC
    rw [ec 129 (by omega) (by omega), e0 62 (by omega) (by omega) (by omega), e0 63 (by omega) (by omega) (by omega), e0 64 (by omega) (by omega) (by omega), e0 65 (by omega) (by omega) (by omega), e0 66 (by omega) (by omega) (by omega)]
    exact i7
/-- only the class's scratch has changed, and long scratch of the model -/
theorem IV_sc (h : IV p0 p1 m nd nr tp len Z J) (e : ∀ a : Nat, a ≠ 42 → (a < 96 ∨ 128 < a) → Z' a = Z a) (eJ : ∀ a : Nat, a < 98 → J' a = J a) : IV p0 p1 m nd nr tp len Z' J' := IV_fr h (MB_fr h.2.2.1.1 (fun a ha => e a (by omega) (by omega))) (fun a h1 h2 _ _ _ _ _ => e a h1 h2) (fun j _ _ _ => by rw [e 140 (by omega) (by omega)]) eJ
theorem st_3 (h : IV p0 p1 m nd nr tp len Z J) {a : Int} (ha : -2147483648 ≤ a ∧ a < 2147483648) : SmI 109 167 [.int (i32 a)] (176, zs Z, J, RP p0 p1 p0 35 p0 p5 p6 97) := by
  have e := h.2.2.2.2.1.1
  have h1 := h_fault (d := 39) (J := J) (Z := Z) (p0 := p0) (p1 := p1) (p5 := p5) (p6 := p6) ha
  rw [e.1, e.2] at h1
  exact ⟨_, _, _, _, _, h1, g_fault (d := 39) (p0 := p0) (p1 := p1) (p2 := p0) (p3 := 35) (p4 := p0) (p5 := p5) (p6 := p6) (p7 := 97) ha, p0, p1, p5, p6, m, nd, nr, tp, len, Z, J, h, rfl⟩
theorem st_4 (h : IV p0 p1 m nd nr tp len Z J) {a : Int} (ha : -2147483648 ≤ a ∧ a < 2147483648) : SmI 110 168 [.int (i32 a)] (176, zs Z, J, RP p0 p1 p0 35 p0 p5 p6 97) := ⟨_, _, _, _, _, h_told (d := 39) h.2.1.1 ha, g_told (d := 38) (p0 := p0) (p1 := p1) (p2 := p0) (p3 := 35) (p4 := p0) (p5 := p5) (p6 := p6) (p7 := 97) h.2.2.1.1.1 ha, p0, p1, p5, p6, m, nd, nr, tp, len, Z, J, h, rfl⟩
theorem st_5 (h : IV p0 p1 m nd nr tp len Z J) {a b : Int} (ha : -2147483648 ≤ a ∧ a < 2147483648) (hb : -2147483648 ≤ b ∧ b < 2147483648) : SmI 111 169 [.int (i32 a), .int (i32 b)] (176, zs Z, J, RP p0 p1 p0 35 p0 p5 p6 97) := ⟨_, _, _, _, _, h_piece (d := 38) h.2.1.1 ha hb, g_piece (d := 38) (p0 := p0) (p1 := p1) (p2 := p0) (p3 := 35) (p4 := p0) (p5 := p5) (p6 := p6) (p7 := 97) h.2.2.1.1.1 ha hb, p0, p1, p5, p6, m, nd, nr, tp, len, Z, J, h, rfl⟩
theorem st_6 (h : IV p0 p1 m nd nr tp len Z J) {a : Int} (ha : -2147483648 ≤ a ∧ a < 2147483648) : SmI 112 176 [.int (i32 a)] (176, zs Z, J, RP p0 p1 p0 35 p0 p5 p6 97) := ⟨_, _, _, _, _, h_corner (d := 39) h.2.1.1 ha, g_corner (d := 39) (p0 := p0) (p1 := p1) (p2 := p0) (p3 := 35) (p4 := p0) (p5 := p5) (p6 := p6) (p7 := 97) h.2.2.1.1.1 ha, p0, p1, p5, p6, m, nd, nr, tp, len, Z, J, h, rfl⟩
theorem st_7 (h : IV p0 p1 m nd nr tp len Z J) {a b : Int} (ha : -2147483648 ≤ a ∧ a < 2147483648) (hb : -2147483648 ≤ b ∧ b < 2147483648) : SmI 113 177 [.int (i32 a), .int (i32 b)] (176, zs Z, J, RP p0 p1 p0 35 p0 p5 p6 97) := ⟨_, _, _, _, _, h_parts (d := 38) h.2.1.1 ha hb, g_parts (d := 37) (p0 := p0) (p1 := p1) (p2 := p0) (p3 := 35) (p4 := p0) (p5 := p5) (p6 := p6) (p7 := 97) h.2.2.1.1.1 ha hb, p0, p1, p5, p6, m, nd, nr, tp, len, Z, J, h, rfl⟩
theorem st_8 (h : IV p0 p1 m nd nr tp len Z J) {a b : Int} (ha : -2147483648 ≤ a ∧ a < 2147483648) (hb : -2147483648 ≤ b ∧ b < 2147483648) : SmI 114 178 [.int (i32 a), .int (i32 b)] (176, zs Z, J, RP p0 p1 p0 35 p0 p5 p6 97) := ⟨_, _, _, _, _, h_stop (d := 38) h.2.1.1 ha hb, g_stop (d := 37) (p0 := p0) (p1 := p1) (p2 := p0) (p3 := 35) (p4 := p0) (p5 := p5) (p6 := p6) (p7 := 97) h.2.2.1.1.1 ha hb, p0, p1, p5, p6, m, nd, nr, tp, len, Z, J, h, rfl⟩
theorem st_9 (h : IV p0 p1 m nd nr tp len Z J) {a : Int} (ha : -2147483648 ≤ a ∧ a < 2147483648) : SmI 115 179 [.int (i32 a)] (176, zs Z, J, RP p0 p1 p0 35 p0 p5 p6 97) := ⟨_, _, _, _, _, h_goal (d := 38) h.2.1.1 ha, g_goal (d := 37) (p0 := p0) (p1 := p1) (p2 := p0) (p3 := 35) (p4 := p0) (p5 := p5) (p6 := p6) (p7 := 97) h.2.2.1.1.1 ha, p0, p1, p5, p6, m, nd, nr, tp, len, Z, J, h, rfl⟩
theorem st_10 (h : IV p0 p1 m nd nr tp len Z J) {a b c : Int} (ha : -2147483648 ≤ a ∧ a < 2147483648) (hb : -2147483648 ≤ b ∧ b < 2147483648) (hc : -2147483648 ≤ c ∧ c < 2147483648) : SmI 116 181 [.int (i32 a), .int (i32 b), .int (i32 c)] (176, zs Z, J, RP p0 p1 p0 35 p0 p5 p6 97) := ⟨_, _, _, _, _, h_gift (d := 37) h.2.1.1 ha hb hc, g_gift (d := 37) (p0 := p0) (p1 := p1) (p2 := p0) (p3 := 35) (p4 := p0) (p5 := p5) (p6 := p6) (p7 := 97) h.2.2.1.1.1 ha hb hc, p0, p1, p5, p6, m, nd, nr, tp, len, Z, J, h, rfl⟩
theorem st_11 (h : IV p0 p1 m nd nr tp len Z J) {a b : Int} (ha : -2147483648 ≤ a ∧ a < 2147483648) (hb : -2147483648 ≤ b ∧ b < 2147483648) : SmI 117 188 [.int (i32 a), .int (i32 b)] (176, zs Z, J, RP p0 p1 p0 35 p0 p5 p6 97) := by
  obtain ⟨Z', e1, e2⟩ := h_leave (d := 37) (J := J) (p1 := p1) (p5 := p5) (p6 := p6) h.2.1.1 ha hb
  have h' : IV p0 p1 m nd nr tp len Z' J := IV_sc h (fun a h1 _ => e1 a h1) (fun _ _ => rfl)
  exact ⟨_, _, _, _, _, e2, g_leave (d := 35) (p0 := p0) (p1 := p1) (p2 := p0) (p3 := 35) (p4 := p0) (p5 := p5) (p6 := p6) (p7 := 97) h'.2.2.1.1.1 (MB_MX h'.2.2.1.1) ha hb, p0, p1, p5, p6, m, nd, nr, tp, len, Z', J, h', rfl⟩
theorem st_13 (h : IV p0 p1 m nd nr tp len Z J) {a b : Int} (ha : -2147483648 ≤ a ∧ a < 2147483648) (hb : -2147483648 ≤ b ∧ b < 2147483648) : SmI 119 206 [.int (i32 a), .int (i32 b)] (176, zs Z, J, RP p0 p1 p0 35 p0 p5 p6 97) := by
  obtain ⟨⟨r1, r2⟩, r3, r4⟩ := h.2.2.2.2.2.1
  have h1 := h_row (d := 38) (J := J) (p1 := p1) (p5 := p5) (p6 := p6) h.2.1.1 ha hb r2
  have h2 := g_row (d := 37) (J := J) (p0 := p0) (p1 := p1) (p2 := p0) (p3 := 35) (p4 := p0) (p5 := p5) (p6 := p6) (p7 := 97) h.2.2.1.1.1 ha hb (by omega)
  have e : (if (0 ≤ a ∧ a < Z 52 3) ∧ (0 ≤ b ∧ b < qS m) then Z (54 + a.toNat) b.toNat else -1) = (if (0 ≤ a ∧ a < Z 140 60) ∧ (0 ≤ b ∧ b < qS m) then Z 164 (3 * a.toNat + b.toNat) else -1) := by
    rw [← r1]
    by_cases c : (0 ≤ a ∧ a < Z 52 3) ∧ (0 ≤ b ∧ b < qS m)
    · rw [if_pos c, if_pos c, r3 a.toNat b.toNat (by omega) (by omega)]
    · rw [if_neg c, if_neg c]
  rw [e] at h1
  exact ⟨_, _, _, _, _, h1, h2, p0, p1, p5, p6, m, nd, nr, tp, len, Z, J, h, rfl⟩
theorem st_14 (h : IV p0 p1 m nd nr tp len Z J) {a : Int} (ha : -2147483648 ≤ a ∧ a < 2147483648) : SmI 120 207 [.int (i32 a)] (176, zs Z, J, RP p0 p1 p0 35 p0 p5 p6 97) := by
  obtain ⟨⟨r1, r2⟩, r3, r4⟩ := h.2.2.2.2.2.1
  have h1 := h_along (d := 38) (J := J) (p0 := p0) (p1 := p1) (p5 := p5) (p6 := p6) ha r2
  have h2 := g_along (d := 37) (J := J) (Z := Z) (p0 := p0) (p1 := p1) (p2 := p0) (p3 := 35) (p4 := p0) (p5 := p5) (p6 := p6) (p7 := 97) ha (by omega)
  have e : (if 0 ≤ a ∧ a ≤ Z 52 3 then Z 94 a.toNat else -1) = (if 0 ≤ a ∧ a ≤ Z 140 60 then Z 165 a.toNat else -1) := by
    rw [← r1]
    by_cases c : 0 ≤ a ∧ a ≤ Z 52 3
    · rw [if_pos c, if_pos c, r4 a.toNat (by omega)]
    · rw [if_neg c, if_neg c]
  rw [e] at h1
  exact ⟨_, _, _, _, _, h1, h2, p0, p1, p5, p6, m, nd, nr, tp, len, Z, J, h, rfl⟩
theorem st_15 (h : IV p0 p1 m nd nr tp len Z J) {a b : Int} (ha : -2147483648 ≤ a ∧ a < 2147483648) (hb : -2147483648 ≤ b ∧ b < 2147483648) : SmJ 121 208 [.int (i32 a), .int (i32 b)] (176, zs Z, J, RP p0 p1 p0 35 p0 p5 p6 97) := by
  obtain ⟨x, x1, x2, x3⟩ := h_safe (d := 37) (p1 := p1) (p5 := p5) (p6 := p6) h.2.1.1 h.2.1.2.2 ha hb
  obtain ⟨J', y, y0, y1, y2, y3⟩ := g_safe (d := 30) (J := J) (p0 := p0) (p1 := p1) (p2 := p0) (p3 := 35) (p4 := p0) (p5 := p5) (p6 := p6) (p7 := 97) h.2.2.1.1.1 (MB_MX h.2.2.1.1) ha hb
  have e : x = y := by
    by_cases c : (0 ≤ a ∧ a < qN m) ∧ (0 ≤ b ∧ b < qS m)
    · exact gb_ext (fun n hn => by rw [x1 c n hn, y1 c n hn])
    · rw [x2 c, y2 c]
  subst e
  exact ⟨_, _, _, _, _, x3, y3, p0, p1, p5, p6, m, nd, nr, tp, len, Z, J', IV_sc h (fun _ _ _ => rfl) (fun a ha => y0 a (by omega) (by omega)), rfl⟩
theorem st_16 (h : IV p0 p1 m nd nr tp len Z J) {a : Int} (ha : -2147483648 ≤ a ∧ a < 2147483648) : SmI 122 209 [.int (i32 a)] (176, zs Z, J, RP p0 p1 p0 35 p0 p5 p6 97) := by
  have h1 := h_many (d := 38) (p1 := p1) (p5 := p5) (p6 := p6) h.2.1.1 h.2.1.2.2 ha
  obtain ⟨J', y0, y3⟩ := g_many (d := 30) (J := J) (p0 := p0) (p1 := p1) (p2 := p0) (p3 := 35) (p4 := p0) (p5 := p5) (p6 := p6) (p7 := 97) h.2.2.1.1.1 (MB_MX h.2.2.1.1) ha
  exact ⟨_, _, _, _, _, h1, y3, p0, p1, p5, p6, m, nd, nr, tp, len, Z, J', IV_sc h (fun _ _ _ => rfl) (fun a ha => y0 a (by omega) (by omega)), rfl⟩
theorem IV_tf (h : IV p0 p1 m nd nr tp len Z J) (e : TF Z Z') (eJ : TJf J J') : IV p0 p1 m nd nr tp len Z' J' := IV_sc h (fun a _ h2 => e a h2) (fun a ha => eJ a (by omega))
theorem st_17 (h : IV p0 p1 m nd nr tp len Z J) : SmI 123 211 [] (176, zs Z, J, RP p0 p1 p0 35 p0 p5 p6 97) := by
  obtain ⟨Z1, J1, q5, q6, e1, e2, e3⟩ := h_need (d := 33) (J := J) (p1 := p1) (p5 := p5) (p6 := p6) h.2.1.1
  have h' := IV_tf h e1 e2
  obtain ⟨J', y0, y3⟩ := g_need (d := 29) (J := J1) (p0 := p0) (p1 := p1) (p2 := p0) (p3 := 35) (p4 := p0) (p5 := q5) (p6 := q6) (p7 := 97) h'.2.2.1.1
  exact ⟨_, _, _, _, _, e3, y3, p0, p1, q5, q6, m, nd, nr, tp, len, Z1, J', IV_sc h' (fun _ _ _ => rfl) (fun a ha => y0 a (by omega) (by omega)), rfl⟩
theorem st_18 (h : IV p0 p1 m nd nr tp len Z J) : SmI 124 213 [] (176, zs Z, J, RP p0 p1 p0 35 p0 p5 p6 97) := by
  obtain ⟨Z1, J1, q5, q6, e1, e2, e3⟩ := h_last (d := 33) (J := J) (p1 := p1) (p5 := p5) (p6 := p6) h.2.1.1
  have h' := IV_tf h e1 e2
  exact ⟨_, _, _, _, _, e3, g_last (d := 36) (J := J1) (p0 := p0) (p1 := p1) (p2 := p0) (p3 := 35) (p4 := p0) (p5 := q5) (p6 := q6) (p7 := 97) h'.2.2.1.1, p0, p1, q5, q6, m, nd, nr, tp, len, Z1, J1, h', rfl⟩
theorem st_20 (h : IV p0 p1 m nd nr tp len Z J) {a : Int} (ha : -2147483648 ≤ a ∧ a < 2147483648) : SmI 126 216 [.int (i32 a)] (176, zs Z, J, RP p0 p1 p0 35 p0 p5 p6 97) := by
  obtain ⟨Z1, J1, q5, q6, e1, e2, e3⟩ := h_cut (d := 33) (J := J) (p1 := p1) (p5 := p5) (p6 := p6) h.2.1.1 ha
  have h' := IV_tf h e1 e2
  obtain ⟨Z2, J2, y0, y1, y2, y3⟩ := g_cut (d := 30) (J := J1) (p0 := p0) (p1 := p1) (p2 := p0) (p3 := 35) (p4 := p0) (p5 := q5) (p6 := q6) (p7 := 97) h'.2.2.1.1 ha
  exact ⟨_, _, _, _, _, e3, y3, p0, p1, q5, q6, m, nd, nr, tp, len, Z2, J2, IV_fr h' y1 (fun a _ _ h3 _ h5 h6 h7 => y2.1 a h3 h5 h6 h7) y2.2 (fun a ha => y0 a (by omega) (by omega)), rfl⟩
theorem st_21 (h : IV p0 p1 m nd nr tp len Z J) {a b : Int} (ha : -2147483648 ≤ a ∧ a < 2147483648) (hb : -2147483648 ≤ b ∧ b < 2147483648) : SmI 127 217 [.int (i32 a), .int (i32 b)] (176, zs Z, J, RP p0 p1 p0 35 p0 p5 p6 97) := by
  obtain ⟨Z1, J1, q5, q6, e1, e2, e3⟩ := h_edge (d := 33) (J := J) (p1 := p1) (p5 := p5) (p6 := p6) h.2.1 h.2.2.1.2 ha hb
  have h' := IV_tf h e1 e2
  obtain ⟨Z2, J2, y0, y1, y2, y3⟩ := g_edge (d := 30) (J := J1) (p0 := p0) (p1 := p1) (p2 := p0) (p3 := 35) (p4 := p0) (p5 := q5) (p6 := q6) (p7 := 97) h'.2.2.1.1 h'.2.2.1.2 ha hb
  exact ⟨_, _, _, _, _, e3, y3, p0, p1, q5, q6, m, nd, nr, tp, len, Z2, J2, IV_fr h' y1 (fun a _ _ h3 _ h5 h6 h7 => y2.1 a h3 h5 h6 h7) y2.2 (fun a ha => y0 a (by omega) (by omega) (by omega)), rfl⟩
theorem st_22 (h : IV p0 p1 m nd nr tp len Z J) {a : Int} (ha : -2147483648 ≤ a ∧ a < 2147483648) : SmI 128 218 [.int (i32 a)] (176, zs Z, J, RP p0 p1 p0 35 p0 p5 p6 97) := ⟨_, _, _, _, _, h_great (d := 37) h.2.1.1 ha, g_great (d := 37) (p0 := p0) (p1 := p1) (p2 := p0) (p3 := 35) (p4 := p0) (p5 := p5) (p6 := p6) (p7 := 97) h.2.2.1.1.1 ha, p0, p1, p5, p6, m, nd, nr, tp, len, Z, J, h, rfl⟩
theorem st_23 (h : IV p0 p1 m nd nr tp len Z J) {a b c : Int} (ha : -2147483648 ≤ a ∧ a < 2147483648) (hb : -2147483648 ≤ b ∧ b < 2147483648) (hc : -2147483648 ≤ c ∧ c < 2147483648) : SmI 129 219 [.int (i32 a), .int (i32 b), .int (i32 c)] (176, zs Z, J, RP p0 p1 p0 35 p0 p5 p6 97) := by
  obtain ⟨Z1, J1, q5, q6, e1, e2, e3⟩ := h_again (d := 34) (J := J) (p1 := p1) (p5 := p5) (p6 := p6) h.2.1.1 ha hb hc
  have h' := IV_tf h e1 e2
  obtain ⟨J', y0, y3⟩ := g_again (d := 30) (J := J1) (p0 := p0) (p1 := p1) (p2 := p0) (p3 := 35) (p4 := p0) (p5 := q5) (p6 := q6) (p7 := 97) h'.2.2.1.1 ha hb hc
  exact ⟨_, _, _, _, _, e3, y3, p0, p1, q5, q6, m, nd, nr, tp, len, Z1, J', IV_sc h' (fun _ _ _ => rfl) (fun a ha => y0 a (by omega) (by omega)), rfl⟩
theorem st_28 (h : IV p0 p1 m nd nr tp len Z J) {a b : Int} (ha : -2147483648 ≤ a ∧ a < 2147483648) (hb : -2147483648 ≤ b ∧ b < 2147483648) : SmJ 134 230 [.int (i32 a), .int (i32 b)] (176, zs Z, J, RP p0 p1 p0 35 p0 p5 p6 97) := by
  have hd := h.2.2.2.2.2.2.2
  obtain ⟨x, x1, x2, x3⟩ := h_fit (d := 37) (J := J) (p1 := p1) (p5 := p5) (p6 := p6) h.2.1.1 hd.1 hd.2 ha hb
  obtain ⟨y, y1, y2, y3⟩ := g_fit (d := 36) (J := J) (p0 := p0) (p1 := p1) (p2 := p0) (p3 := 35) (p4 := p0) (p5 := p5) (p6 := p6) (p7 := 97) h.2.2.1.1.1 hd.1 ha hb
  have e : x = y := by
    by_cases c : (0 ≤ a ∧ a < qS m) ∧ (0 ≤ b ∧ b ≤ 999)
    · exact gb_ext (fun n hn => by rw [x1 c n hn, y1 c n hn])
    · rw [x2 c, y2 c]
  subst e
  exact ⟨_, _, _, _, _, x3, y3, p0, p1, p5, p6, m, nd, nr, tp, len, Z, J, h, rfl⟩
theorem st_29 (h : IV p0 p1 m nd nr tp len Z J) {a b : Int} (ha : -2147483648 ≤ a ∧ a < 2147483648) (hb : -2147483648 ≤ b ∧ b < 2147483648) : SmI 135 231 [.int (i32 a), .int (i32 b)] (176, zs Z, J, RP p0 p1 p0 35 p0 p5 p6 97) := by
  have hd := h.2.2.2.2.2.2.2
  exact ⟨_, _, _, _, _, h_ask (d := 36) h.2.1.1 hd.1 hd.2 ha hb, g_ask (d := 36) (p0 := p0) (p1 := p1) (p2 := p0) (p3 := 35) (p4 := p0) (p5 := p5) (p6 := p6) (p7 := 97) h.2.2.1.1.1 hd.1 ha hb, p0, p1, p5, p6, m, nd, nr, tp, len, Z, J, h, rfl⟩
theorem st_30 (h : IV p0 p1 m nd nr tp len Z J) {a : Int} (ha : -2147483648 ≤ a ∧ a < 2147483648) : SmI 136 232 [.int (i32 a)] (176, zs Z, J, RP p0 p1 p0 35 p0 p5 p6 97) := by
  have h1 := h_count (d := 39) (J := J) (Z := Z) (p1 := p1) (p5 := p5) (p6 := p6) h.1.1 ha
  have hd := h.2.2.2.2.2.2.2
  have t := h.2.2.2.1
  rw [h.2.2.2.2.1.2.1, hd.2.1.1, hd.2.1.2.1, ← hd.1.1.1, ← hd.1.1.2.2.1, t.2.1, ← t.2.2.1] at h1
  exact ⟨_, _, _, _, _, h1, g_count (d := 39) (p0 := p0) (p1 := p1) (p2 := p0) (p3 := 35) (p4 := p0) (p5 := p5) (p6 := p6) (p7 := 97) ha, p0, p1, p5, p6, m, nd, nr, tp, len, Z, J, h, rfl⟩
end
