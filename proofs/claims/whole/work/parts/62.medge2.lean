/-! THE MODEL'S edge, whole -/
theorem srchW {α σ : Type} (F : Nat → σ → α) (V : Nat → σ → Prop) (p : Nat → Bool) (n : Nat) (Q : Nat → α → Prop) (hit : ∀ (k : Nat) (x : σ), k < n → V k x → p k = true → Q k (F k x)) (miss : ∀ (k : Nat) (x : σ), k < n → V k x → p k = false → ∃ x' : σ, V (k + 1) x' ∧ F k x = F (k + 1) x') (x0 : σ) (h0 : V 0 x0) : (anyN p n = true → Q (fstN p n) (F 0 x0)) ∧ (anyN p n = false → ∃ x' : σ, V n x' ∧ F 0 x0 = F n x') := by
  have : ∀ k : Nat, k ≤ n → (∀ j : Nat, j < k → p j = false) → ∃ x' : σ, V k x' ∧ F 0 x0 = F k x' := fun k => by
    induction k with
    | zero => exact fun _ _ => ⟨x0, h0, rfl⟩
    | succ k ih =>
      intro h h2
      obtain ⟨x1, v1, e1⟩ := ih (by omega) (fun j hj => h2 j (by omega))
      obtain ⟨x2, v2, e2⟩ := miss k x1 (by omega) v1 (h2 k (by omega))
      exact ⟨x2, v2, e1.trans e2⟩
  constructor
  · intro c
    obtain ⟨h1, h2, h3⟩ := fstN_lt n c
    obtain ⟨x1, v1, e1⟩ := this _ (by omega) h3
    rw [e1]
    exact hit _ x1 h1 v1 h2
  · intro c
    exact this n (Nat.le_refl _) (fun j hj => anyN_none c hj)
section
variable {d : Nat} {J : Nat → Nat → Int64} {Z : Nat → Nat → Int} {p0 p1 p2 p3 p4 p5 p6 p7 : Nat} {m : Mat} {b : Nat → Int}
theorem g_work2 (h : MI m Z) (hx : MX b Z) : ∃ J' : Nat → Nat → Int64, (∀ a : Nat, a ≠ 162 → a ≠ 163 → J' a = J a) ∧ WK m b J' ∧ (∀ s : Nat, s < qN m → ∀ n : Nat, n < 64 → gb (J' 163 s) n = qstay m b s n) ∧ Mean (d + 9) 198 [.ref 140] (176, zs Z, J, RP p0 p1 p2 p3 p4 p5 p6 p7) = some (none, (176, zs Z, J', RP p0 p1 p2 p3 p4 p5 p6 p7)) := by
  obtain ⟨J1, h1, h2, h3⟩ := g_findStay (d := d + 2) (J := J) (p0 := p0) (p1 := p1) (p2 := p2) (p3 := p3) (p4 := p4) (p5 := p5) (p6 := p6) (p7 := p7) h hx
  obtain ⟨J2, g1, g2, g3⟩ := g_findSafe (d := d) (J := J1) (b := b) (p0 := p0) (p1 := p1) (p2 := p2) (p3 := p3) (p4 := p4) (p5 := p5) (p6 := p6) (p7 := p7) h h2
  refine ⟨J2, fun a ha hb => (g1 a ha).trans (h1 a hb), g2, fun s hs n hn => by rw [g1 163 (by decide)]; exact h2 s hs n hn, ?_⟩
  rw [e_X11_work]
  simp (disch := omega) only [k_X11_work_0, k_X11_work_4, k_X11_work_8, li_0, li_1, li_2, li_3, li_4, li_5, li_6, li_9, li_10, li_40, lm_1, lm_2, lm_3, lm_4, zs_ap, i32_add, i32_sub, i32_mul, i32_neg, i32_lt, i32_le, i32_eq, i32_nat, ckn, pka_r, pka_v, if_pos, if_neg, if_true, if_false, h3, g3]
/-- what the search for an edge keeps, when n moves are tried -/
def EW (m : Mat) (k i : Nat) (Z : Nat → Nat → Int) (J : Nat → Nat → Int64) (n : Nat) (y : (Nat → Nat → Int) × (Nat → Nat → Int64) × Option Value × Option Value) : Prop := EV (3 * k + i) Z y.1 ∧ (∀ a : Nat, a ≠ 162 → a ≠ 163 → a ≠ 166 → y.2.1 a = J a) ∧ (∀ s : Nat, s < qN m → ∀ q : Nat, q < 64 → gb (y.2.1 163 s) q = qstay (eM m k i n) (qbre m) s q) ∧ eH m k i n = hdm m (qbre m) ∧ y.1 140 49 = qN m
theorem ed_it (h : MB m Z) (hT : wfT m) {k i n : Nat} (hk : k < qP m) (hi : i < qS m) (hn : n < 60) {Z1 : Nat → Nat → Int} {J1 : Nat → Nat → Int64} {o8 o9 : Option Value} (hv : EW m k i Z J n (Z1, J1, o8, o9)) : ∃ y : (Nat → Nat → Int) × (Nat → Nat → Int64) × Int32 × Int32, (EV (3 * k + i) Z y.1 ∧ (∀ a : Nat, a ≠ 162 → a ≠ 163 → a ≠ 166 → y.2.1 a = J a) ∧ (∀ s : Nat, s < qN m → ∀ q : Nat, q < 64 → gb (y.2.1 163 s) q = qstay (eM m k i (n + 1)) (qbre m) s q) ∧ y.1 140 49 = qN m) ∧ den none (Mean (d + 9)) (some .int) tQ_X11_edge (49, [some (.ref 140), some (.int (i32 (k : Int))), some (.int (i32 (i : Int))), some (.int (i32 (bB (hdm m (qbre m))))), some (.int (i32 (bB (hdm m (qbre m))))), some (.int (i32 (qwor m k i))), some (.int (i32 (-1))), some (.int (i32 ((n + 1 : Nat) : Int))), o8, o9], [], 176, zs Z1, J1, RP p0 p1 p2 p3 p4 p5 p6 p7) = den none (Mean (d + 9)) (some .int) tQ_X11_edge (183, [some (.ref 140), some (.int (i32 (k : Int))), some (.int (i32 (i : Int))), some (.int (i32 (bB (hdm m (qbre m))))), some (.int (i32 (bB (eH m k i (n + 1))))), some (.int (i32 (qwor m k i))), some (.int (i32 (-1))), some (.int (i32 ((n + 1 : Nat) : Int))), some (.int y.2.2.1), some (.int y.2.2.2)], [], 176, zs y.1, y.2.1, RP p0 p1 p2 p3 p4 p5 p6 p7) := by
  obtain ⟨v1, v2, v3, v4, v5⟩ := hv
  simp only at v1 v2 v3 v4 v5
  have h0 := MI_n h.1
  have hwb := hT.2 k hk i hi
  have eN : ∀ q : Nat, qN (eM m k i q) = qN m := fun q => c_N (m := m) (m' := eM m k i q) rfl rfl
  have eB : ∀ q : Nat, qbre (eM m k i q) = qbre m := fun q => awor_bre (by omega)
  have hwq : ∀ q : Nat, q ≤ 60 → wf (eM m k i q) := fun q hq => awor_wf hT.1 (by omega) (by omega)
  obtain ⟨J2, c1, c2, c3⟩ := ed_copy (d := d + 9) (J := J1) (Z := Z1) (p0 := p0) (p1 := p1) (p2 := p2) (p3 := p3) (p4 := p4) (p5 := p5) (p6 := p6) (p7 := p7) (N := qN m) h0.2.2.1.2 v5 (i32 (k : Int)) (i32 (i : Int)) (i32 (bB (hdm m (qbre m)))) (i32 (bB (hdm m (qbre m)))) (i32 (qwor m k i)) (i32 (-1)) (i32 ((n + 1 : Nat) : Int)) o9
  obtain ⟨Z2, a1, a2, a3, a4⟩ := ed_place (d := d + 7) (J := J2) (p0 := p0) (p1 := p1) (p2 := p2) (p3 := p3) (p4 := p4) (p5 := p5) (p6 := p6) (p7 := p7) h hk hi (v := qwor m k i + ((n + 1 : Nat) : Int)) (by omega) v1
  have a2' : MB (eM m k i (n + 1)) Z2 := a2
  have hx2 : MX (qbre m) Z2 := by
    have := MB_MX a2'
    rw [eB] at this
    exact this
  obtain ⟨J3, b1, b2, b3⟩ := g_findStay (d := d + 3) (J := J2) (p0 := p0) (p1 := p1) (p2 := p2) (p3 := p3) (p4 := p4) (p5 := p5) (p6 := p6) (p7 := p7) a2'.1 hx2
  rw [eN] at b2
  have z49 : Z2 140 49 = qN m := by
    have := a2'.1.2.2.2.1.1
    rw [eN] at this
    exact this
  obtain ⟨c, x9, f1, f2⟩ := ed_cmp (d := d + 9) (J := J3) (Z := Z2) (p0 := p0) (p1 := p1) (p2 := p2) (p3 := p3) (p4 := p4) (p5 := p5) (p6 := p6) (p7 := p7) (N := qN m) h0.2.2.1.2 z49 (i32 (k : Int)) (i32 (i : Int)) (i32 (bB (hdm m (qbre m)))) (i32 (bB (hdm m (qbre m)))) (i32 (qwor m k i)) (i32 (-1)) (i32 ((n + 1 : Nat) : Int))
  have e1 : den none (Mean (d + 9)) (some .int) tQ_X11_edge (49, [some (.ref 140), some (.int (i32 (k : Int))), some (.int (i32 (i : Int))), some (.int (i32 (bB (hdm m (qbre m))))), some (.int (i32 (bB (hdm m (qbre m))))), some (.int (i32 (qwor m k i))), some (.int (i32 (-1))), some (.int (i32 ((n + 1 : Nat) : Int))), o8, o9], [], 176, zs Z1, J1, RP p0 p1 p2 p3 p4 p5 p6 p7) = den none (Mean (d + 9)) (some .int) tQ_X11_edge (168, [some (.ref 140), some (.int (i32 (k : Int))), some (.int (i32 (i : Int))), some (.int (i32 (bB (hdm m (qbre m))))), some (.int (i32 (bB (hdm m (qbre m))))), some (.int (i32 (qwor m k i))), some (.int (i32 (-1))), some (.int (i32 ((n + 1 : Nat) : Int))), some (.int (i32 (bB c))), some (.int x9)], [], 176, zs Z2, J3, RP p0 p1 p2 p3 p4 p5 p6 p7) := by
    rw [k_X11_edge_49]
    simp (disch := omega) only [k_X11_edge_0, k_X11_edge_5, k_X11_edge_8, k_X11_edge_13, k_X11_edge_16, k_X11_edge_19, k_X11_edge_23, k_X11_edge_27, k_X11_edge_41, k_X11_edge_56, k_X11_edge_62, k_X11_edge_74, k_X11_edge_87, k_X11_edge_88, k_X11_edge_109, k_X11_edge_113, k_X11_edge_117, k_X11_edge_132, k_X11_edge_137, k_X11_edge_144, k_X11_edge_151, k_X11_edge_155, k_X11_edge_159, k_X11_edge_160, k_X11_edge_173, k_X11_edge_177, k_X11_edge_181, k_X11_edge_183, k_X11_edge_189, k_X11_edge_193, k_X11_edge_199, k_X11_edge_211, k_X11_edge_215, li_0, li_1, li_2, li_3, li_4, li_5, li_6, li_9, li_10, li_40, lm_1, lm_2, lm_3, lm_4, zs_ap, i32_add, i32_sub, i32_mul, i32_neg, i32_lt, i32_le, i32_eq, i32_nat, ckn, pka_r, pka_v, if_pos, if_neg, if_true, if_false, li_60]
    refine Eq.trans c3 ?_
    simp (disch := omega) only [k_X11_edge_0, k_X11_edge_5, k_X11_edge_8, k_X11_edge_13, k_X11_edge_16, k_X11_edge_19, k_X11_edge_23, k_X11_edge_27, k_X11_edge_41, k_X11_edge_56, k_X11_edge_62, k_X11_edge_74, k_X11_edge_87, k_X11_edge_88, k_X11_edge_94, k_X11_edge_109, k_X11_edge_113, k_X11_edge_117, k_X11_edge_132, k_X11_edge_137, k_X11_edge_144, k_X11_edge_151, k_X11_edge_155, k_X11_edge_159, k_X11_edge_160, k_X11_edge_173, k_X11_edge_177, k_X11_edge_181, k_X11_edge_183, k_X11_edge_189, k_X11_edge_193, k_X11_edge_199, k_X11_edge_211, k_X11_edge_215, li_0, li_1, li_2, li_3, li_4, li_5, li_6, li_9, li_10, li_40, lm_1, lm_2, lm_3, lm_4, zs_ap, i32_add, i32_sub, i32_mul, i32_neg, i32_lt, i32_le, i32_eq, i32_nat, ckn, pka_r, pka_v, if_pos, if_neg, if_true, if_false, show (3 * (k : Int) + (i : Int)).toNat = 3 * k + i by omega, zs_u2, a4, b3]
    exact f2
  have hJ3 : ∀ a : Nat, a ≠ 162 → a ≠ 163 → a ≠ 166 → J3 a = J a := fun a h1 h2 h3 => (b1 a h2).trans ((c1 a h3).trans (v2 a h1 h2 h3))
  cases hc : c
  · obtain ⟨J4, g1, g2, g3⟩ := g_findSafe (d := d + 1) (J := J3) (b := qbre m) (p0 := p0) (p1 := p1) (p2 := p2) (p3 := p3) (p4 := p4) (p5 := p5) (p6 := p6) (p7 := p7) a2'.1 (by rw [eN]; exact b2)
    have g4 := g_holds (d := d + 6) (J := J4) (b := qbre m) (p0 := p0) (p1 := p1) (p2 := p2) (p3 := p3) (p4 := p4) (p5 := p5) (p6 := p6) (p7 := p7) a2'.1 g2
    refine ⟨(Z2, J4, i32 (bB false), x9), ⟨a1, fun a h1 h2 h3 => (g1 a h1).trans (hJ3 a h1 h2 h3), fun s hs q hq => by simp only; rw [g1 163 (by decide)]; exact b2 s hs q hq, z49⟩, ?_⟩
    rw [e1, hc]
    simp (disch := omega) only [k_X11_edge_0, k_X11_edge_5, k_X11_edge_8, k_X11_edge_13, k_X11_edge_16, k_X11_edge_19, k_X11_edge_23, k_X11_edge_27, k_X11_edge_41, k_X11_edge_56, k_X11_edge_62, k_X11_edge_74, k_X11_edge_87, k_X11_edge_88, k_X11_edge_94, k_X11_edge_109, k_X11_edge_113, k_X11_edge_117, k_X11_edge_132, k_X11_edge_137, k_X11_edge_144, k_X11_edge_151, k_X11_edge_155, k_X11_edge_159, k_X11_edge_160, k_X11_edge_168, k_X11_edge_173, k_X11_edge_177, k_X11_edge_181, k_X11_edge_189, k_X11_edge_193, k_X11_edge_199, k_X11_edge_211, k_X11_edge_215, li_0, li_1, li_2, li_3, li_4, li_5, li_6, li_9, li_10, li_40, lm_1, lm_2, lm_3, lm_4, zs_ap, i32_add, i32_sub, i32_mul, i32_neg, i32_lt, i32_le, i32_eq, i32_nat, ckn, pka_r, pka_v, if_pos, if_neg, if_true, if_false, bBf, g3, g4]
    rfl
  · have hsame : eH m k i (n + 1) = hdm m (qbre m) := by
      rw [← v4]
      refine eH_same h.1.1 (by omega) (hwq (n + 1) (by omega)) (fun s q hs hq => ?_) (hwq n (by omega))
      rw [← b2 s hs q hq, ← v3 s hs q hq, f1.mp hc s hs, b1 166 (by decide), c2 s hs]
    refine ⟨(Z2, J3, i32 (bB true), x9), ⟨a1, hJ3, b2, z49⟩, ?_⟩
    rw [e1, hc, hsame]
    simp (disch := omega) only [k_X11_edge_0, k_X11_edge_5, k_X11_edge_8, k_X11_edge_13, k_X11_edge_16, k_X11_edge_19, k_X11_edge_23, k_X11_edge_27, k_X11_edge_41, k_X11_edge_56, k_X11_edge_62, k_X11_edge_74, k_X11_edge_87, k_X11_edge_88, k_X11_edge_94, k_X11_edge_109, k_X11_edge_113, k_X11_edge_117, k_X11_edge_132, k_X11_edge_137, k_X11_edge_144, k_X11_edge_151, k_X11_edge_155, k_X11_edge_159, k_X11_edge_160, k_X11_edge_168, k_X11_edge_173, k_X11_edge_177, k_X11_edge_181, k_X11_edge_189, k_X11_edge_193, k_X11_edge_199, k_X11_edge_211, k_X11_edge_215, li_0, li_1, li_2, li_3, li_4, li_5, li_6, li_9, li_10, li_40, lm_1, lm_2, lm_3, lm_4, zs_ap, i32_add, i32_sub, i32_mul, i32_neg, i32_lt, i32_le, i32_eq, i32_nat, ckn, pka_r, pka_v, if_pos, if_neg, if_true, if_false, bBt]
theorem g_edge (h : MB m Z) (hT : wfT m) {k i : Int} (hk : -2147483648 ≤ k ∧ k < 2147483648) (hi : -2147483648 ≤ i ∧ i < 2147483648) : ∃ (Z' : Nat → Nat → Int) (J' : Nat → Nat → Int64), (∀ a : Nat, a ≠ 162 → a ≠ 163 → a ≠ 166 → J' a = J a) ∧ MB m Z' ∧ PF Z Z' ∧ Mean (d + 10) 217 [.ref 140, .int (i32 k), .int (i32 i)] (176, zs Z, J, RP p0 p1 p2 p3 p4 p5 p6 p7) = some (some (.int (i32 (aEdge m k i))), (176, zs Z', J', RP p0 p1 p2 p3 p4 p5 p6 p7)) := by
  have h0 := MI_n h.1
  by_cases c1 : 0 ≤ k ∧ k < qP m
  · by_cases c2 : 0 ≤ i ∧ i < qS m
    · obtain ⟨k', rfl⟩ : ∃ k' : Nat, k = k' := ⟨k.toNat, by omega⟩
      obtain ⟨i', rfl⟩ : ∃ i' : Nat, i = i' := ⟨i.toNat, by omega⟩
      have hkP : k' < qP m := by omega
      have hiS : i' < qS m := by omega
      have hz := h.1.2.1.2.2.1 k' hkP i' hiS
      obtain ⟨J1, w1, w2, w3, w4⟩ := g_work2 (d := d) (J := J) (p0 := p0) (p1 := p1) (p2 := p2) (p3 := p3) (p4 := p4) (p5 := p5) (p6 := p6) (p7 := p7) h.1 (MB_MX h)
      have w5 := g_holds (d := d + 6) (J := J1) (p0 := p0) (p1 := p1) (p2 := p2) (p3 := p3) (p4 := p4) (p5 := p5) (p6 := p6) (p7 := p7) h.1 w2
      have fn : ∀ (x4 : Int32) (x6 : Int) (x7 : Nat) (y : (Nat → Nat → Int) × (Nat → Nat → Int64) × Option Value × Option Value), (x6 = -1 → 60 < x7) → x7 < 70 → (-1 ≤ x6 ∧ x6 < 70) → EV (3 * k' + i') Z y.1 → ∃ Z2 : Nat → Nat → Int, MB m Z2 ∧ PF Z Z2 ∧ den none (Mean (d + 9)) (some .int) tQ_X11_edge (49, [some (.ref 140), some (.int (i32 (k' : Int))), some (.int (i32 (i' : Int))), some (.int (i32 (bB (hdm m (qbre m))))), some (.int x4), some (.int (i32 (qwor m k' i'))), some (.int (i32 x6)), some (.int (i32 (x7 : Int))), y.2.2.1, y.2.2.2], [], 176, zs y.1, y.2.1, RP p0 p1 p2 p3 p4 p5 p6 p7) = some (some (.int (i32 x6)), (176, zs Z2, y.2.1, RP p0 p1 p2 p3 p4 p5 p6 p7)) := fun x4 x6 x7 y hx hx7 hx6 hv => by
        obtain ⟨Z2, e1, e2, e3⟩ := ed_end (d := d) (J := y.2.1) (p0 := p0) (p1 := p1) (p2 := p2) (p3 := p3) (p4 := p4) (p5 := p5) (p6 := p6) (p7 := p7) h hkP hiS hv (i32 (bB (hdm m (qbre m)))) x4 (i32 x6) (i32 (x7 : Int)) y.2.2.1 y.2.2.2
        refine ⟨Z2, e1, e2, ?_⟩
        rw [k_X11_edge_49]
        by_cases c9 : 60 < x7
        · simp (disch := omega) only [k_X11_edge_0, k_X11_edge_5, k_X11_edge_8, k_X11_edge_13, k_X11_edge_16, k_X11_edge_19, k_X11_edge_23, k_X11_edge_27, k_X11_edge_41, k_X11_edge_56, k_X11_edge_62, k_X11_edge_74, k_X11_edge_87, k_X11_edge_88, k_X11_edge_94, k_X11_edge_109, k_X11_edge_113, k_X11_edge_117, k_X11_edge_132, k_X11_edge_137, k_X11_edge_144, k_X11_edge_151, k_X11_edge_155, k_X11_edge_159, k_X11_edge_160, k_X11_edge_168, k_X11_edge_173, k_X11_edge_177, k_X11_edge_181, k_X11_edge_183, k_X11_edge_189, k_X11_edge_193, k_X11_edge_211, k_X11_edge_215, li_0, li_1, li_2, li_3, li_4, li_5, li_6, li_9, li_10, li_40, lm_1, lm_2, lm_3, lm_4, zs_ap, i32_add, i32_sub, i32_mul, i32_neg, i32_lt, i32_le, i32_eq, i32_nat, ckn, pka_r, pka_v, if_pos, if_neg, if_true, if_false, li_60]
          exact e3
        · simp (disch := omega) only [k_X11_edge_0, k_X11_edge_5, k_X11_edge_8, k_X11_edge_13, k_X11_edge_16, k_X11_edge_19, k_X11_edge_23, k_X11_edge_27, k_X11_edge_41, k_X11_edge_56, k_X11_edge_62, k_X11_edge_74, k_X11_edge_87, k_X11_edge_88, k_X11_edge_94, k_X11_edge_109, k_X11_edge_113, k_X11_edge_117, k_X11_edge_132, k_X11_edge_137, k_X11_edge_144, k_X11_edge_151, k_X11_edge_155, k_X11_edge_159, k_X11_edge_160, k_X11_edge_168, k_X11_edge_173, k_X11_edge_177, k_X11_edge_181, k_X11_edge_183, k_X11_edge_189, k_X11_edge_193, k_X11_edge_211, k_X11_edge_215, li_0, li_1, li_2, li_3, li_4, li_5, li_6, li_9, li_10, li_40, lm_1, lm_2, lm_3, lm_4, zs_ap, i32_add, i32_sub, i32_mul, i32_neg, i32_lt, i32_le, i32_eq, i32_nat, ckn, pka_r, pka_v, if_pos, if_neg, if_true, if_false, li_60]
          exact e3
      have e0 : Mean (d + 10) 217 [.ref 140, .int (i32 (k' : Int)), .int (i32 (i' : Int))] (176, zs Z, J, RP p0 p1 p2 p3 p4 p5 p6 p7) = den none (Mean (d + 9)) (some .int) tQ_X11_edge (49, [some (.ref 140), some (.int (i32 (k' : Int))), some (.int (i32 (i' : Int))), some (.int (i32 (bB (hdm m (qbre m))))), some (.int (i32 (bB (hdm m (qbre m))))), some (.int (i32 (qwor m k' i'))), some (.int (i32 (-1))), some (.int (i32 ((0 + 1 : Nat) : Int))), none, none], [], 176, zs Z, J1, RP p0 p1 p2 p3 p4 p5 p6 p7) := by
        rw [e_X11_edge]
        simp (disch := omega) only [k_X11_edge_0, k_X11_edge_5, k_X11_edge_8, k_X11_edge_13, k_X11_edge_16, k_X11_edge_19, k_X11_edge_23, k_X11_edge_27, k_X11_edge_41, k_X11_edge_56, k_X11_edge_62, k_X11_edge_74, k_X11_edge_87, k_X11_edge_88, k_X11_edge_94, k_X11_edge_109, k_X11_edge_113, k_X11_edge_117, k_X11_edge_132, k_X11_edge_137, k_X11_edge_144, k_X11_edge_151, k_X11_edge_155, k_X11_edge_159, k_X11_edge_160, k_X11_edge_168, k_X11_edge_173, k_X11_edge_177, k_X11_edge_181, k_X11_edge_183, k_X11_edge_189, k_X11_edge_193, k_X11_edge_199, k_X11_edge_211, k_X11_edge_215, li_0, li_1, li_2, li_3, li_4, li_5, li_6, li_9, li_10, li_40, lm_1, lm_2, lm_3, lm_4, zs_ap, i32_add, i32_sub, i32_mul, i32_neg, i32_lt, i32_le, i32_eq, i32_nat, ckn, pka_r, pka_v, if_pos, if_neg, if_true, if_false, s_isPiece, s_isSide, bI_t, bI_f, h0, w4, w5, show (3 * (k' : Int) + (i' : Int)).toNat = 3 * k' + i' by omega, hz]
        rfl
      have eM0 : eM m k' i' 0 = m := by
        unfold eM
        rw [show qwor m k' i' + ((0 : Nat) : Int) = qwor m k' i' by omega, awor_id]
      have key := srchW (fun (n : Nat) (y : (Nat → Nat → Int) × (Nat → Nat → Int64) × Option Value × Option Value) => den none (Mean (d + 9)) (some .int) tQ_X11_edge (49, [some (.ref 140), some (.int (i32 (k' : Int))), some (.int (i32 (i' : Int))), some (.int (i32 (bB (hdm m (qbre m))))), some (.int (i32 (bB (hdm m (qbre m))))), some (.int (i32 (qwor m k' i'))), some (.int (i32 (-1))), some (.int (i32 ((n + 1 : Nat) : Int))), y.2.2.1, y.2.2.2], [], 176, zs y.1, y.2.1, RP p0 p1 p2 p3 p4 p5 p6 p7)) (EW m k' i' Z J) (pEdge m k' i') 60 (fun n r => ∃ (Z' : Nat → Nat → Int) (J' : Nat → Nat → Int64), (∀ a : Nat, a ≠ 162 → a ≠ 163 → a ≠ 166 → J' a = J a) ∧ MB m Z' ∧ PF Z Z' ∧ r = some (some (.int (i32 ((n + 1 : Nat) : Int))), (176, zs Z', J', RP p0 p1 p2 p3 p4 p5 p6 p7))) (fun n y hn hy hp => ?_) (fun n y hn hy hp => ?_) (Z, J1, none, none) ⟨⟨⟨fun _ _ _ _ _ _ => rfl, fun _ _ _ _ => rfl, fun _ _ => rfl⟩, h.1.2.2.1⟩, fun a h1 h2 _ => w1 a h1 h2, by rw [eM0]; exact w3, by unfold eH; rw [eM0], h0.2.2.2.2.2.1⟩
      · unfold aEdge
        rw [if_pos ⟨c1, c2⟩, Int.toNat_natCast, Int.toNat_natCast, e0]
        by_cases ca : anyN (pEdge m k' i') 60 = true
        · rw [if_pos ca]
          obtain ⟨Z', J', q1, q2, q3, q4⟩ := key.1 ca
          exact ⟨Z', J', q1, q2, q3, q4⟩
        · rw [if_neg ca]
          obtain ⟨y, q1, q2⟩ := key.2 (by simpa using ca)
          obtain ⟨Z2, e1, e2, e3⟩ := fn (i32 (bB (hdm m (qbre m)))) (-1) 61 y (fun _ => by omega) (by omega) (by omega) q1.1
          exact ⟨Z2, y.2.1, q1.2.1, e1, e2, q2.trans e3⟩
      · obtain ⟨Z1, J2, o8, o9⟩ := y
        obtain ⟨y2, r1, r2⟩ := ed_it (d := d) (p0 := p0) (p1 := p1) (p2 := p2) (p3 := p3) (p4 := p4) (p5 := p5) (p6 := p6) (p7 := p7) h hT hkP hiS hn hy
        obtain ⟨Z3, e1, e2, e3⟩ := fn (i32 (bB (eH m k' i' (n + 1)))) ((n + 1 : Nat) : Int) (n + 1 + 1) (y2.1, y2.2.1, some (.int y2.2.2.1), some (.int y2.2.2.2)) (fun q => by omega) (by omega) (by omega) r1.1
        refine ⟨Z3, y2.2.1, r1.2.1, e1, e2, r2.trans ?_⟩
        refine Eq.trans ?_ e3
        have hne : ¬ i32 (bB (eH m k' i' (n + 1))) = i32 (bB (hdm m (qbre m))) := by
          unfold pEdge at hp
          revert hp
          cases eH m k' i' (n + 1) <;> cases hdm m (qbre m) <;> decide
        simp (disch := omega) only [k_X11_edge_0, k_X11_edge_5, k_X11_edge_8, k_X11_edge_13, k_X11_edge_16, k_X11_edge_19, k_X11_edge_23, k_X11_edge_27, k_X11_edge_41, k_X11_edge_56, k_X11_edge_62, k_X11_edge_74, k_X11_edge_87, k_X11_edge_88, k_X11_edge_94, k_X11_edge_109, k_X11_edge_113, k_X11_edge_117, k_X11_edge_132, k_X11_edge_137, k_X11_edge_144, k_X11_edge_151, k_X11_edge_155, k_X11_edge_159, k_X11_edge_160, k_X11_edge_168, k_X11_edge_173, k_X11_edge_177, k_X11_edge_181, k_X11_edge_183, k_X11_edge_189, k_X11_edge_193, k_X11_edge_199, k_X11_edge_211, k_X11_edge_215, li_0, li_1, li_2, li_3, li_4, li_5, li_6, li_9, li_10, li_40, lm_1, lm_2, lm_3, lm_4, zs_ap, i32_add, i32_sub, i32_mul, i32_neg, i32_lt, i32_le, i32_eq, i32_nat, ckn, pka_r, pka_v, if_pos, if_neg, if_true, if_false, hne]
        rfl
      · obtain ⟨Z1, J2, o8, o9⟩ := y
        obtain ⟨y2, r1, r2⟩ := ed_it (d := d) (p0 := p0) (p1 := p1) (p2 := p2) (p3 := p3) (p4 := p4) (p5 := p5) (p6 := p6) (p7 := p7) h hT hkP hiS hn hy
        have heq : eH m k' i' (n + 1) = hdm m (qbre m) := by
          unfold pEdge at hp
          revert hp
          cases eH m k' i' (n + 1) <;> cases hdm m (qbre m) <;> decide
        refine ⟨(y2.1, y2.2.1, some (.int y2.2.2.1), some (.int y2.2.2.2)), ⟨r1.1, r1.2.1, r1.2.2.1, heq, r1.2.2.2⟩, r2.trans ?_⟩
        rw [heq]
        simp (disch := omega) only [k_X11_edge_0, k_X11_edge_5, k_X11_edge_8, k_X11_edge_13, k_X11_edge_16, k_X11_edge_19, k_X11_edge_23, k_X11_edge_27, k_X11_edge_41, k_X11_edge_56, k_X11_edge_62, k_X11_edge_74, k_X11_edge_87, k_X11_edge_88, k_X11_edge_94, k_X11_edge_109, k_X11_edge_113, k_X11_edge_117, k_X11_edge_132, k_X11_edge_137, k_X11_edge_144, k_X11_edge_151, k_X11_edge_155, k_X11_edge_159, k_X11_edge_160, k_X11_edge_168, k_X11_edge_173, k_X11_edge_177, k_X11_edge_181, k_X11_edge_183, k_X11_edge_189, k_X11_edge_193, k_X11_edge_199, k_X11_edge_211, k_X11_edge_215, li_0, li_1, li_2, li_3, li_4, li_5, li_6, li_9, li_10, li_40, lm_1, lm_2, lm_3, lm_4, zs_ap, i32_add, i32_sub, i32_mul, i32_neg, i32_lt, i32_le, i32_eq, i32_nat, ckn, pka_r, pka_v, if_pos, if_neg, if_true, if_false]
        rfl
    · refine ⟨Z, J, fun _ _ _ _ => rfl, h, ⟨fun _ _ _ _ _ => rfl, fun _ _ _ _ => rfl⟩, ?_⟩
      unfold aEdge
      rw [if_neg (fun q => c2 q.2), e_X11_edge]
      simp (disch := omega) only [k_X11_edge_0, k_X11_edge_5, k_X11_edge_8, k_X11_edge_13, k_X11_edge_16, k_X11_edge_19, k_X11_edge_23, k_X11_edge_27, k_X11_edge_41, k_X11_edge_56, k_X11_edge_62, k_X11_edge_74, k_X11_edge_87, k_X11_edge_88, k_X11_edge_94, k_X11_edge_109, k_X11_edge_113, k_X11_edge_117, k_X11_edge_132, k_X11_edge_137, k_X11_edge_144, k_X11_edge_151, k_X11_edge_155, k_X11_edge_159, k_X11_edge_160, k_X11_edge_168, k_X11_edge_173, k_X11_edge_177, k_X11_edge_181, k_X11_edge_183, k_X11_edge_189, k_X11_edge_193, k_X11_edge_199, k_X11_edge_211, k_X11_edge_215, li_0, li_1, li_2, li_3, li_4, li_5, li_6, li_9, li_10, li_40, lm_1, lm_2, lm_3, lm_4, zs_ap, i32_add, i32_sub, i32_mul, i32_neg, i32_lt, i32_le, i32_eq, i32_nat, ckn, pka_r, pka_v, if_pos, if_neg, if_true, if_false, s_isPiece, s_isSide, bI_t, bI_f, h0]
  · refine ⟨Z, J, fun _ _ _ _ => rfl, h, ⟨fun _ _ _ _ _ => rfl, fun _ _ _ _ => rfl⟩, ?_⟩
    unfold aEdge
    rw [if_neg (fun q => c1 q.1), e_X11_edge]
    simp (disch := omega) only [k_X11_edge_0, k_X11_edge_5, k_X11_edge_8, k_X11_edge_13, k_X11_edge_16, k_X11_edge_19, k_X11_edge_23, k_X11_edge_27, k_X11_edge_41, k_X11_edge_56, k_X11_edge_62, k_X11_edge_74, k_X11_edge_87, k_X11_edge_88, k_X11_edge_94, k_X11_edge_109, k_X11_edge_113, k_X11_edge_117, k_X11_edge_132, k_X11_edge_137, k_X11_edge_144, k_X11_edge_151, k_X11_edge_155, k_X11_edge_159, k_X11_edge_160, k_X11_edge_168, k_X11_edge_173, k_X11_edge_177, k_X11_edge_181, k_X11_edge_183, k_X11_edge_189, k_X11_edge_193, k_X11_edge_199, k_X11_edge_211, k_X11_edge_215, li_0, li_1, li_2, li_3, li_4, li_5, li_6, li_9, li_10, li_40, lm_1, lm_2, lm_3, lm_4, zs_ap, i32_add, i32_sub, i32_mul, i32_neg, i32_lt, i32_le, i32_eq, i32_nat, ckn, pka_r, pka_v, if_pos, if_neg, if_true, if_false, s_isPiece, s_isSide, bI_t, bI_f, h0]
end
