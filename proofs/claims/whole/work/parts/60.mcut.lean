/-! THE MODEL'S cut -/
def acut (m : Mat) (k n : Nat) : Mat := (m.1, fun a j => if a = 1 ∧ j = k then n else m.2.1 a j, m.2.2)
theorem acut_c {m : Mat} {k n : Nat} : qcut (acut m k n) k = n := if_pos ⟨rfl, rfl⟩
theorem acut_o {m : Mat} {k n j : Nat} (h : j ≠ k) : qcut (acut m k n) j = qcut m j := if_neg (fun q => h q.2)
theorem acut_id {m : Mat} {k : Nat} : acut m k (qcut m k) = m := by
  unfold acut
  refine Prod.ext rfl (Prod.ext ?_ rfl)
  funext a j
  simp only
  by_cases c : a = 1 ∧ j = k
  · rw [if_pos c, c.1, c.2]
  · rw [if_neg c]
def pex (m : Mat) (k : Nat) : Nat → Nat
  | 0 => 1
  | j + 1 => if j = k then pex m k j else pex m k j * (qcut m j + 1)
theorem pex_s (m : Mat) (k j : Nat) : pex m k (j + 1) = if j = k then pex m k j else pex m k j * (qcut m j + 1) := rfl
theorem pex_q (m : Mat) (k : Nat) : ∀ j : Nat, qpl m j = pex m k j * (if k < j then qcut m k + 1 else 1)
  | 0 => rfl
  | j + 1 => by
    rw [pl_succ, pex_q m k j, pex_s]
    by_cases c : j = k
    · subst c
      rw [if_pos rfl, if_neg (by omega), if_pos (by omega), Nat.mul_one]
    · rw [if_neg c]
      by_cases c2 : k < j
      · rw [if_pos c2, if_pos (by omega), Nat.mul_assoc, Nat.mul_assoc, Nat.mul_comm (qcut m k + 1)]
      · rw [if_neg c2, if_neg (by omega), Nat.mul_one, Nat.mul_one]
theorem pex_a (m : Mat) (k n : Nat) : ∀ j : Nat, pex (acut m k n) k j = pex m k j
  | 0 => rfl
  | j + 1 => by
    rw [pex_s, pex_s, pex_a m k n j]
    by_cases c : j = k
    · rw [if_pos c, if_pos c]
    · rw [if_neg c, if_neg c, acut_o c]
theorem acut_N {m : Mat} {k n : Nat} (hk : k < qP m) : qN (acut m k n) = qN m / (qcut m k + 1) * (n + 1) := by
  have h1 := pex_q m k (qP m)
  have h2 := pex_q (acut m k n) k (qP m)
  rw [if_pos hk] at h1 h2
  rw [pex_a, acut_c] at h2
  unfold qN
  rw [show qP (acut m k n) = qP m from rfl, h2, h1, Nat.mul_div_cancel _ (by omega)]
theorem acut_wf {m : Mat} (hw : wf m) {k n : Nat} (hk : k < qP m) (h1 : qkept m k < n) (h2 : n ≤ 9) (h3 : qN (acut m k n) ≤ 400) : wf (acut m k n) := by
  refine ⟨hw.1, hw.2.1, fun j hj => ?_, hw.2.2.2.1, hw.2.2.2.2.1, hw.2.2.2.2.2.1, h3⟩
  have h4 := hw.2.2.1 j hj
  by_cases c : j = k
  · subst c
    rw [acut_c]
    exact ⟨h4.1, by omega, h1, h4.2.2.2⟩
  · rw [acut_o c]
    exact h4
def pCut (m : Mat) (k j : Nat) : Bool := decide (qN (acut m k (qkept m k + 1 + j)) ≤ 400) && hdm (acut m k (qkept m k + 1 + j)) (qbre m)
def aCut (m : Mat) (k : Int) : Int := if 0 ≤ k ∧ k < qP m then (if anyN (pCut m k.toNat) (9 - qkept m k.toNat) then ((qkept m k.toNat + 1 + fstN (pCut m k.toNat) (9 - qkept m k.toNat) : Nat) : Int) else -1) else -2
/-- all but the tables is as it was -/
def PF (Z Z' : Nat → Nat → Int) : Prop := (∀ a : Nat, a ≠ 140 → a ≠ 158 → a ≠ 159 → a ≠ 160 → Z' a = Z a) ∧ ∀ j : Nat, j ≠ 49 → j ≠ 50 → j ≠ 51 → Z' 140 j = Z 140 j
section
variable {d : Nat} {J : Nat → Nat → Int64} {Z : Nat → Nat → Int} {p0 p1 p2 p3 p4 p5 p6 p7 : Nat} {m : Mat} {b : Nat → Int}
/-- what a trial of parts keeps -/
def CV (k : Nat) (Z Z1 : Nat → Nat → Int) : Prop := ((∀ a : Nat, a ≠ 140 → a ≠ 143 → a ≠ 158 → a ≠ 159 → a ≠ 160 → Z1 a = Z a) ∧ (∀ j : Nat, j ≠ 49 → j ≠ 50 → j ≠ 51 → Z1 140 j = Z 140 j) ∧ (∀ j : Nat, j ≠ k → Z1 143 j = Z 143 j)) ∧ mJk Z1
theorem CV_MR {k n : Nat} {Z1 : Nat → Nat → Int} (h : MR m Z) (hv : CV k Z Z1) : MR (acut m k n) (u2 Z1 143 k (n : Int)) := by
  obtain ⟨⟨v1, v2, v3⟩, v4⟩ := hv
  have e : ∀ a : Nat, a ≠ 143 → u2 Z1 143 k (n : Int) a = Z1 a := fun a ha => u2_ne ha
  unfold MR
  rw [e 140 (by decide), e 142 (by decide), e 144 (by decide), e 148 (by decide), e 145 (by decide), e 146 (by decide), e 147 (by decide), v2 10 (by decide) (by decide) (by decide), v2 11 (by decide) (by decide) (by decide), v2 12 (by decide) (by decide) (by decide), v2 13 (by decide) (by decide) (by decide), v2 14 (by decide) (by decide) (by decide), v2 15 (by decide) (by decide) (by decide), v2 24 (by decide) (by decide) (by decide), v1 142 (by decide) (by decide) (by decide) (by decide) (by decide), v1 144 (by decide) (by decide) (by decide) (by decide) (by decide), v1 148 (by decide) (by decide) (by decide) (by decide) (by decide), v1 145 (by decide) (by decide) (by decide) (by decide) (by decide), v1 146 (by decide) (by decide) (by decide) (by decide) (by decide), v1 147 (by decide) (by decide) (by decide) (by decide) (by decide)]
  refine ⟨h.1, fun j hj => ⟨(h.2.1 j hj).1, ?_, (h.2.1 j hj).2.2⟩, h.2.2⟩
  by_cases c : j = k
  · subst c
    rw [u2s, acut_c]
  · rw [u2f c, v3 j c, acut_o c]
    exact (h.2.1 j hj).2.1
theorem mJk_143 {k : Nat} {v : Int} {Z1 : Nat → Nat → Int} (h : mJk Z1) : mJk (u2 Z1 143 k v) := by
  unfold mJk
  rw [u2_ne (show 145 ≠ 143 by decide), u2_ne (show 159 ≠ 143 by decide), u2_ne (show 142 ≠ 143 by decide), u2_ne (show 160 ≠ 143 by decide)]
  exact h
theorem ct_place (h : MB m Z) {k n : Nat} {Z1 : Nat → Nat → Int} (hv : CV k Z Z1) (hw : wf (acut m k n)) : ∃ Z2 : Nat → Nat → Int, CV k Z Z2 ∧ MB (acut m k n) Z2 ∧ (∀ a : Nat, a ≠ 140 → a ≠ 158 → a ≠ 159 → a ≠ 160 → Z2 a = u2 Z1 143 k (n : Int) a) ∧ Mean (d + 2) 170 [.ref 140] (176, zs (u2 Z1 143 k (n : Int)), J, RP p0 p1 p2 p3 p4 p5 p6 p7) = some (none, (176, zs Z2, J, RP p0 p1 p2 p3 p4 p5 p6 p7)) := by
  obtain ⟨Z2, h1, h2, h3, h4, h5, h6⟩ := s_place (d := d) (J := J) (p0 := p0) (p1 := p1) (p2 := p2) (p3 := p3) (p4 := p4) (p5 := p5) (p6 := p6) (p7 := p7) hw (CV_MR h.1.2.1 hv) (mJk_143 hv.2)
  refine ⟨Z2, ⟨⟨fun a a1 a2 a3 a4 a5 => ?_, fun j j1 j2 j3 => ?_, fun j hj => ?_⟩, h4⟩, ⟨⟨hw, h3, h4, h5⟩, fun i hi => ?_⟩, h1, h6⟩
  · rw [h1 a a1 a3 a4 a5, u2_ne a2]
    exact hv.1.1 a a1 a2 a3 a4 a5
  · rw [h2 j j1 j2 j3, u2a (by decide)]
    exact hv.1.2.1 j j1 j2 j3
  · rw [h1 143 (by decide) (by decide) (by decide) (by decide), u2f hj]
    exact hv.1.2.2 j hj
  · rw [h1 161 (by decide) (by decide) (by decide) (by decide), u2_ne (by decide), hv.1.1 161 (by decide) (by decide) (by decide) (by decide) (by decide)]
    exact h.2 i hi
theorem ct_end (h : MB m Z) {k : Nat} (hk : k < qP m) {Z1 : Nat → Nat → Int} (hv : CV k Z Z1) (x3 x4 x5 : Int32) : ∃ Z2 : Nat → Nat → Int, MB m Z2 ∧ PF Z Z2 ∧ den none (Mean (d + 9)) (some .int) tQ_X11_cut (101, [some (.ref 140), some (.int (i32 (k : Int))), some (.int (i32 ((qcut m k : Nat) : Int))), some (.int x3), some (.int x4), some (.int x5)], [], 176, zs Z1, J, RP p0 p1 p2 p3 p4 p5 p6 p7) = some (some (.int x4), (176, zs Z2, J, RP p0 p1 p2 p3 p4 p5 p6 p7)) := by
  have hw := h.1.1
  obtain ⟨Z2, h1, h2, h3, h4⟩ := ct_place (d := d + 7) (J := J) (p0 := p0) (p1 := p1) (p2 := p2) (p3 := p3) (p4 := p4) (p5 := p5) (p6 := p6) (p7 := p7) h hv (n := qcut m k) (by rw [acut_id]; exact hw)
  rw [acut_id] at h2
  have h0 := MI_n h.1
  refine ⟨Z2, h2, ⟨fun a a1 a2 a3 a4 => ?_, h1.1.2.1⟩, ?_⟩
  · by_cases c : a = 143
    · subst c
      rw [h3 143 (by decide) (by decide) (by decide) (by decide)]
      funext j
      by_cases cj : j = k
      · subst cj
        rw [u2s, (h.1.2.1.2.1 j hk).2.1]
      · rw [u2f cj, hv.1.2.2 j cj]
    · exact h1.1.1 a a1 c a2 a3 a4
  · simp (disch := omega) only [k_X11_cut_0, k_X11_cut_5, k_X11_cut_8, k_X11_cut_11, k_X11_cut_17, k_X11_cut_26, k_X11_cut_36, k_X11_cut_47, k_X11_cut_53, k_X11_cut_65, k_X11_cut_68, k_X11_cut_76, k_X11_cut_80, k_X11_cut_84, k_X11_cut_88, k_X11_cut_91, k_X11_cut_95, k_X11_cut_101, k_X11_cut_108, k_X11_cut_112, li_0, li_1, li_2, li_3, li_4, li_5, li_6, li_9, li_10, li_40, lm_1, lm_2, lm_3, lm_4, zs_ap, i32_add, i32_sub, i32_mul, i32_neg, i32_lt, i32_le, i32_eq, i32_nat, ckn, pka_r, pka_v, if_pos, if_neg, if_true, if_false, Int.toNat_natCast, zs_u2, h4]
theorem g_cut (h : MB m Z) {k : Int} (hk : -2147483648 ≤ k ∧ k < 2147483648) : ∃ (Z' : Nat → Nat → Int) (J' : Nat → Nat → Int64), (∀ a : Nat, a ≠ 162 → a ≠ 163 → J' a = J a) ∧ MB m Z' ∧ PF Z Z' ∧ Mean (d + 10) 216 [.ref 140, .int (i32 k)] (176, zs Z, J, RP p0 p1 p2 p3 p4 p5 p6 p7) = some (some (.int (i32 (aCut m k))), (176, zs Z', J', RP p0 p1 p2 p3 p4 p5 p6 p7)) := by
  have h0 := MI_n h.1
  by_cases c1 : 0 ≤ k ∧ k < qP m
  · obtain ⟨k', rfl⟩ : ∃ k' : Nat, k = k' := ⟨k.toNat, by omega⟩
    have hkP : k' < qP m := by omega
    have hr := h.1.2.1.2.1 k' hkP
    have hwk := h.1.1.2.2.1 k' hkP
    have hoth : ((qN m : Int)).tdiv ((qcut m k' : Int) + 1) = ((qN m / (qcut m k' + 1) : Nat) : Int) := by
      rw [show (qcut m k' : Int) + 1 = ((qcut m k' + 1 : Nat) : Int) by omega]
      rfl
    have hothb : qN m / (qcut m k' + 1) ≤ 400 := Nat.le_trans (Nat.div_le_self _ _) h0.2.2.1.2
    generalize ho : qN m / (qcut m k' + 1) = oth at hoth hothb
    have hNn : ∀ n : Nat, qN (acut m k' n) = oth * (n + 1) := fun n => by rw [acut_N hkP, ho]
    have fn : ∀ (x4 : Int) (x5 : Nat) (y : (Nat → Nat → Int) × (Nat → Nat → Int64)), (x4 = -1 → 9 < x5) → x5 < 20 → (-1 ≤ x4 ∧ x4 < 20) → CV k' Z y.1 → ∃ Z2 : Nat → Nat → Int, MB m Z2 ∧ PF Z Z2 ∧ den none (Mean (d + 9)) (some .int) tQ_X11_cut (40, [some (.ref 140), some (.int (i32 (k' : Int))), some (.int (i32 ((qcut m k' : Nat) : Int))), some (.int (i32 (oth : Int))), some (.int (i32 x4)), some (.int (i32 (x5 : Int)))], [], 176, zs y.1, y.2, RP p0 p1 p2 p3 p4 p5 p6 p7) = some (some (.int (i32 x4)), (176, zs Z2, y.2, RP p0 p1 p2 p3 p4 p5 p6 p7)) := fun x4 x5 y hx hx5 hx4 hv => by
      obtain ⟨Z2, e1, e2, e3⟩ := ct_end (d := d) (J := y.2) (p0 := p0) (p1 := p1) (p2 := p2) (p3 := p3) (p4 := p4) (p5 := p5) (p6 := p6) (p7 := p7) h hkP hv (i32 (oth : Int)) (i32 x4) (i32 (x5 : Int))
      refine ⟨Z2, e1, e2, ?_⟩
      rw [k_X11_cut_40]
      by_cases c9 : 9 < x5
      · simp (disch := omega) only [k_X11_cut_0, k_X11_cut_5, k_X11_cut_8, k_X11_cut_11, k_X11_cut_17, k_X11_cut_26, k_X11_cut_36, k_X11_cut_47, k_X11_cut_53, k_X11_cut_65, k_X11_cut_68, k_X11_cut_76, k_X11_cut_80, k_X11_cut_84, k_X11_cut_88, k_X11_cut_91, k_X11_cut_95, k_X11_cut_108, k_X11_cut_112, li_0, li_1, li_2, li_3, li_4, li_5, li_6, li_9, li_10, li_40, lm_1, lm_2, lm_3, lm_4, zs_ap, i32_add, i32_sub, i32_mul, i32_neg, i32_lt, i32_le, i32_eq, i32_nat, ckn, pka_r, pka_v, if_pos, if_neg, if_true, if_false]
        exact e3
      · simp (disch := omega) only [k_X11_cut_0, k_X11_cut_5, k_X11_cut_8, k_X11_cut_11, k_X11_cut_17, k_X11_cut_26, k_X11_cut_36, k_X11_cut_47, k_X11_cut_53, k_X11_cut_65, k_X11_cut_68, k_X11_cut_76, k_X11_cut_80, k_X11_cut_84, k_X11_cut_88, k_X11_cut_91, k_X11_cut_95, k_X11_cut_108, k_X11_cut_112, li_0, li_1, li_2, li_3, li_4, li_5, li_6, li_9, li_10, li_40, lm_1, lm_2, lm_3, lm_4, zs_ap, i32_add, i32_sub, i32_mul, i32_neg, i32_lt, i32_le, i32_eq, i32_nat, ckn, pka_r, pka_v, if_pos, if_neg, if_true, if_false]
        exact e3
    have key := srchV (fun (j : Nat) (y : (Nat → Nat → Int) × (Nat → Nat → Int64)) => den none (Mean (d + 9)) (some .int) tQ_X11_cut (40, [some (.ref 140), some (.int (i32 (k' : Int))), some (.int (i32 ((qcut m k' : Nat) : Int))), some (.int (i32 (oth : Int))), some (.int (i32 (-1))), some (.int (i32 ((qkept m k' + 1 + j : Nat) : Int)))], [], 176, zs y.1, y.2, RP p0 p1 p2 p3 p4 p5 p6 p7)) (fun y => CV k' Z y.1 ∧ ∀ a : Nat, a ≠ 162 → a ≠ 163 → y.2 a = J a) (pCut m k') (9 - qkept m k') (fun j r => ∃ (Z' : Nat → Nat → Int) (J' : Nat → Nat → Int64), (∀ a : Nat, a ≠ 162 → a ≠ 163 → J' a = J a) ∧ MB m Z' ∧ PF Z Z' ∧ r = some (some (.int (i32 ((qkept m k' + 1 + j : Nat) : Int))), (176, zs Z', J', RP p0 p1 p2 p3 p4 p5 p6 p7))) (fun j y hj hy hp => ?_) (fun j y hj hy hp => ?_) (Z, J) ⟨⟨⟨fun _ _ _ _ _ _ => rfl, fun _ _ _ _ => rfl, fun _ _ => rfl⟩, h.1.2.2.1⟩, fun _ _ _ => rfl⟩
    · have e0 : Mean (d + 10) 216 [.ref 140, .int (i32 (k' : Int))] (176, zs Z, J, RP p0 p1 p2 p3 p4 p5 p6 p7) = den none (Mean (d + 9)) (some .int) tQ_X11_cut (40, [some (.ref 140), some (.int (i32 (k' : Int))), some (.int (i32 ((qcut m k' : Nat) : Int))), some (.int (i32 (oth : Int))), some (.int (i32 (-1))), some (.int (i32 ((qkept m k' + 1 + 0 : Nat) : Int)))], [], 176, zs Z, J, RP p0 p1 p2 p3 p4 p5 p6 p7) := by
        rw [e_X11_cut]
        simp (disch := omega) only [k_X11_cut_0, k_X11_cut_5, k_X11_cut_8, k_X11_cut_11, k_X11_cut_17, k_X11_cut_26, k_X11_cut_36, k_X11_cut_47, k_X11_cut_53, k_X11_cut_65, k_X11_cut_68, k_X11_cut_76, k_X11_cut_80, k_X11_cut_84, k_X11_cut_88, k_X11_cut_91, k_X11_cut_95, k_X11_cut_101, k_X11_cut_108, k_X11_cut_112, li_0, li_1, li_2, li_3, li_4, li_5, li_6, li_9, li_10, li_40, lm_1, lm_2, lm_3, lm_4, zs_ap, i32_add, i32_sub, i32_mul, i32_neg, i32_lt, i32_le, i32_eq, i32_nat, ckn, pka_r, pka_v, if_pos, if_neg, if_true, if_false, s_isPiece, bI_t, bI_f, h0, Int.toNat_natCast, hr, i32_div, hoth]
        rfl
      unfold aCut
      rw [if_pos c1, Int.toNat_natCast, e0]
      by_cases ca : anyN (pCut m k') (9 - qkept m k') = true
      · rw [if_pos ca]
        obtain ⟨Z', J', q1, q2, q3, q4⟩ := key.1 ca
        exact ⟨Z', J', q1, q2, q3, q4⟩
      · rw [if_neg ca]
        obtain ⟨y, q1, q2⟩ := key.2 (by simpa using ca)
        obtain ⟨Z2, e1, e2, e3⟩ := fn (-1) (qkept m k' + 1 + (9 - qkept m k')) y (fun _ => by omega) (by omega) (by omega) q1.1
        exact ⟨Z2, y.2, q1.2, e1, e2, q2.trans e3⟩
    · obtain ⟨Z1, J1⟩ := y
      obtain ⟨hv, hJ⟩ := hy
      simp only at hv hJ
      unfold pCut at hp
      rw [Bool.and_eq_true, decide_eq_true_iff] at hp
      have hw2 := acut_wf h.1.1 hkP (n := qkept m k' + 1 + j) (by omega) (by omega) hp.1
      obtain ⟨Z2, a1, a2, a3, a4⟩ := ct_place (d := d + 7) (J := J1) (p0 := p0) (p1 := p1) (p2 := p2) (p3 := p3) (p4 := p4) (p5 := p5) (p6 := p6) (p7 := p7) h hv hw2
      obtain ⟨J2, b1, b2, b3⟩ := g_work (d := d) (J := J1) (p0 := p0) (p1 := p1) (p2 := p2) (p3 := p3) (p4 := p4) (p5 := p5) (p6 := p6) (p7 := p7) a2.1 (MB_MX a2)
      have b4 := g_holds (d := d + 6) (J := J2) (p0 := p0) (p1 := p1) (p2 := p2) (p3 := p3) (p4 := p4) (p5 := p5) (p6 := p6) (p7 := p7) a2.1 b2
      have b5 : hld (acut m k' (qkept m k' + 1 + j)) (qbre m) (qbeg (acut m k' (qkept m k' + 1 + j))) (qtt (acut m k' (qkept m k' + 1 + j)) (qfst (acut m k' (qkept m k' + 1 + j)))) = true := hp.2
      rw [show qbre (acut m k' (qkept m k' + 1 + j)) = qbre m from rfl, b5, bBt] at b4
      obtain ⟨Z3, e1, e2, e3⟩ := fn ((qkept m k' + 1 + j : Nat) : Int) (qkept m k' + 1 + j + 1) (Z2, J2) (fun q => by omega) (by omega) (by omega) a1
      refine ⟨Z3, J2, fun a ha hb => (b1 a ha hb).trans (hJ a ha hb), e1, e2, ?_⟩
      have hlt : (oth : Int) * (((qkept m k' + 1 + j : Nat) : Int) + 1) ≤ 400 := by
        have := hp.1
        rw [hNn] at this
        have h9 : ((oth * (qkept m k' + 1 + j + 1) : Nat) : Int) ≤ 400 := by omega
        push_cast at h9 ⊢
        exact h9
      have hge : 0 ≤ (oth : Int) * (((qkept m k' + 1 + j : Nat) : Int) + 1) := Int.mul_nonneg (by omega) (by omega)
      refine Eq.trans ?_ e3
      rw [k_X11_cut_40]
      simp (disch := omega) only [k_X11_cut_0, k_X11_cut_5, k_X11_cut_8, k_X11_cut_11, k_X11_cut_17, k_X11_cut_26, k_X11_cut_36, k_X11_cut_47, k_X11_cut_53, k_X11_cut_65, k_X11_cut_68, k_X11_cut_76, k_X11_cut_80, k_X11_cut_84, k_X11_cut_88, k_X11_cut_91, k_X11_cut_95, k_X11_cut_101, k_X11_cut_108, k_X11_cut_112, li_0, li_1, li_2, li_3, li_4, li_5, li_6, li_9, li_10, li_40, lm_1, lm_2, lm_3, lm_4, zs_ap, i32_add, i32_sub, i32_mul, i32_neg, i32_lt, i32_le, i32_eq, i32_nat, ckn, pka_r, pka_v, if_pos, if_neg, if_true, if_false, li_400, Int.toNat_natCast, zs_u2, a4, b3, b4]
      rfl
    · obtain ⟨Z1, J1⟩ := y
      obtain ⟨hv, hJ⟩ := hy
      simp only at hv hJ
      unfold pCut at hp
      have hpe : ((oth * (qkept m k' + 1 + j + 1) : Nat) : Int) = (oth : Int) * (((qkept m k' + 1 + j : Nat) : Int) + 1) := by
        push_cast
        rfl
      have hub : oth * (qkept m k' + 1 + j + 1) ≤ 400 * 10 := Nat.mul_le_mul hothb (by omega)
      by_cases cN : qN (acut m k' (qkept m k' + 1 + j)) ≤ 400
      · rw [decide_eq_true cN, Bool.true_and] at hp
        have hw2 := acut_wf h.1.1 hkP (n := qkept m k' + 1 + j) (by omega) (by omega) cN
        obtain ⟨Z2, a1, a2, a3, a4⟩ := ct_place (d := d + 7) (J := J1) (p0 := p0) (p1 := p1) (p2 := p2) (p3 := p3) (p4 := p4) (p5 := p5) (p6 := p6) (p7 := p7) h hv hw2
        obtain ⟨J2, b1, b2, b3⟩ := g_work (d := d) (J := J1) (p0 := p0) (p1 := p1) (p2 := p2) (p3 := p3) (p4 := p4) (p5 := p5) (p6 := p6) (p7 := p7) a2.1 (MB_MX a2)
        have b4 := g_holds (d := d + 6) (J := J2) (p0 := p0) (p1 := p1) (p2 := p2) (p3 := p3) (p4 := p4) (p5 := p5) (p6 := p6) (p7 := p7) a2.1 b2
        have b5 : hld (acut m k' (qkept m k' + 1 + j)) (qbre m) (qbeg (acut m k' (qkept m k' + 1 + j))) (qtt (acut m k' (qkept m k' + 1 + j)) (qfst (acut m k' (qkept m k' + 1 + j)))) = false := hp
        rw [show qbre (acut m k' (qkept m k' + 1 + j)) = qbre m from rfl, b5, bBf] at b4
        refine ⟨(Z2, J2), ⟨a1, fun a ha hb => (b1 a ha hb).trans (hJ a ha hb)⟩, ?_⟩
        rw [hNn] at cN
        have hlt : 0 ≤ (oth : Int) * (((qkept m k' + 1 + j : Nat) : Int) + 1) ∧ (oth : Int) * (((qkept m k' + 1 + j : Nat) : Int) + 1) ≤ 400 := by omega
        rw [k_X11_cut_40]
        simp (disch := omega) only [k_X11_cut_0, k_X11_cut_5, k_X11_cut_8, k_X11_cut_11, k_X11_cut_17, k_X11_cut_26, k_X11_cut_36, k_X11_cut_47, k_X11_cut_53, k_X11_cut_65, k_X11_cut_68, k_X11_cut_76, k_X11_cut_80, k_X11_cut_84, k_X11_cut_88, k_X11_cut_91, k_X11_cut_95, k_X11_cut_101, k_X11_cut_108, k_X11_cut_112, li_0, li_1, li_2, li_3, li_4, li_5, li_6, li_9, li_10, li_40, lm_1, lm_2, lm_3, lm_4, zs_ap, i32_add, i32_sub, i32_mul, i32_neg, i32_lt, i32_le, i32_eq, i32_nat, ckn, pka_r, pka_v, if_pos, if_neg, if_true, if_false, li_400, Int.toNat_natCast, zs_u2, a4, b3, b4]
        rfl
      · refine ⟨(Z1, J1), ⟨hv, hJ⟩, ?_⟩
        rw [hNn] at cN
        have hlt : 400 < (oth : Int) * (((qkept m k' + 1 + j : Nat) : Int) + 1) ∧ (oth : Int) * (((qkept m k' + 1 + j : Nat) : Int) + 1) ≤ 4000 := by omega
        rw [k_X11_cut_40]
        simp (disch := omega) only [k_X11_cut_0, k_X11_cut_5, k_X11_cut_8, k_X11_cut_11, k_X11_cut_17, k_X11_cut_26, k_X11_cut_36, k_X11_cut_47, k_X11_cut_53, k_X11_cut_65, k_X11_cut_68, k_X11_cut_76, k_X11_cut_80, k_X11_cut_84, k_X11_cut_88, k_X11_cut_91, k_X11_cut_95, k_X11_cut_101, k_X11_cut_108, k_X11_cut_112, li_0, li_1, li_2, li_3, li_4, li_5, li_6, li_9, li_10, li_40, lm_1, lm_2, lm_3, lm_4, zs_ap, i32_add, i32_sub, i32_mul, i32_neg, i32_lt, i32_le, i32_eq, i32_nat, ckn, pka_r, pka_v, if_pos, if_neg, if_true, if_false, li_400]
        rfl
  · refine ⟨Z, J, fun _ _ _ => rfl, h, ⟨fun _ _ _ _ _ => rfl, fun _ _ _ _ => rfl⟩, ?_⟩
    unfold aCut
    rw [if_neg c1, e_X11_cut]
    simp (disch := omega) only [k_X11_cut_0, k_X11_cut_5, k_X11_cut_8, k_X11_cut_11, k_X11_cut_17, k_X11_cut_26, k_X11_cut_36, k_X11_cut_47, k_X11_cut_53, k_X11_cut_65, k_X11_cut_68, k_X11_cut_76, k_X11_cut_80, k_X11_cut_84, k_X11_cut_88, k_X11_cut_91, k_X11_cut_95, k_X11_cut_101, k_X11_cut_108, k_X11_cut_112, li_0, li_1, li_2, li_3, li_4, li_5, li_6, li_9, li_10, li_40, lm_1, lm_2, lm_3, lm_4, zs_ap, i32_add, i32_sub, i32_mul, i32_neg, i32_lt, i32_le, i32_eq, i32_nat, ckn, pka_r, pka_v, if_pos, if_neg, if_true, if_false, s_isPiece, bI_t, bI_f, h0]
end
