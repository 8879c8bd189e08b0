/-! THE MODEL'S edge -/
def awor (m : Mat) (k i : Nat) (v : Int) : Mat := (m.1, m.2.1, fun a j => if a = k ∧ j = i then v else m.2.2 a j)
theorem awor_id {m : Mat} {k i : Nat} : awor m k i (qwor m k i) = m := by
  unfold awor
  refine Prod.ext rfl (Prod.ext rfl ?_)
  funext a j
  simp only
  by_cases c : a = k ∧ j = i
  · rw [if_pos c, c.1, c.2]
  · rw [if_neg c]
theorem awor_bre {m : Mat} {k i : Nat} {v : Int} (hk : k < 6) : qbre (awor m k i v) = qbre m := by
  funext j
  exact if_neg (fun q => absurd q.1 (by omega))
theorem awor_pea {m : Mat} {k i : Nat} {v : Int} (hk : k < 6) : qpea (awor m k i v) = qpea m := by
  funext j
  exact if_neg (fun q => absurd q.1 (by omega))
/-! what does not look at worths -/
theorem c_cut {m m' : Mat} (e1 : m'.1 = m.1) (e2 : m'.2.1 = m.2.1) : qcut m' = qcut m := by
  show m'.2.1 1 = m.2.1 1
  rw [e2]
theorem c_pl {m m' : Mat} (e1 : m'.1 = m.1) (e2 : m'.2.1 = m.2.1) : ∀ n : Nat, qpl m' n = qpl m n
  | 0 => rfl
  | n + 1 => by rw [pl_succ, pl_succ, c_pl e1 e2 n, c_cut e1 e2]
theorem c_P {m m' : Mat} (e1 : m'.1 = m.1) (e2 : m'.2.1 = m.2.1) : qP m' = qP m := by
  show m'.1 1 = m.1 1
  rw [e1]
theorem c_S {m m' : Mat} (e1 : m'.1 = m.1) (e2 : m'.2.1 = m.2.1) : qS m' = qS m := by
  show m'.1 0 = m.1 0
  rw [e1]
theorem c_mode {m m' : Mat} (e1 : m'.1 = m.1) (e2 : m'.2.1 = m.2.1) : qmode m' = qmode m := by
  show m'.1 4 = m.1 4
  rw [e1]
theorem c_own {m m' : Mat} (e1 : m'.1 = m.1) (e2 : m'.2.1 = m.2.1) : qown m' = qown m := by
  show m'.2.1 0 = m.2.1 0
  rw [e2]
theorem c_N {m m' : Mat} (e1 : m'.1 = m.1) (e2 : m'.2.1 = m.2.1) : qN m' = qN m := by
  unfold qN
  rw [c_P e1 e2, c_pl e1 e2]
theorem c_dot {m m' : Mat} (e1 : m'.1 = m.1) (e2 : m'.2.1 = m.2.1) (g : Nat → Nat) : ∀ n : Nat, qdot m' g n = qdot m g n
  | 0 => rfl
  | n + 1 => by
    show qdot m' g n + qpl m' n * g n = qdot m g n + qpl m n * g n
    rw [c_dot e1 e2 g n, c_pl e1 e2]
theorem c_beg {m m' : Mat} (e1 : m'.1 = m.1) (e2 : m'.2.1 = m.2.1) : qbeg m' = qbeg m := by
  unfold qbeg
  rw [c_P e1 e2, c_cut e1 e2, c_dot e1 e2]
theorem c_fin {m m' : Mat} (e1 : m'.1 = m.1) (e2 : m'.2.1 = m.2.1) : qfin m' = qfin m := by
  unfold qfin
  rw [c_P e1 e2, c_dot e1 e2, show qkept m' = qkept m from by show m'.2.1 2 = m.2.1 2; rw [e2]]
theorem c_has {m m' : Mat} (e1 : m'.1 = m.1) (e2 : m'.2.1 = m.2.1) (s k : Nat) : qhas m' s k = qhas m s k := by
  unfold qhas
  rw [c_pl e1 e2, c_cut e1 e2]
theorem c_may {m m' : Mat} (e1 : m'.1 = m.1) (e2 : m'.2.1 = m.2.1) (s k q : Nat) : qmay m' s k q = qmay m s k q := by
  unfold qmay
  rw [c_has e1 e2, show qkept m' = qkept m from by show m'.2.1 2 = m.2.1 2; rw [e2], show qund m' = qund m from by show m'.2.1 3 = m.2.1 3; rw [e2], show qlump m' = qlump m from by show m'.1 3 = m.1 3; rw [e1]]
theorem c_tgB {m m' : Mat} (e1 : m'.1 = m.1) (e2 : m'.2.1 = m.2.1) (s : Nat) (f : Nat → Bool) : ∀ (j i g to : Nat), tgB m' s f j i g to = tgB m s f j i g to
  | 0, i, g, to => rfl
  | j + 1, i, g, to => by
    rw [tgB_s, tgB_s, c_tgB e1 e2 s f j, c_P e1 e2]
    congr 1
    apply anyN_congr
    intro k hk
    unfold tKp
    rw [c_own e1 e2]
    congr 1
    apply anyN_congr
    intro q hq
    unfold tQp
    rw [c_may e1 e2, c_pl e1 e2, c_tgB e1 e2 s f j]
theorem c_giv {m m' : Mat} (e1 : m'.1 = m.1) (e2 : m'.2.1 = m.2.1) (s k : Nat) (f : Nat → Bool) : giv m' s k f = giv m s k f := by
  unfold giv
  apply anyN_congr
  intro q hq
  rw [c_may e1 e2, c_pl e1 e2]
theorem c_next {m m' : Mat} (e1 : m'.1 = m.1) (e2 : m'.2.1 = m.2.1) (t : Nat) : qnext m' t = qnext m t := by
  unfold qnext
  rw [c_mode e1 e2, c_S e1 e2]
theorem c_onw {m m' : Mat} (e1 : m'.1 = m.1) (e2 : m'.2.1 = m.2.1) (f : Nat → Nat → Bool) (s t : Nat) : onw m' f s t = onw m f s t := by
  unfold onw givs
  rw [c_mode e1 e2, c_tgB e1 e2, c_S e1 e2, c_next e1 e2, c_P e1 e2, c_own e1 e2]
  congr 1
  congr 1
  · congr 1
    apply anyN_congr
    intro k hk
    rw [c_giv e1 e2]
  · apply anyN_congr
    intro k hk
    rw [c_giv e1 e2]
def wfT (m : Mat) : Prop := wf m ∧ ∀ k : Nat, k < qP m → ∀ i : Nat, i < qS m → -999 ≤ qwor m k i ∧ qwor m k i ≤ 999
theorem awor_wf {m : Mat} (hw : wf m) {k i : Nat} (hk : k < 6) {v : Int} (hv : -1100 ≤ v ∧ v ≤ 1100) : wf (awor m k i v) := by
  refine ⟨hw.1, hw.2.1, hw.2.2.1, fun k' hk' i' hi' => ?_, ?_, hw.2.2.2.2.2.1, by rw [c_N (m := m) (m' := awor m k i v) rfl rfl]; exact hw.2.2.2.2.2.2⟩
  · show -1100 ≤ (if k' = k ∧ i' = i then v else m.2.2 k' i') ∧ (if k' = k ∧ i' = i then v else m.2.2 k' i') ≤ 1100
    split
    · exact hv
    · exact hw.2.2.2.1 k' hk' i' hi'
  · rw [awor_bre hk, awor_pea hk]
    exact hw.2.2.2.2.1
def eM (m : Mat) (k i n : Nat) : Mat := awor m k i (qwor m k i + n)
def eH (m : Mat) (k i n : Nat) : Bool := hdm (eM m k i n) (qbre m)
theorem sf_stay {m m' : Mat} {b b' : Nat → Int} (hw : wf m) (e1 : m'.1 = m.1) (e2 : m'.2.1 = m.2.1) (hs : ∀ s n : Nat, s < qN m → n < 64 → qstay m' b' s n = qstay m b s n) : ∀ (n s t : Nat), n < 64 → s < qN m → sf m' b' n s t = sf m b n s t := by
  intro n
  induction n with
  | zero =>
    intro s t _ _
    unfold sf
    rw [c_fin e1 e2]
  | succ n ih =>
    intro s t hn hsN
    show ((!decide (s = qfin m') && qstay m' b' s (n + 1)) && onw m' (sf m' b' n) s t) = ((!decide (s = qfin m) && qstay m b s (n + 1)) && onw m (sf m b n) s t)
    rw [hs s (n + 1) hsN hn, c_fin e1 e2, c_onw e1 e2]
    congr 1
    exact onw_congr hw (fun u v hu _ => ih u v (by omega) (by omega)) (fun _ => ih s _ (by omega) hsN)
theorem eH_same {m : Mat} (hw : wf m) {k i n n' : Nat} (hk : k < 6) (hv : wf (eM m k i n)) (hs : ∀ s q : Nat, s < qN m → q < 64 → qstay (eM m k i n) (qbre m) s q = qstay (eM m k i n') (qbre m) s q) (hv' : wf (eM m k i n')) : eH m k i n = eH m k i n' := by
  unfold eH hdm hld
  have eb : qbeg (eM m k i n) = qbeg (eM m k i n') := c_beg (m := eM m k i n') (m' := eM m k i n) rfl rfl
  rw [eb]
  apply anyN_congr
  intro q hq
  refine sf_stay (m := eM m k i n') (m' := eM m k i n) hv' rfl rfl (fun s q hs' hq' => hs s q ?_ hq') q _ _ (by omega) (qbeg_lt _)
  rw [c_N (m := m) (m' := eM m k i n') rfl rfl] at hs'
  exact hs'
def pEdge (m : Mat) (k i n : Nat) : Bool := xor (eH m k i (n + 1)) (hdm m (qbre m))
def aEdge (m : Mat) (k i : Int) : Int := if (0 ≤ k ∧ k < qP m) ∧ (0 ≤ i ∧ i < qS m) then (if anyN (pEdge m k.toNat i.toNat) 60 then ((fstN (pEdge m k.toNat i.toNat) 60 + 1 : Nat) : Int) else -1) else -2
section
variable {d : Nat} {J : Nat → Nat → Int64} {Z : Nat → Nat → Int} {p0 p1 p2 p3 p4 p5 p6 p7 : Nat} {m : Mat} {b : Nat → Int}
/-- what a trial of a worth keeps -/
def EV (x : Nat) (Z Z1 : Nat → Nat → Int) : Prop := ((∀ a : Nat, a ≠ 140 → a ≠ 145 → a ≠ 158 → a ≠ 159 → a ≠ 160 → Z1 a = Z a) ∧ (∀ j : Nat, j ≠ 49 → j ≠ 50 → j ≠ 51 → Z1 140 j = Z 140 j) ∧ (∀ j : Nat, j ≠ x → Z1 145 j = Z 145 j)) ∧ mJk Z1
theorem EV_MR {k i : Nat} {v : Int} {Z1 : Nat → Nat → Int} (hw : wf m) (hk : k < qP m) (hi : i < qS m) (h : MR m Z) (hv : EV (3 * k + i) Z Z1) : MR (awor m k i v) (u2 Z1 145 (3 * k + i) v) := by
  obtain ⟨⟨v1, v2, v3⟩, v4⟩ := hv
  have hP := hw.2.1
  have hS := hw.1
  have e : ∀ a : Nat, a ≠ 145 → u2 Z1 145 (3 * k + i) v a = Z1 a := fun a ha => u2_ne ha
  unfold MR
  rw [e 140 (by decide), e 142 (by decide), e 143 (by decide), e 144 (by decide), e 148 (by decide), e 146 (by decide), e 147 (by decide), v2 10 (by decide) (by decide) (by decide), v2 11 (by decide) (by decide) (by decide), v2 12 (by decide) (by decide) (by decide), v2 13 (by decide) (by decide) (by decide), v2 14 (by decide) (by decide) (by decide), v2 15 (by decide) (by decide) (by decide), v2 24 (by decide) (by decide) (by decide), v1 142 (by decide) (by decide) (by decide) (by decide) (by decide), v1 143 (by decide) (by decide) (by decide) (by decide) (by decide), v1 144 (by decide) (by decide) (by decide) (by decide) (by decide), v1 148 (by decide) (by decide) (by decide) (by decide) (by decide), v1 146 (by decide) (by decide) (by decide) (by decide) (by decide), v1 147 (by decide) (by decide) (by decide) (by decide) (by decide), awor_bre (show k < 6 by omega), awor_pea (show k < 6 by omega)]
  refine ⟨h.1, h.2.1, fun k' hk' i' hi' => ?_, h.2.2.2⟩
  have hi3 : i' < 3 := by
    have : i' < qS m := hi'
    omega
  show _ = (if k' = k ∧ i' = i then v else m.2.2 k' i')
  by_cases c : k' = k ∧ i' = i
  · rw [if_pos c, c.1, c.2, u2s]
  · rw [if_neg c, u2f (by omega), v3 _ (by omega)]
    exact h.2.2.1 k' hk' i' hi'
theorem mJk_145 {x : Nat} {v : Int} {Z1 : Nat → Nat → Int} (hv : -2000 ≤ v ∧ v ≤ 2000) (h : mJk Z1) : mJk (u2 Z1 145 x v) := by
  unfold mJk
  rw [u2_ne (show 159 ≠ 145 by decide), u2_ne (show 142 ≠ 145 by decide), u2_ne (show 160 ≠ 145 by decide)]
  refine ⟨fun j hj => ?_, h.2⟩
  by_cases c : j = x
  · rw [c, u2s]
    exact hv
  · rw [u2f c]
    exact h.1 j hj
theorem ed_place (h : MB m Z) {k i : Nat} (hk : k < qP m) (hi : i < qS m) {v : Int} (hvb : -1100 ≤ v ∧ v ≤ 1100) {Z1 : Nat → Nat → Int} (hv : EV (3 * k + i) Z Z1) : ∃ Z2 : Nat → Nat → Int, EV (3 * k + i) Z Z2 ∧ MB (awor m k i v) Z2 ∧ (∀ a : Nat, a ≠ 140 → a ≠ 158 → a ≠ 159 → a ≠ 160 → Z2 a = u2 Z1 145 (3 * k + i) v a) ∧ Mean (d + 2) 170 [.ref 140] (176, zs (u2 Z1 145 (3 * k + i) v), J, RP p0 p1 p2 p3 p4 p5 p6 p7) = some (none, (176, zs Z2, J, RP p0 p1 p2 p3 p4 p5 p6 p7)) := by
  have hP := h.1.1.2.1
  have hw : wf (awor m k i v) := awor_wf h.1.1 (by omega) hvb
  obtain ⟨Z2, h1, h2, h3, h4, h5, h6⟩ := s_place (d := d) (J := J) (p0 := p0) (p1 := p1) (p2 := p2) (p3 := p3) (p4 := p4) (p5 := p5) (p6 := p6) (p7 := p7) hw (EV_MR h.1.1 hk hi h.1.2.1 hv) (mJk_145 (by omega) hv.2)
  refine ⟨Z2, ⟨⟨fun a a1 a2 a3 a4 a5 => ?_, fun j j1 j2 j3 => ?_, fun j hj => ?_⟩, h4⟩, ⟨⟨hw, h3, h4, h5⟩, fun i hi => ?_⟩, h1, h6⟩
  · rw [h1 a a1 a3 a4 a5, u2_ne a2]
    exact hv.1.1 a a1 a2 a3 a4 a5
  · rw [h2 j j1 j2 j3, u2a (by decide)]
    exact hv.1.2.1 j j1 j2 j3
  · rw [h1 145 (by decide) (by decide) (by decide) (by decide), u2f hj]
    exact hv.1.2.2 j hj
  · rw [h1 161 (by decide) (by decide) (by decide) (by decide), u2_ne (by decide), hv.1.1 161 (by decide) (by decide) (by decide) (by decide) (by decide)]
    exact h.2 i hi
theorem ed_end (h : MB m Z) {k i : Nat} (hk : k < qP m) (hi : i < qS m) {Z1 : Nat → Nat → Int} (hv : EV (3 * k + i) Z Z1) (x3 x4 x6 x7 : Int32) (o8 o9 : Option Value) : ∃ Z2 : Nat → Nat → Int, MB m Z2 ∧ PF Z Z2 ∧ den none (Mean (d + 9)) (some .int) tQ_X11_edge (199, [some (.ref 140), some (.int (i32 (k : Int))), some (.int (i32 (i : Int))), some (.int x3), some (.int x4), some (.int (i32 (qwor m k i))), some (.int x6), some (.int x7), o8, o9], [], 176, zs Z1, J, RP p0 p1 p2 p3 p4 p5 p6 p7) = some (some (.int x6), (176, zs Z2, J, RP p0 p1 p2 p3 p4 p5 p6 p7)) := by
  have hb := h.1.1.2.2.2.1 k hk i hi
  obtain ⟨Z2, h1, h2, h3, h4⟩ := ed_place (d := d + 7) (J := J) (p0 := p0) (p1 := p1) (p2 := p2) (p3 := p3) (p4 := p4) (p5 := p5) (p6 := p6) (p7 := p7) h hk hi hb hv
  rw [awor_id] at h2
  have h0 := MI_n h.1
  refine ⟨Z2, h2, ⟨fun a a1 a2 a3 a4 => ?_, h1.1.2.1⟩, ?_⟩
  · by_cases c : a = 145
    · subst c
      rw [h3 145 (by decide) (by decide) (by decide) (by decide)]
      funext j
      by_cases cj : j = 3 * k + i
      · subst cj
        rw [u2s, h.1.2.1.2.2.1 k hk i hi]
      · rw [u2f cj, hv.1.2.2 j cj]
    · exact h1.1.1 a a1 c a2 a3 a4
  · simp (disch := omega) only [k_X11_edge_0, k_X11_edge_5, k_X11_edge_8, k_X11_edge_13, k_X11_edge_16, k_X11_edge_19, k_X11_edge_23, k_X11_edge_27, k_X11_edge_41, k_X11_edge_56, k_X11_edge_62, k_X11_edge_74, k_X11_edge_87, k_X11_edge_88, k_X11_edge_94, k_X11_edge_109, k_X11_edge_113, k_X11_edge_117, k_X11_edge_132, k_X11_edge_137, k_X11_edge_144, k_X11_edge_151, k_X11_edge_155, k_X11_edge_159, k_X11_edge_160, k_X11_edge_168, k_X11_edge_173, k_X11_edge_177, k_X11_edge_181, k_X11_edge_183, k_X11_edge_189, k_X11_edge_193, k_X11_edge_199, k_X11_edge_211, k_X11_edge_215, li_0, li_1, li_2, li_3, li_4, li_5, li_6, li_9, li_10, li_40, lm_1, lm_2, lm_3, lm_4, zs_ap, i32_add, i32_sub, i32_mul, i32_neg, i32_lt, i32_le, i32_eq, i32_nat, ckn, pka_r, pka_v, if_pos, if_neg, if_true, if_false, show (3 * (k : Int) + (i : Int)).toNat = 3 * k + i by omega, zs_u2, h4]
theorem ed_copy {N : Nat} (hN : N ≤ 400) (hZ : Z 140 49 = N) (x1 x2 x3 x4 x5 x6 x7 : Int32) (o9 : Option Value) : ∃ J' : Nat → Nat → Int64, (∀ a : Nat, a ≠ 166 → J' a = J a) ∧ (∀ s : Nat, s < N → J' 166 s = J 163 s) ∧ den none (Mean d) (some .int) tQ_X11_edge (65, [some (.ref 140), some (.int x1), some (.int x2), some (.int x3), some (.int x4), some (.int x5), some (.int x6), some (.int x7), some (.int (i32 ((0 : Nat) : Int))), o9], [], 176, zs Z, J, RP p0 p1 p2 p3 p4 p5 p6 p7) = den none (Mean d) (some .int) tQ_X11_edge (94, [some (.ref 140), some (.int x1), some (.int x2), some (.int x3), some (.int x4), some (.int x5), some (.int x6), some (.int x7), some (.int (i32 (N : Int))), o9], [], 176, zs Z, J', RP p0 p1 p2 p3 p4 p5 p6 p7) := by
  obtain ⟨J', v, e⟩ := up_inv (fun (s : Nat) (J : Nat → Nat → Int64) => den none (Mean d) (some .int) tQ_X11_edge (65, [some (.ref 140), some (.int x1), some (.int x2), some (.int x3), some (.int x4), some (.int x5), some (.int x6), some (.int x7), some (.int (i32 (s : Int))), o9], [], 176, zs Z, J, RP p0 p1 p2 p3 p4 p5 p6 p7)) N (fun s J' => (∀ a : Nat, a ≠ 166 → J' a = J a) ∧ ∀ t : Nat, t < s → J' 166 t = J 163 t) (fun s J1 hs hv => by
    refine ⟨u2 J1 166 s (J1 163 s), ⟨fun a ha => (u2_ne ha).trans (hv.1 a ha), fun t ht => ?_⟩, ?_⟩
    · by_cases c : t = s
      · rw [c, u2s, hv.1 163 (by decide)]
      · rw [u2f c]
        exact hv.2 t (by omega)
    · rw [k_X11_edge_65]
      simp (disch := omega) only [k_X11_edge_0, k_X11_edge_5, k_X11_edge_8, k_X11_edge_13, k_X11_edge_16, k_X11_edge_19, k_X11_edge_23, k_X11_edge_27, k_X11_edge_41, k_X11_edge_56, k_X11_edge_62, k_X11_edge_74, k_X11_edge_87, k_X11_edge_88, k_X11_edge_109, k_X11_edge_113, k_X11_edge_117, k_X11_edge_132, k_X11_edge_137, k_X11_edge_144, k_X11_edge_151, k_X11_edge_155, k_X11_edge_159, k_X11_edge_160, k_X11_edge_168, k_X11_edge_173, k_X11_edge_177, k_X11_edge_181, k_X11_edge_183, k_X11_edge_189, k_X11_edge_193, k_X11_edge_199, k_X11_edge_211, k_X11_edge_215, li_0, li_1, li_2, li_3, li_4, li_5, li_6, li_9, li_10, li_40, lm_1, lm_2, lm_3, lm_4, zs_ap, i32_add, i32_sub, i32_mul, i32_neg, i32_lt, i32_le, i32_eq, i32_nat, ckn, pka_r, pka_v, if_pos, if_neg, if_true, if_false, hZ, Int.toNat_natCast]
      rfl) J ⟨fun _ _ => rfl, fun t ht => absurd ht (by omega)⟩
  refine ⟨J', v.1, v.2, e.trans ?_⟩
  rw [k_X11_edge_65]
  simp (disch := omega) only [k_X11_edge_0, k_X11_edge_5, k_X11_edge_8, k_X11_edge_13, k_X11_edge_16, k_X11_edge_19, k_X11_edge_23, k_X11_edge_27, k_X11_edge_41, k_X11_edge_56, k_X11_edge_62, k_X11_edge_74, k_X11_edge_87, k_X11_edge_88, k_X11_edge_109, k_X11_edge_113, k_X11_edge_117, k_X11_edge_132, k_X11_edge_137, k_X11_edge_144, k_X11_edge_151, k_X11_edge_155, k_X11_edge_159, k_X11_edge_160, k_X11_edge_168, k_X11_edge_173, k_X11_edge_177, k_X11_edge_181, k_X11_edge_183, k_X11_edge_189, k_X11_edge_193, k_X11_edge_199, k_X11_edge_211, k_X11_edge_215, li_0, li_1, li_2, li_3, li_4, li_5, li_6, li_9, li_10, li_40, lm_1, lm_2, lm_3, lm_4, zs_ap, i32_add, i32_sub, i32_mul, i32_neg, i32_lt, i32_le, i32_eq, i32_nat, ckn, pka_r, pka_v, if_pos, if_neg, if_true, if_false, hZ]
theorem ed_cmp {N : Nat} (hN : N ≤ 400) (hZ : Z 140 49 = N) (x1 x2 x3 x4 x5 x6 x7 : Int32) : ∃ (c : Bool) (o9 : Int32), (c = true ↔ ∀ s : Nat, s < N → J 163 s = J 166 s) ∧ den none (Mean d) (some .int) tQ_X11_edge (123, [some (.ref 140), some (.int x1), some (.int x2), some (.int x3), some (.int x4), some (.int x5), some (.int x6), some (.int x7), some (.int (i32 1)), some (.int (i32 ((0 : Nat) : Int)))], [], 176, zs Z, J, RP p0 p1 p2 p3 p4 p5 p6 p7) = den none (Mean d) (some .int) tQ_X11_edge (168, [some (.ref 140), some (.int x1), some (.int x2), some (.int x3), some (.int x4), some (.int x5), some (.int x6), some (.int x7), some (.int (i32 (bB c))), some (.int o9)], [], 176, zs Z, J, RP p0 p1 p2 p3 p4 p5 p6 p7) := by
  have key := srchV (fun (s : Nat) (_ : Unit) => den none (Mean d) (some .int) tQ_X11_edge (123, [some (.ref 140), some (.int x1), some (.int x2), some (.int x3), some (.int x4), some (.int x5), some (.int x6), some (.int x7), some (.int (i32 1)), some (.int (i32 (s : Int)))], [], 176, zs Z, J, RP p0 p1 p2 p3 p4 p5 p6 p7)) (fun _ => True) (fun s => decide (J 163 s ≠ J 166 s)) N (fun s r => r = den none (Mean d) (some .int) tQ_X11_edge (168, [some (.ref 140), some (.int x1), some (.int x2), some (.int x3), some (.int x4), some (.int x5), some (.int x6), some (.int x7), some (.int (i32 0)), some (.int (i32 ((s + 1 : Nat) : Int)))], [], 176, zs Z, J, RP p0 p1 p2 p3 p4 p5 p6 p7)) (fun s _ hs _ hp => ?_) (fun s _ hs _ hp => ?_) () trivial
  · cases ca : anyN (fun s => decide (J 163 s ≠ J 166 s)) N
    · obtain ⟨_, _, e⟩ := key.2 ca
      refine ⟨true, i32 (N : Int), ⟨fun _ s hs => ?_, fun _ => rfl⟩, e.trans ?_⟩
      · have := anyN_none ca hs
        simpa using this
      · rw [k_X11_edge_123]
        simp (disch := omega) only [k_X11_edge_0, k_X11_edge_5, k_X11_edge_8, k_X11_edge_13, k_X11_edge_16, k_X11_edge_19, k_X11_edge_23, k_X11_edge_27, k_X11_edge_41, k_X11_edge_56, k_X11_edge_62, k_X11_edge_74, k_X11_edge_87, k_X11_edge_88, k_X11_edge_94, k_X11_edge_109, k_X11_edge_113, k_X11_edge_117, k_X11_edge_132, k_X11_edge_137, k_X11_edge_144, k_X11_edge_151, k_X11_edge_155, k_X11_edge_159, k_X11_edge_160, k_X11_edge_173, k_X11_edge_177, k_X11_edge_181, k_X11_edge_183, k_X11_edge_189, k_X11_edge_193, k_X11_edge_199, k_X11_edge_211, k_X11_edge_215, li_0, li_1, li_2, li_3, li_4, li_5, li_6, li_9, li_10, li_40, lm_1, lm_2, lm_3, lm_4, zs_ap, i32_add, i32_sub, i32_mul, i32_neg, i32_lt, i32_le, i32_eq, i32_nat, ckn, pka_r, pka_v, if_pos, if_neg, if_true, if_false, hZ, bBt]
    · have e := key.1 ca
      refine ⟨false, _, ⟨(fun q => nomatch q), fun q => ?_⟩, e⟩
      obtain ⟨s, h1, h2⟩ := (anyN_iff N).mp ca
      exact absurd (q s h1) (of_decide_eq_true h2)
  · have hne : J 163 s ≠ J 166 s := of_decide_eq_true hp
    rw [k_X11_edge_123]
    simp (disch := omega) only [k_X11_edge_0, k_X11_edge_5, k_X11_edge_8, k_X11_edge_13, k_X11_edge_16, k_X11_edge_19, k_X11_edge_23, k_X11_edge_27, k_X11_edge_41, k_X11_edge_56, k_X11_edge_62, k_X11_edge_74, k_X11_edge_87, k_X11_edge_88, k_X11_edge_94, k_X11_edge_109, k_X11_edge_113, k_X11_edge_117, k_X11_edge_132, k_X11_edge_137, k_X11_edge_144, k_X11_edge_151, k_X11_edge_155, k_X11_edge_159, k_X11_edge_160, k_X11_edge_173, k_X11_edge_177, k_X11_edge_181, k_X11_edge_183, k_X11_edge_189, k_X11_edge_193, k_X11_edge_199, k_X11_edge_211, k_X11_edge_215, li_0, li_1, li_2, li_3, li_4, li_5, li_6, li_9, li_10, li_40, lm_1, lm_2, lm_3, lm_4, zs_ap, i32_add, i32_sub, i32_mul, i32_neg, i32_lt, i32_le, i32_eq, i32_nat, ckn, pka_r, pka_v, if_pos, if_neg, if_true, if_false, hZ, Int.toNat_natCast, cmp_z, hne]
    rw [k_X11_edge_123]
    by_cases c : N ≤ s + 1
    · simp (disch := omega) only [k_X11_edge_0, k_X11_edge_5, k_X11_edge_8, k_X11_edge_13, k_X11_edge_16, k_X11_edge_19, k_X11_edge_23, k_X11_edge_27, k_X11_edge_41, k_X11_edge_56, k_X11_edge_62, k_X11_edge_74, k_X11_edge_87, k_X11_edge_88, k_X11_edge_94, k_X11_edge_109, k_X11_edge_113, k_X11_edge_117, k_X11_edge_132, k_X11_edge_137, k_X11_edge_144, k_X11_edge_151, k_X11_edge_155, k_X11_edge_159, k_X11_edge_160, k_X11_edge_173, k_X11_edge_177, k_X11_edge_181, k_X11_edge_183, k_X11_edge_189, k_X11_edge_193, k_X11_edge_199, k_X11_edge_211, k_X11_edge_215, li_0, li_1, li_2, li_3, li_4, li_5, li_6, li_9, li_10, li_40, lm_1, lm_2, lm_3, lm_4, zs_ap, i32_add, i32_sub, i32_mul, i32_neg, i32_lt, i32_le, i32_eq, i32_nat, ckn, pka_r, pka_v, if_pos, if_neg, if_true, if_false, hZ]
      rfl
    · simp (disch := omega) only [k_X11_edge_0, k_X11_edge_5, k_X11_edge_8, k_X11_edge_13, k_X11_edge_16, k_X11_edge_19, k_X11_edge_23, k_X11_edge_27, k_X11_edge_41, k_X11_edge_56, k_X11_edge_62, k_X11_edge_74, k_X11_edge_87, k_X11_edge_88, k_X11_edge_94, k_X11_edge_109, k_X11_edge_113, k_X11_edge_117, k_X11_edge_132, k_X11_edge_137, k_X11_edge_144, k_X11_edge_151, k_X11_edge_155, k_X11_edge_159, k_X11_edge_160, k_X11_edge_173, k_X11_edge_177, k_X11_edge_181, k_X11_edge_183, k_X11_edge_189, k_X11_edge_193, k_X11_edge_199, k_X11_edge_211, k_X11_edge_215, li_0, li_1, li_2, li_3, li_4, li_5, li_6, li_9, li_10, li_40, lm_1, lm_2, lm_3, lm_4, zs_ap, i32_add, i32_sub, i32_mul, i32_neg, i32_lt, i32_le, i32_eq, i32_nat, ckn, pka_r, pka_v, if_pos, if_neg, if_true, if_false, hZ]
      rfl
  · have heq : J 163 s = J 166 s := by simpa using hp
    refine ⟨(), trivial, ?_⟩
    rw [k_X11_edge_123]
    simp (disch := omega) only [k_X11_edge_0, k_X11_edge_5, k_X11_edge_8, k_X11_edge_13, k_X11_edge_16, k_X11_edge_19, k_X11_edge_23, k_X11_edge_27, k_X11_edge_41, k_X11_edge_56, k_X11_edge_62, k_X11_edge_74, k_X11_edge_87, k_X11_edge_88, k_X11_edge_94, k_X11_edge_109, k_X11_edge_113, k_X11_edge_117, k_X11_edge_132, k_X11_edge_137, k_X11_edge_144, k_X11_edge_151, k_X11_edge_155, k_X11_edge_159, k_X11_edge_160, k_X11_edge_173, k_X11_edge_177, k_X11_edge_181, k_X11_edge_183, k_X11_edge_189, k_X11_edge_193, k_X11_edge_199, k_X11_edge_211, k_X11_edge_215, li_0, li_1, li_2, li_3, li_4, li_5, li_6, li_9, li_10, li_40, lm_1, lm_2, lm_3, lm_4, zs_ap, i32_add, i32_sub, i32_mul, i32_neg, i32_lt, i32_le, i32_eq, i32_nat, ckn, pka_r, pka_v, if_pos, if_neg, if_true, if_false, hZ, Int.toNat_natCast, cmp_z, heq]
    rfl
end
