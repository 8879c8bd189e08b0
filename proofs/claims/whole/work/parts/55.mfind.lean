/-! THE MODEL'S find -/
def stp (m : Mat) (b : Nat → Int) (n s t : Nat) : Nat := if qmode m = 2 then chN m s (fun u => sf m b n u 0) (qS m) 0 0 s else oN m (sf m b n) s t
def stG (m : Mat) (b : Nat → Int) (n s t i : Nat) : Int := if qmode m = 2 then chG m s (fun u => sf m b n u 0) (qS m) 0 0 s i else oG m (sf m b n) s t i
def rwT (m : Mat) (t : Nat) : Nat → Nat
  | 0 => t
  | k + 1 => qnext m (rwT m t k)
def rwS (m : Mat) (b : Nat → Int) (n s t : Nat) : Nat → Nat
  | 0 => s
  | k + 1 => stp m b (n - 1 - k) (rwS m b n s t k) (rwT m t k)
def rwG (m : Mat) (b : Nat → Int) (n s t k i : Nat) : Int := stG m b (n - 1 - k) (rwS m b n s t k) (rwT m t k) i
theorem chN_f {m : Mat} {s : Nat} {f : Nat → Bool} : ∀ (j i g to : Nat), tgB m s f j i g to = true → f (chN m s f j i g to) = true
  | 0, i, g, to, h => by
    unfold tgB at h
    rw [Bool.and_eq_true] at h
    exact h.2
  | j + 1, i, g, to, h => by
    unfold chN
    rw [tgB_s] at h
    cases c : tgB m s f j (i + 1) g to
    · rw [if_neg Bool.false_ne_true]
      rw [c, Bool.false_or] at h
      obtain ⟨h1, h2, _⟩ := fstN_lt (qP m) h
      unfold tKp at h2
      rw [Bool.and_eq_true] at h2
      obtain ⟨g1, g2, _⟩ := fstN_lt 9 h2.2
      unfold tQp at g2
      rw [Bool.and_eq_true] at g2
      exact chN_f j (i + 1) (g + 1) _ g2.2
    · rw [if_pos rfl]
      exact chN_f j (i + 1) g to c
theorem stp_f {m : Mat} {b : Nat → Int} {n s t : Nat} (h : onw m (sf m b n) s t = true) : sf m b n (stp m b n s t) (qnext m t) = true := by
  unfold stp
  by_cases c2 : qmode m = 2
  · rw [if_pos c2]
    unfold onw at h
    rw [if_pos c2] at h
    have := chN_f _ _ _ _ h
    unfold qnext
    rw [if_neg (by omega)]
    exact this
  · rw [if_neg c2]
    unfold oN
    cases cw : owt m (sf m b n) s t
    · rw [if_neg Bool.false_ne_true]
      exact (gK_ok (onw_o c2 h cw)).2.2.2.2
    · rw [if_pos rfl]
      unfold owt at cw
      rw [Bool.and_eq_true] at cw
      exact cw.2
theorem stp_le {m : Mat} {b : Nat → Int} {n s t : Nat} : stp m b n s t ≤ s := by
  unfold stp
  split
  · exact chN_le _ _ _ _ _ _ _
  · unfold oN
    split
    · exact Nat.le_refl _
    · exact Nat.sub_le _ _
theorem sf_onw {m : Mat} {b : Nat → Int} {n s t : Nat} (h : sf m b (n + 1) s t = true) : onw m (sf m b n) s t = true := by
  unfold sf at h
  rw [Bool.and_eq_true] at h
  exact h.2
theorem rwT_lt {m : Mat} (hw : wf m) {t : Nat} (ht : t < qturns m) : ∀ k : Nat, rwT m t k < qturns m
  | 0 => ht
  | k + 1 => next_tn hw _
theorem rw_sf {m : Mat} {b : Nat → Int} {n s t : Nat} (h : sf m b n s t = true) : ∀ k : Nat, k ≤ n → sf m b (n - k) (rwS m b n s t k) (rwT m t k) = true ∧ rwS m b n s t k ≤ s
  | 0, _ => ⟨h, Nat.le_refl _⟩
  | k + 1, hk => by
    obtain ⟨h1, h2⟩ := rw_sf h k (by omega)
    rw [show n - k = (n - 1 - k) + 1 by omega] at h1
    have h3 := stp_f (sf_onw h1)
    rw [show n - (k + 1) = n - 1 - k by omega]
    exact ⟨h3, Nat.le_trans stp_le h2⟩
/-- the row that lies in the model's rows -/
def RW (m : Mat) (b : Nat → Int) (n s t : Nat) (Z : Nat → Nat → Int) : Prop := Z 140 60 = n ∧ (∀ k : Nat, k ≤ n → Z 165 k = rwS m b n s t k) ∧ (∀ k i : Nat, k < n → i < qS m → Z 164 (3 * k + i) = rwG m b n s t k i)
/-- all but a row is as it was -/
def XF (Z Z' : Nat → Nat → Int) : Prop := (∀ a : Nat, a ≠ 140 → a ≠ 164 → a ≠ 165 → Z' a = Z a) ∧ ∀ j : Nat, j ≠ 60 → Z' 140 j = Z 140 j
theorem XF_MI {m : Mat} {Z Z' : Nat → Nat → Int} (h : MI m Z) (hx : XF Z Z') : MI m Z' := MI_fr h (fun j hj => hx.2 j (by omega)) (fun a ha hb => hx.1 a (by omega) (by omega) (by omega))
theorem XF_tr {Z1 Z2 Z3 : Nat → Nat → Int} (h1 : XF Z1 Z2) (h2 : XF Z2 Z3) : XF Z1 Z3 := ⟨fun a ha hb hc => (h2.1 a ha hb hc).trans (h1.1 a ha hb hc), fun j hj => (h2.2 j hj).trans (h1.2 j hj)⟩
theorem XF_164 {Z1 Z2 : Nat → Nat → Int} {x : Nat} {v : Int} (h1 : XF Z1 Z2) : XF Z1 (u2 Z2 164 x v) := ⟨fun a ha hb hc => (u2_ne hb).trans (h1.1 a ha hb hc), fun j hj => (u2a (by decide)).trans (h1.2 j hj)⟩
theorem XF_165 {Z1 Z2 : Nat → Nat → Int} {x : Nat} {v : Int} (h1 : XF Z1 Z2) : XF Z1 (u2 Z2 165 x v) := ⟨fun a ha hb hc => (u2_ne hc).trans (h1.1 a ha hb hc), fun j hj => (u2a (by decide)).trans (h1.2 j hj)⟩
section
variable {d : Nat} {J : Nat → Nat → Int64} {p0 p1 p2 p3 p4 p5 p6 p7 : Nat} {m : Mat} {b : Nat → Int}
theorem fd_step {Z : Nat → Nat → Int} (h : MI m Z) (hk : WK m b J) {s t st n : Nat} (hs : s < qN m) (ht : t < qturns m) (hst : st < 40) (hn : n < 64) (ho : onw m (sf m b n) s t = true) (hg : ∀ i : Nat, i < qS m → Z 164 (3 * st + i) = -1) (hz : Z 165 st = (s : Int)) (x1 x2 : Int32) (hN : n + st < 64) (x6 : Int32) :
    ∃ Z' : Nat → Nat → Int, (XF Z Z' ∧ Z' 140 60 = Z 140 60) ∧ (∀ x : Nat, x ≠ st + 1 → Z' 165 x = Z 165 x) ∧ Z' 165 (st + 1) = ((stp m b n s t : Nat) : Int) ∧ (∀ x : Nat, (x < 3 * st ∨ 3 * st + qS m ≤ x) → Z' 164 x = Z 164 x) ∧ (∀ i : Nat, i < qS m → Z' 164 (3 * st + i) = stG m b n s t i) ∧
    den none (Mean (d + 9)) (some .int) tQ_X11_find (96, [some (.ref 140), some (.int x1), some (.int x2), some (.int (i32 ((n + 1 + st : Nat) : Int))), some (.int (i32 (t : Int))), some (.int (i32 (st : Int))), some (.int x6)], [], 176, zs Z, J, RP p0 p1 p2 p3 p4 p5 p6 p7) = den none (Mean (d + 9)) (some .int) tQ_X11_find (62, [some (.ref 140), some (.int x1), some (.int x2), some (.int (i32 ((n + 1 + st : Nat) : Int))), some (.int (i32 ((qnext m t : Nat) : Int))), some (.int (i32 ((st + 1 : Nat) : Int))), some (.int x6)], [], 176, zs Z', J, RP p0 p1 p2 p3 p4 p5 p6 p7) := by
  have h0 := MI_n h
  have h1 := h.2.1.1
  have htl := turns_le h.1
  have hmd := h.1.2.2.2.2.2.1
  have hsl := stp_le (m := m) (b := b) (n := n) (s := s) (t := t)
  have en : ((n + 1 + st : Nat) : Int) - 1 - (st : Int) = (n : Int) := by omega
  have ea : ((st : Int) + 1).toNat = st + 1 := by omega
  by_cases c2 : qmode m = 2
  · have ho' := ho
    unfold onw at ho'
    rw [if_pos c2] at ho'
    obtain ⟨Z1, a1, a2, a3⟩ := g_chosen (d := d + (3 - qS m) + 3) (J := J) (p0 := p0) (p1 := p1) (p2 := p2) (p3 := p3) (p4 := p4) (p5 := p5) (p6 := p6) (p7 := p7) hs hst hn c2 hk (qS m) 0 0 s Z h (by omega) (by omega) hs (fun _ _ _ => rfl)
    rw [show d + (3 - qS m) + 3 + qS m + 3 = d + 9 by omega, ho', if_pos rfl] at a3
    have et : t = 0 := by
      unfold qturns at ht
      rw [if_neg (by omega)] at ht
      omega
    have hx1 : XF Z Z1 := ⟨fun a _ hb _ => a1.1 a hb, fun j _ => by rw [a1.1 140 (by decide)]⟩
    have hM1 := XF_MI h hx1
    refine ⟨u2 Z1 165 (st + 1) ((stp m b n s t : Nat) : Int), ⟨XF_165 hx1, by rw [u2a (by decide), a1.1 140 (by decide)]⟩, fun x hx => ?_, u2s, fun x hx => ?_, fun i hi => ?_, ?_⟩
    · rw [u2f hx, a1.1 165 (by decide)]
    · rw [u2a (by decide)]
      exact a1.2 x (by omega)
    · rw [u2a (by decide), a2 ho' i (by omega) hi]
      unfold stG
      rw [if_pos c2]
    · rw [k_X11_find_96]
      have es : stp m b n s t = chN m s (fun u => sf m b n u 0) (qS m) 0 0 s := by
        unfold stp
        rw [if_pos c2]
      simp (disch := omega) only [k_X11_find_0, k_X11_find_5, k_X11_find_8, k_X11_find_13, k_X11_find_16, k_X11_find_19, k_X11_find_23, k_X11_find_29, k_X11_find_32, k_X11_find_38, k_X11_find_40, k_X11_find_52, k_X11_find_57, k_X11_find_68, k_X11_find_77, k_X11_find_90, k_X11_find_96, k_X11_find_112, k_X11_find_120, k_X11_find_137, k_X11_find_140, k_X11_find_143, k_X11_find_151, k_X11_find_164, k_X11_find_165, k_X11_find_171, k_X11_find_179, li_0, li_1, li_2, li_3, li_4, li_5, li_6, li_9, li_10, li_40, lm_1, lm_2, lm_3, lm_4, zs_ap, i32_add, i32_sub, i32_mul, i32_neg, i32_lt, i32_le, i32_eq, i32_nat, ckn, pka_r, pka_v, if_pos, if_neg, if_true, if_false, h1, c2, Int.toNat_natCast, hz, en]
      refine (congrArg (fun o => pka o _ _) a3).trans ?_
      rw [es] at hsl ⊢
      simp (disch := omega) only [k_X11_find_0, k_X11_find_5, k_X11_find_8, k_X11_find_13, k_X11_find_16, k_X11_find_19, k_X11_find_23, k_X11_find_29, k_X11_find_32, k_X11_find_38, k_X11_find_40, k_X11_find_52, k_X11_find_57, k_X11_find_68, k_X11_find_77, k_X11_find_90, k_X11_find_96, k_X11_find_112, k_X11_find_120, k_X11_find_137, k_X11_find_140, k_X11_find_143, k_X11_find_151, k_X11_find_164, k_X11_find_165, k_X11_find_171, k_X11_find_179, li_0, li_1, li_2, li_3, li_4, li_5, li_6, li_9, li_10, li_40, lm_1, lm_2, lm_3, lm_4, zs_ap, i32_add, i32_sub, i32_mul, i32_neg, i32_lt, i32_le, i32_eq, i32_nat, ckn, pka_r, pka_v, if_pos, if_neg, if_true, if_false, ea, zs_u2]
      have hM2 := XF_MI h (XF_165 (x := st + 1) (v := ((chN m s (fun u => sf m b n u 0) (qS m) 0 0 s : Nat) : Int)) hx1)
      simp (disch := omega) only [k_X11_find_0, k_X11_find_5, k_X11_find_8, k_X11_find_13, k_X11_find_16, k_X11_find_19, k_X11_find_23, k_X11_find_29, k_X11_find_32, k_X11_find_38, k_X11_find_40, k_X11_find_52, k_X11_find_57, k_X11_find_68, k_X11_find_77, k_X11_find_90, k_X11_find_96, k_X11_find_112, k_X11_find_120, k_X11_find_137, k_X11_find_140, k_X11_find_143, k_X11_find_151, k_X11_find_164, k_X11_find_165, k_X11_find_171, k_X11_find_179, li_0, li_1, li_2, li_3, li_4, li_5, li_6, li_9, li_10, li_40, lm_1, lm_2, lm_3, lm_4, zs_ap, i32_add, i32_sub, i32_mul, i32_neg, i32_lt, i32_le, i32_eq, i32_nat, ckn, pka_r, pka_v, if_pos, if_neg, if_true, if_false, g_next hM2]
      rfl
  · have g1 := g_one (d := d + 6) (J := J) (p0 := p0) (p1 := p1) (p2 := p2) (p3 := p3) (p4 := p4) (p5 := p5) (p6 := p6) (p7 := p7) h hk hs ht hst hn c2 ho
    have es : stp m b n s t = oN m (sf m b n) s t := by
      unfold stp
      rw [if_neg c2]
    have eg : ∀ i : Nat, stG m b n s t i = oG m (sf m b n) s t i := fun i => by
      unfold stG
      rw [if_neg c2]
    generalize hZ1 : (if owt m (sf m b n) s t then Z else u2 Z 164 (3 * st + qown m (gK m s (osel m t) (fun u => sf m b n u (qnext m t)))) ((10 * gK m s (osel m t) (fun u => sf m b n u (qnext m t)) + gQ m s (osel m t) (fun u => sf m b n u (qnext m t)) : Nat) : Int)) = Z1 at g1
    have hq : XF Z Z1 ∧ (∀ x : Nat, (x < 3 * st ∨ 3 * st + qS m ≤ x) → Z1 164 x = Z 164 x) ∧ (∀ i : Nat, i < qS m → Z1 164 (3 * st + i) = oG m (sf m b n) s t i) ∧ (∀ x : Nat, Z1 165 x = Z 165 x) ∧ Z1 140 60 = Z 140 60 := by
      cases cw : owt m (sf m b n) s t
      · have hK := gK_ok (onw_o c2 ho cw)
        have hw := (h.1.2.2.1 _ hK.1).1
        rw [cw, if_neg Bool.false_ne_true] at hZ1
        subst hZ1
        refine ⟨XF_164 ⟨fun _ _ _ _ => rfl, fun _ _ => rfl⟩, fun x hx => u2f (by omega), fun i hi => ?_, fun x => u2a (by decide), u2a (by decide)⟩
        unfold oG
        rw [cw, if_neg Bool.false_ne_true]
        by_cases c : i = qown m (gK m s (osel m t) (fun u => sf m b n u (qnext m t)))
        · rw [if_pos c, ← c, u2s]
        · rw [if_neg c, u2f (by omega)]
          exact hg i hi
      · rw [cw, if_pos rfl] at hZ1
        subst hZ1
        refine ⟨⟨fun _ _ _ _ => rfl, fun _ _ => rfl⟩, fun _ _ => rfl, fun i hi => ?_, fun _ => rfl, rfl⟩
        unfold oG
        rw [cw, if_pos rfl]
        exact hg i hi
    refine ⟨u2 Z1 165 (st + 1) ((stp m b n s t : Nat) : Int), ⟨XF_165 hq.1, by rw [u2a (by decide), hq.2.2.2.2]⟩, fun x hx => ?_, u2s, fun x hx => ?_, fun i hi => ?_, ?_⟩
    · rw [u2f hx]
      exact hq.2.2.2.1 x
    · rw [u2a (by decide)]
      exact hq.2.1 x hx
    · rw [u2a (by decide), eg]
      exact hq.2.2.1 i hi
    · rw [k_X11_find_96]
      simp (disch := omega) only [k_X11_find_0, k_X11_find_5, k_X11_find_8, k_X11_find_13, k_X11_find_16, k_X11_find_19, k_X11_find_23, k_X11_find_29, k_X11_find_32, k_X11_find_38, k_X11_find_40, k_X11_find_52, k_X11_find_57, k_X11_find_68, k_X11_find_77, k_X11_find_90, k_X11_find_96, k_X11_find_112, k_X11_find_120, k_X11_find_137, k_X11_find_140, k_X11_find_143, k_X11_find_151, k_X11_find_164, k_X11_find_165, k_X11_find_171, k_X11_find_179, li_0, li_1, li_2, li_3, li_4, li_5, li_6, li_9, li_10, li_40, lm_1, lm_2, lm_3, lm_4, zs_ap, i32_add, i32_sub, i32_mul, i32_neg, i32_lt, i32_le, i32_eq, i32_nat, ckn, pka_r, pka_v, if_pos, if_neg, if_true, if_false, h1, Int.toNat_natCast, hz, en]
      refine (congrArg (fun o => pka o _ _) g1).trans ?_
      rw [es] at hsl ⊢
      simp (disch := omega) only [k_X11_find_0, k_X11_find_5, k_X11_find_8, k_X11_find_13, k_X11_find_16, k_X11_find_19, k_X11_find_23, k_X11_find_29, k_X11_find_32, k_X11_find_38, k_X11_find_40, k_X11_find_52, k_X11_find_57, k_X11_find_68, k_X11_find_77, k_X11_find_90, k_X11_find_96, k_X11_find_112, k_X11_find_120, k_X11_find_137, k_X11_find_140, k_X11_find_143, k_X11_find_151, k_X11_find_164, k_X11_find_165, k_X11_find_171, k_X11_find_179, li_0, li_1, li_2, li_3, li_4, li_5, li_6, li_9, li_10, li_40, lm_1, lm_2, lm_3, lm_4, zs_ap, i32_add, i32_sub, i32_mul, i32_neg, i32_lt, i32_le, i32_eq, i32_nat, ckn, pka_r, pka_v, if_pos, if_neg, if_true, if_false, ea, zs_u2]
      have hM2 := XF_MI h (XF_165 (x := st + 1) (v := ((oN m (sf m b n) s t : Nat) : Int)) hq.1)
      simp (disch := omega) only [k_X11_find_0, k_X11_find_5, k_X11_find_8, k_X11_find_13, k_X11_find_16, k_X11_find_19, k_X11_find_23, k_X11_find_29, k_X11_find_32, k_X11_find_38, k_X11_find_40, k_X11_find_52, k_X11_find_57, k_X11_find_68, k_X11_find_77, k_X11_find_90, k_X11_find_96, k_X11_find_112, k_X11_find_120, k_X11_find_137, k_X11_find_140, k_X11_find_143, k_X11_find_151, k_X11_find_164, k_X11_find_165, k_X11_find_171, k_X11_find_179, li_0, li_1, li_2, li_3, li_4, li_5, li_6, li_9, li_10, li_40, lm_1, lm_2, lm_3, lm_4, zs_ap, i32_add, i32_sub, i32_mul, i32_neg, i32_lt, i32_le, i32_eq, i32_nat, ckn, pka_r, pka_v, if_pos, if_neg, if_true, if_false, g_next hM2]
      rfl
theorem fd_fill {Z : Nat → Nat → Int} {st : Nat} (hst : st < 40) (x1 x2 x3 x4 : Int32) : ∃ Z' : Nat → Nat → Int, XF Z Z' ∧ (∀ x : Nat, Z' 165 x = Z 165 x) ∧ Z' 140 60 = Z 140 60 ∧ (∀ x : Nat, (x < 3 * st ∨ 3 * st + 3 ≤ x) → Z' 164 x = Z 164 x) ∧ (∀ i : Nat, i < 3 → Z' 164 (3 * st + i) = -1) ∧
    den none (Mean d) (some .int) tQ_X11_find (71, [some (.ref 140), some (.int x1), some (.int x2), some (.int x3), some (.int x4), some (.int (i32 (st : Int))), some (.int (i32 ((0 : Nat) : Int)))], [], 176, zs Z, J, RP p0 p1 p2 p3 p4 p5 p6 p7) = den none (Mean d) (some .int) tQ_X11_find (96, [some (.ref 140), some (.int x1), some (.int x2), some (.int x3), some (.int x4), some (.int (i32 (st : Int))), some (.int (i32 ((3 : Nat) : Int)))], [], 176, zs Z', J, RP p0 p1 p2 p3 p4 p5 p6 p7) := by
  obtain ⟨Z', v, e⟩ := up_inv (fun (i : Nat) (Z : Nat → Nat → Int) => den none (Mean d) (some .int) tQ_X11_find (71, [some (.ref 140), some (.int x1), some (.int x2), some (.int x3), some (.int x4), some (.int (i32 (st : Int))), some (.int (i32 (i : Int)))], [], 176, zs Z, J, RP p0 p1 p2 p3 p4 p5 p6 p7)) 3 (fun k Z' => XF Z Z' ∧ (∀ x : Nat, Z' 165 x = Z 165 x) ∧ Z' 140 60 = Z 140 60 ∧ (∀ x : Nat, (x < 3 * st ∨ 3 * st + 3 ≤ x) → Z' 164 x = Z 164 x) ∧ (∀ i : Nat, i < k → Z' 164 (3 * st + i) = -1)) (fun k Z1 hk hv => by
    refine ⟨u2 Z1 164 (3 * st + k) (-1), ⟨XF_164 hv.1, fun x => (u2a (by decide)).trans (hv.2.1 x), (u2a (by decide)).trans hv.2.2.1, fun x hx => (u2f (by omega)).trans (hv.2.2.2.1 x hx), fun i hi => ?_⟩, ?_⟩
    · by_cases c : i = k
      · rw [c, u2s]
      · rw [u2f (by omega)]
        exact hv.2.2.2.2 i (by omega)
    · rw [k_X11_find_71]
      simp (disch := omega) only [k_X11_find_0, k_X11_find_5, k_X11_find_8, k_X11_find_13, k_X11_find_16, k_X11_find_19, k_X11_find_23, k_X11_find_29, k_X11_find_32, k_X11_find_38, k_X11_find_40, k_X11_find_52, k_X11_find_57, k_X11_find_68, k_X11_find_77, k_X11_find_90, k_X11_find_96, k_X11_find_112, k_X11_find_120, k_X11_find_137, k_X11_find_140, k_X11_find_143, k_X11_find_151, k_X11_find_164, k_X11_find_165, k_X11_find_171, k_X11_find_179, li_0, li_1, li_2, li_3, li_4, li_5, li_6, li_9, li_10, li_40, lm_1, lm_2, lm_3, lm_4, zs_ap, i32_add, i32_sub, i32_mul, i32_neg, i32_lt, i32_le, i32_eq, i32_nat, ckn, pka_r, pka_v, if_pos, if_neg, if_true, if_false, show (3 * (st : Int) + (k : Int)).toNat = 3 * st + k by omega, zs_u2]
      rfl) Z ⟨⟨fun _ _ _ _ => rfl, fun _ _ => rfl⟩, fun _ => rfl, rfl, fun _ _ => rfl, fun i hi => absurd hi (by omega)⟩
  refine ⟨Z', v.1, v.2.1, v.2.2.1, v.2.2.2.1, v.2.2.2.2, e.trans ?_⟩
  rw [k_X11_find_71]
  simp (disch := omega) only [k_X11_find_0, k_X11_find_5, k_X11_find_8, k_X11_find_13, k_X11_find_16, k_X11_find_19, k_X11_find_23, k_X11_find_29, k_X11_find_32, k_X11_find_38, k_X11_find_40, k_X11_find_52, k_X11_find_57, k_X11_find_68, k_X11_find_77, k_X11_find_90, k_X11_find_112, k_X11_find_120, k_X11_find_137, k_X11_find_140, k_X11_find_143, k_X11_find_151, k_X11_find_164, k_X11_find_165, k_X11_find_171, k_X11_find_179, li_0, li_1, li_2, li_3, li_4, li_5, li_6, li_9, li_10, li_40, lm_1, lm_2, lm_3, lm_4, zs_ap, i32_add, i32_sub, i32_mul, i32_neg, i32_lt, i32_le, i32_eq, i32_nat, ckn, pka_r, pka_v, if_pos, if_neg, if_true, if_false]
def aFind (m : Mat) (b : Nat → Int) (s t : Int) : Int := if (0 ≤ s ∧ s < qN m) ∧ (0 ≤ t ∧ t < qS m) then afew m b s.toNat (qtt m t.toNat) else -2
theorem g_find {Z : Nat → Nat → Int} (h : MI m Z) (hx : MX b Z) {s t : Int} (hs : -2147483648 ≤ s ∧ s < 2147483648) (ht : -2147483648 ≤ t ∧ t < 2147483648) : ∃ (Z' : Nat → Nat → Int) (J' : Nat → Nat → Int64), (∀ a : Nat, a ≠ 162 → a ≠ 163 → J' a = J a) ∧ XF Z Z' ∧ (0 ≤ aFind m b s t → RW m b (aFind m b s t).toNat s.toNat (qtt m t.toNat) Z') ∧ (aFind m b s t < 0 → Z' = Z) ∧ Mean (d + 10) 202 [.ref 140, .int (i32 s), .int (i32 t)] (176, zs Z, J, RP p0 p1 p2 p3 p4 p5 p6 p7) = some (some (.int (i32 (aFind m b s t))), (176, zs Z', J', RP p0 p1 p2 p3 p4 p5 p6 p7)) := by
  have h0 := MI_n h
  by_cases c1 : 0 ≤ s ∧ s < qN m
  · by_cases c2 : 0 ≤ t ∧ t < qS m
    · obtain ⟨J', h1, h2, h3⟩ := g_work (d := d) (J := J) (p0 := p0) (p1 := p1) (p2 := p2) (p3 := p3) (p4 := p4) (p5 := p5) (p6 := p6) (p7 := p7) h hx
      obtain ⟨s', rfl⟩ : ∃ s' : Nat, s = s' := ⟨s.toNat, by omega⟩
      obtain ⟨t', rfl⟩ : ∃ t' : Nat, t = t' := ⟨t.toNat, by omega⟩
      have eA : aFind m b (s' : Int) (t' : Int) = afew m b s' (qtt m t') := by
        unfold aFind
        rw [if_pos ⟨c1, c2⟩, Int.toNat_natCast, Int.toNat_natCast]
      have h4 := g_safeAt (d := d + 7) (J := J') (p0 := p0) (p1 := p1) (p2 := p2) (p3 := p3) (p4 := p4) (p5 := p5) (p6 := p6) (p7 := p7) h (s := s') (t := t') (by omega) (by omega)
      have h5 := g_lowest (d := d + 8) (J := J') (Z := Z) (p0 := p0) (p1 := p1) (p2 := p2) (p3 := p3) (p4 := p4) (p5 := p5) (p6 := p6) (p7 := p7) (x := J' 162 (3 * s' + qtt m t'))
      have htt := qtt_lt (m := m) (t := t') (by omega)
      rw [g_few h2 (by omega) htt] at h5
      rw [eA, Int.toNat_natCast, Int.toNat_natCast]
      by_cases ca : anyN (fun n => sf m b n s' (qtt m t')) 41 = true
      · obtain ⟨l1, l2, l3⟩ := fstN_lt 41 ca
        have eF : afew m b s' (qtt m t') = ((fstN (fun n => sf m b n s' (qtt m t')) 41 : Nat) : Int) := by
          unfold afew
          rw [if_pos ca]
        generalize hn : fstN (fun n => sf m b n s' (qtt m t')) 41 = n at *
        rw [eF, Int.toNat_natCast]
        have hx0 : XF Z (u2 (u2 Z 140 60 (n : Int)) 165 0 (s' : Int)) := XF_165 ⟨fun a ha _ _ => u2_ne ha, fun j hj => u2f hj⟩
        have e0 : Mean (d + 10) 202 [.ref 140, .int (i32 (s' : Int)), .int (i32 (t' : Int))] (176, zs Z, J, RP p0 p1 p2 p3 p4 p5 p6 p7) = den none (Mean (d + 9)) (some .int) tQ_X11_find (62, [some (.ref 140), some (.int (i32 (s' : Int))), some (.int (i32 (t' : Int))), some (.int (i32 (n : Int))), some (.int (i32 ((qtt m t' : Nat) : Int))), some (.int (i32 ((0 : Nat) : Int))), none], [], 176, zs (u2 (u2 Z 140 60 (n : Int)) 165 0 (s' : Int)), J', RP p0 p1 p2 p3 p4 p5 p6 p7) := by
          have e3 : (if qmode m = 0 then (t' : Int) else 0) = ((qtt m t' : Nat) : Int) := by
            unfold qtt
            split
            · rfl
            · rfl
          rw [e_X11_find]
          simp (disch := omega) only [k_X11_find_0, k_X11_find_5, k_X11_find_8, k_X11_find_13, k_X11_find_16, k_X11_find_19, k_X11_find_23, k_X11_find_29, k_X11_find_32, k_X11_find_38, k_X11_find_40, k_X11_find_52, k_X11_find_57, k_X11_find_68, k_X11_find_77, k_X11_find_90, k_X11_find_96, k_X11_find_112, k_X11_find_120, k_X11_find_137, k_X11_find_140, k_X11_find_143, k_X11_find_151, k_X11_find_164, k_X11_find_165, k_X11_find_171, k_X11_find_179, li_0, li_1, li_2, li_3, li_4, li_5, li_6, li_9, li_10, li_40, lm_1, lm_2, lm_3, lm_4, zs_ap, i32_add, i32_sub, i32_mul, i32_neg, i32_lt, i32_le, i32_eq, i32_nat, ckn, pka_r, pka_v, if_pos, if_neg, if_true, if_false, s_isState, s_isSide, bI_t, bI_f, h0, h3, h4, h5, eF]
          rw [show Int.toNat 0 = 0 from rfl, zs_u2, zs_u2]
          simp (disch := omega) only [k_X11_find_0, k_X11_find_5, k_X11_find_8, k_X11_find_13, k_X11_find_16, k_X11_find_19, k_X11_find_23, k_X11_find_29, k_X11_find_32, k_X11_find_38, k_X11_find_40, k_X11_find_52, k_X11_find_57, k_X11_find_68, k_X11_find_77, k_X11_find_90, k_X11_find_96, k_X11_find_112, k_X11_find_120, k_X11_find_137, k_X11_find_140, k_X11_find_143, k_X11_find_151, k_X11_find_164, k_X11_find_165, k_X11_find_171, k_X11_find_179, li_0, li_1, li_2, li_3, li_4, li_5, li_6, li_9, li_10, li_40, lm_1, lm_2, lm_3, lm_4, zs_ap, i32_add, i32_sub, i32_mul, i32_neg, i32_lt, i32_le, i32_eq, i32_nat, ckn, pka_r, pka_v, if_pos, if_neg, if_true, if_false, g_turnOf (XF_MI h hx0), e3]
          rfl
        have hsf := rw_sf l2
        have hq0 : (u2 (u2 Z 140 60 (n : Int)) 165 0 (s' : Int)) 140 60 = (n : Int) := by rw [u2a (by decide), u2s]
        have hq1 : (u2 (u2 Z 140 60 (n : Int)) 165 0 (s' : Int)) 165 0 = (s' : Int) := u2s
        obtain ⟨⟨Z', o6⟩, v, e⟩ := up_inv (fun (k : Nat) (y : (Nat → Nat → Int) × Option Value) => den none (Mean (d + 9)) (some .int) tQ_X11_find (62, [some (.ref 140), some (.int (i32 (s' : Int))), some (.int (i32 (t' : Int))), some (.int (i32 (n : Int))), some (.int (i32 ((rwT m (qtt m t') k : Nat) : Int))), some (.int (i32 (k : Int))), y.2], [], 176, zs y.1, J', RP p0 p1 p2 p3 p4 p5 p6 p7)) n (fun k y => XF Z y.1 ∧ y.1 140 60 = n ∧ (∀ j : Nat, j ≤ k → y.1 165 j = rwS m b n s' (qtt m t') j) ∧ (∀ j i : Nat, j < k → i < qS m → y.1 164 (3 * j + i) = rwG m b n s' (qtt m t') j i)) (fun k y hk hv => by
          obtain ⟨Z1, o6⟩ := y
          obtain ⟨v1, v2, v3, v4⟩ := hv
          simp only at v1 v2 v3 v4
          obtain ⟨Z2, f1, f2, f3, f4, f5, f6⟩ := fd_fill (d := d + 9) (J := J') (Z := Z1) (st := k) (p0 := p0) (p1 := p1) (p2 := p2) (p3 := p3) (p4 := p4) (p5 := p5) (p6 := p6) (p7 := p7) (by omega) (i32 (s' : Int)) (i32 (t' : Int)) (i32 (n : Int)) (i32 ((rwT m (qtt m t') k : Nat) : Int))
          have hM2 := XF_MI h (XF_tr v1 f1)
          obtain ⟨q1, q2⟩ := hsf k (by omega)
          rw [show n - k = (n - 1 - k) + 1 by omega] at q1
          obtain ⟨Z3, g1, g2, g3, g4, g5, g6⟩ := fd_step (d := d) (J := J') (p0 := p0) (p1 := p1) (p2 := p2) (p3 := p3) (p4 := p4) (p5 := p5) (p6 := p6) (p7 := p7) hM2 h2 (s := rwS m b n s' (qtt m t') k) (t := rwT m (qtt m t') k) (st := k) (n := n - 1 - k) (by omega) (rwT_lt h.1 htt k) (by omega) (by omega) (sf_onw q1) (fun i hi => f5 i (by omega)) (by rw [f2, v3 k (Nat.le_refl _)]) (i32 (s' : Int)) (i32 (t' : Int)) (by omega) (i32 ((3 : Nat) : Int))
          rw [show n - 1 - k + 1 + k = n by omega] at g6
          refine ⟨(Z3, some (.int (i32 ((3 : Nat) : Int)))), ⟨XF_tr (XF_tr v1 f1) g1.1, ?_, fun j hj => ?_, fun j i hj hi => ?_⟩, ?_⟩
          · simp only
            rw [g1.2, f3, v2]
          · simp only
            by_cases c : j = k + 1
            · rw [c, g3]
              rfl
            · rw [g2 j (by omega), f2, v3 j (by omega)]
          · simp only
            by_cases c : j = k
            · rw [c, g5 i hi]
              rfl
            · rw [g4 _ (by omega), f4 _ (by omega), v4 j i (by omega) hi]
          · simp only
            rw [k_X11_find_62]
            simp (disch := omega) only [k_X11_find_0, k_X11_find_5, k_X11_find_8, k_X11_find_13, k_X11_find_16, k_X11_find_19, k_X11_find_23, k_X11_find_29, k_X11_find_32, k_X11_find_38, k_X11_find_40, k_X11_find_52, k_X11_find_57, k_X11_find_68, k_X11_find_77, k_X11_find_90, k_X11_find_96, k_X11_find_112, k_X11_find_120, k_X11_find_137, k_X11_find_140, k_X11_find_143, k_X11_find_151, k_X11_find_164, k_X11_find_165, k_X11_find_171, k_X11_find_179, li_0, li_1, li_2, li_3, li_4, li_5, li_6, li_9, li_10, li_40, lm_1, lm_2, lm_3, lm_4, zs_ap, i32_add, i32_sub, i32_mul, i32_neg, i32_lt, i32_le, i32_eq, i32_nat, ckn, pka_r, pka_v, if_pos, if_neg, if_true, if_false]
            refine Eq.trans f6 g6) (u2 (u2 Z 140 60 (n : Int)) 165 0 (s' : Int), none) ⟨hx0, hq0, fun j hj => by rw [show j = 0 by omega]; exact hq1, fun j i hj => absurd hj (by omega)⟩
        · refine ⟨Z', J', h1, v.1, fun _ => ⟨v.2.1, v.2.2.1, v.2.2.2⟩, fun q => absurd q (by omega), ?_⟩
          rw [e0]
          refine e.trans ?_
          rw [k_X11_find_62]
          simp (disch := omega) only [k_X11_find_0, k_X11_find_5, k_X11_find_8, k_X11_find_13, k_X11_find_16, k_X11_find_19, k_X11_find_23, k_X11_find_29, k_X11_find_32, k_X11_find_38, k_X11_find_40, k_X11_find_52, k_X11_find_57, k_X11_find_68, k_X11_find_77, k_X11_find_90, k_X11_find_96, k_X11_find_112, k_X11_find_120, k_X11_find_137, k_X11_find_140, k_X11_find_143, k_X11_find_151, k_X11_find_164, k_X11_find_165, k_X11_find_171, k_X11_find_179, li_0, li_1, li_2, li_3, li_4, li_5, li_6, li_9, li_10, li_40, lm_1, lm_2, lm_3, lm_4, zs_ap, i32_add, i32_sub, i32_mul, i32_neg, i32_lt, i32_le, i32_eq, i32_nat, ckn, pka_r, pka_v, if_pos, if_neg, if_true, if_false]
      · have eF : afew m b s' (qtt m t') = -1 := by
          unfold afew
          rw [if_neg ca]
        rw [eF] at h5 ⊢
        refine ⟨Z, J', h1, ⟨fun _ _ _ _ => rfl, fun _ _ => rfl⟩, fun q => absurd q (by omega), fun _ => rfl, ?_⟩
        rw [e_X11_find]
        simp (disch := omega) only [k_X11_find_0, k_X11_find_5, k_X11_find_8, k_X11_find_13, k_X11_find_16, k_X11_find_19, k_X11_find_23, k_X11_find_29, k_X11_find_32, k_X11_find_38, k_X11_find_40, k_X11_find_52, k_X11_find_57, k_X11_find_68, k_X11_find_77, k_X11_find_90, k_X11_find_96, k_X11_find_112, k_X11_find_120, k_X11_find_137, k_X11_find_140, k_X11_find_143, k_X11_find_151, k_X11_find_164, k_X11_find_165, k_X11_find_171, k_X11_find_179, li_0, li_1, li_2, li_3, li_4, li_5, li_6, li_9, li_10, li_40, lm_1, lm_2, lm_3, lm_4, zs_ap, i32_add, i32_sub, i32_mul, i32_neg, i32_lt, i32_le, i32_eq, i32_nat, ckn, pka_r, pka_v, if_pos, if_neg, if_true, if_false, s_isState, s_isSide, bI_t, bI_f, h0, h3, h4, h5]
    · have eA : aFind m b s t = -2 := by
        unfold aFind
        rw [if_neg (fun q => c2 q.2)]
      rw [eA]
      refine ⟨Z, J, fun _ _ _ => rfl, ⟨fun _ _ _ _ => rfl, fun _ _ => rfl⟩, fun q => absurd q (by omega), fun _ => rfl, ?_⟩
      rw [e_X11_find]
      simp (disch := omega) only [k_X11_find_0, k_X11_find_5, k_X11_find_8, k_X11_find_13, k_X11_find_16, k_X11_find_19, k_X11_find_23, k_X11_find_29, k_X11_find_32, k_X11_find_38, k_X11_find_40, k_X11_find_52, k_X11_find_57, k_X11_find_68, k_X11_find_77, k_X11_find_90, k_X11_find_96, k_X11_find_112, k_X11_find_120, k_X11_find_137, k_X11_find_140, k_X11_find_143, k_X11_find_151, k_X11_find_164, k_X11_find_165, k_X11_find_171, k_X11_find_179, li_0, li_1, li_2, li_3, li_4, li_5, li_6, li_9, li_10, li_40, lm_1, lm_2, lm_3, lm_4, zs_ap, i32_add, i32_sub, i32_mul, i32_neg, i32_lt, i32_le, i32_eq, i32_nat, ckn, pka_r, pka_v, if_pos, if_neg, if_true, if_false, s_isState, s_isSide, bI_t, bI_f, h0]
  · have eA : aFind m b s t = -2 := by
      unfold aFind
      rw [if_neg (fun q => c1 q.1)]
    rw [eA]
    refine ⟨Z, J, fun _ _ _ => rfl, ⟨fun _ _ _ _ => rfl, fun _ _ => rfl⟩, fun q => absurd q (by omega), fun _ => rfl, ?_⟩
    rw [e_X11_find]
    simp (disch := omega) only [k_X11_find_0, k_X11_find_5, k_X11_find_8, k_X11_find_13, k_X11_find_16, k_X11_find_19, k_X11_find_23, k_X11_find_29, k_X11_find_32, k_X11_find_38, k_X11_find_40, k_X11_find_52, k_X11_find_57, k_X11_find_68, k_X11_find_77, k_X11_find_90, k_X11_find_96, k_X11_find_112, k_X11_find_120, k_X11_find_137, k_X11_find_140, k_X11_find_143, k_X11_find_151, k_X11_find_164, k_X11_find_165, k_X11_find_171, k_X11_find_179, li_0, li_1, li_2, li_3, li_4, li_5, li_6, li_9, li_10, li_40, lm_1, lm_2, lm_3, lm_4, zs_ap, i32_add, i32_sub, i32_mul, i32_neg, i32_lt, i32_le, i32_eq, i32_nat, ckn, pka_r, pka_v, if_pos, if_neg, if_true, if_false, s_isState, s_isSide, bI_t, bI_f, h0]
end
