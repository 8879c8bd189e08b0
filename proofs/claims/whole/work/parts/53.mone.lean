/-! THE MODEL'S one: the least STEP of a single SIDE -/
def osel (m : Mat) (t k : Nat) : Bool := if qmode m = 0 then decide (qown m k = t) else true
def gQp (m : Mat) (s k : Nat) (f : Nat → Bool) (q : Nat) : Bool := qmay m s k (q + 1) && f (s - (q + 1) * qpl m k)
theorem giv_gQ (m : Mat) (s k : Nat) (f : Nat → Bool) : giv m s k f = anyN (gQp m s k f) 9 := rfl
/-- the first piece of which a gift leads to something, and the fewest parts of it -/
def gK (m : Mat) (s : Nat) (sel f : Nat → Bool) : Nat := fstN (fun k => sel k && giv m s k f) (qP m)
def gQ (m : Mat) (s : Nat) (sel f : Nat → Bool) : Nat := fstN (gQp m s (gK m s sel f) f) 9 + 1
def gTo (m : Mat) (s : Nat) (sel f : Nat → Bool) : Nat := s - gQ m s sel f * qpl m (gK m s sel f)
theorem gK_ok {m : Mat} {s : Nat} {sel f : Nat → Bool} (h : givs m s sel f = true) : gK m s sel f < qP m ∧ sel (gK m s sel f) = true ∧ (1 ≤ gQ m s sel f ∧ gQ m s sel f ≤ 9) ∧ qmay m s (gK m s sel f) (gQ m s sel f) = true ∧ f (gTo m s sel f) = true := by
  obtain ⟨h1, h2, _⟩ := fstN_lt (qP m) h
  rw [Bool.and_eq_true] at h2
  obtain ⟨g1, g2, _⟩ := fstN_lt 9 h2.2
  rw [Bool.and_eq_true] at g2
  exact ⟨h1, h2.1, ⟨by unfold gQ; omega, by unfold gQ gQp gK; omega⟩, g2.1, g2.2⟩
theorem gTo_lt {m : Mat} {s : Nat} {sel f : Nat → Bool} (h : givs m s sel f = true) : gTo m s sel f < s ∧ gQ m s sel f * qpl m (gK m s sel f) ≤ s := by
  obtain ⟨_, _, h3, h4, _⟩ := gK_ok h
  have h5 := may_le h4
  obtain ⟨q, e⟩ : ∃ q, gQ m s sel f = q + 1 := ⟨gQ m s sel f - 1, by omega⟩
  rw [e] at h4
  have h6 := sub_lt_s h4 (Nat.le_refl s)
  rw [← e] at h6
  exact ⟨h6, sub_le (by omega)⟩
def owt (m : Mat) (f : Nat → Nat → Bool) (s t : Nat) : Bool := decide (qmode m = 0) && f s (qnext m t)
def oN (m : Mat) (f : Nat → Nat → Bool) (s t : Nat) : Nat := if owt m f s t then s else gTo m s (osel m t) (fun u => f u (qnext m t))
def oG (m : Mat) (f : Nat → Nat → Bool) (s t i : Nat) : Int := if owt m f s t then -1 else if i = qown m (gK m s (osel m t) (fun u => f u (qnext m t))) then ((10 * gK m s (osel m t) (fun u => f u (qnext m t)) + gQ m s (osel m t) (fun u => f u (qnext m t)) : Nat) : Int) else -1
theorem onw_o {m : Mat} {f : Nat → Nat → Bool} {s t : Nat} (h2 : qmode m ≠ 2) (h : onw m f s t = true) (hw : owt m f s t = false) : givs m s (osel m t) (fun u => f u (qnext m t)) = true := by
  unfold onw at h
  rw [if_neg h2] at h
  unfold owt at hw
  by_cases c : qmode m = 0
  · rw [if_pos c, Bool.or_eq_true] at h
    rw [decide_eq_true c, Bool.true_and] at hw
    rcases h with h | h
    · rw [hw] at h
      cases h
    · refine Eq.trans ?_ h
      unfold givs
      apply anyN_congr
      intro k hk
      unfold osel
      rw [if_pos c]
  · rw [if_neg c] at h
    refine Eq.trans ?_ h
    unfold givs
    apply anyN_congr
    intro k hk
    unfold osel qnext
    rw [if_neg c, if_neg c]
section
variable {d : Nat} {J : Nat → Nat → Int64} {Z : Nat → Nat → Int} {p0 p1 p2 p3 p4 p5 p6 p7 : Nat} {m : Mat} {b : Nat → Int}
theorem g_one (h : MI m Z) (hk : WK m b J) {s t st n : Nat} (hs : s < qN m) (ht : t < qturns m) (hst : st < 40) (hn : n < 64) (h2 : qmode m ≠ 2) (ho : onw m (sf m b n) s t = true) : Mean (d + 3) 204 [.ref 140, .int (i32 (s : Int)), .int (i32 (t : Int)), .int (i32 (st : Int)), .int (i32 (n : Int))] (176, zs Z, J, RP p0 p1 p2 p3 p4 p5 p6 p7) = some (some (.int (i32 ((oN m (sf m b n) s t : Nat) : Int))), (176, zs (if owt m (sf m b n) s t then Z else u2 Z 164 (3 * st + qown m (gK m s (osel m t) (fun u => sf m b n u (qnext m t)))) ((10 * gK m s (osel m t) (fun u => sf m b n u (qnext m t)) + gQ m s (osel m t) (fun u => sf m b n u (qnext m t)) : Nat) : Int)), J, RP p0 p1 p2 p3 p4 p5 p6 p7)) := by
  have h0 := MI_n h
  have hnx := next_tn h.1 t
  have htl := turns_le h.1
  have h1 := h.2.1.1
  have hmd := h.1.2.2.2.2.2.1
  cases cw : owt m (sf m b n) s t
  · have hg := onw_o h2 ho cw
    unfold oN
    rw [cw, if_neg Bool.false_ne_true, if_neg Bool.false_ne_true, e_X11_one]
    have e0 : den none (Mean (d + 2)) (some .int) tQ_X11_one (0, [some (.ref 140), some (.int (i32 (s : Int))), some (.int (i32 (t : Int))), some (.int (i32 (st : Int))), some (.int (i32 (n : Int))), none, none], [], 176, zs Z, J, RP p0 p1 p2 p3 p4 p5 p6 p7) = den none (Mean (d + 2)) (some .int) tQ_X11_one (27, [some (.ref 140), some (.int (i32 (s : Int))), some (.int (i32 (t : Int))), some (.int (i32 (st : Int))), some (.int (i32 (n : Int))), some (.int (i32 ((0 : Nat) : Int))), none], [], 176, zs Z, J, RP p0 p1 p2 p3 p4 p5 p6 p7) := by
      by_cases c0 : qmode m = 0
      · unfold owt at cw
        rw [decide_eq_true c0, Bool.true_and] at cw
        simp (disch := omega) only [k_X11_one_0, k_X11_one_7, k_X11_one_14, k_X11_one_19, k_X11_one_22, k_X11_one_24, k_X11_one_36, k_X11_one_43, k_X11_one_50, k_X11_one_54, k_X11_one_57, k_X11_one_67, k_X11_one_76, k_X11_one_79, k_X11_one_90, k_X11_one_97, k_X11_one_102, k_X11_one_105, k_X11_one_108, k_X11_one_122, k_X11_one_132, k_X11_one_142, k_X11_one_145, k_X11_one_151, k_X11_one_157, li_0, li_1, li_2, li_3, li_4, li_5, li_6, li_9, li_10, li_40, lm_1, lm_2, lm_3, lm_4, zs_ap, i32_add, i32_sub, i32_mul, i32_neg, i32_lt, i32_le, i32_eq, i32_nat, ckn, pka_r, pka_v, if_pos, if_neg, if_true, if_false, h1, g_next h, g_isSafe h hk, cw, bBf]
        rfl
      · simp (disch := omega) only [k_X11_one_0, k_X11_one_7, k_X11_one_14, k_X11_one_19, k_X11_one_22, k_X11_one_24, k_X11_one_36, k_X11_one_43, k_X11_one_50, k_X11_one_54, k_X11_one_57, k_X11_one_67, k_X11_one_76, k_X11_one_79, k_X11_one_90, k_X11_one_97, k_X11_one_102, k_X11_one_105, k_X11_one_108, k_X11_one_122, k_X11_one_132, k_X11_one_142, k_X11_one_145, k_X11_one_151, k_X11_one_157, li_0, li_1, li_2, li_3, li_4, li_5, li_6, li_9, li_10, li_40, lm_1, lm_2, lm_3, lm_4, zs_ap, i32_add, i32_sub, i32_mul, i32_neg, i32_lt, i32_le, i32_eq, i32_nat, ckn, pka_r, pka_v, if_pos, if_neg, if_true, if_false, h1]
        rfl
    refine e0.trans ?_
    generalize hf : (fun u => sf m b n u (qnext m t)) = f at hg
    have hfu : ∀ u : Nat, sf m b n u (qnext m t) = f u := fun u => congrFun hf u
    have inn : ∀ k : Nat, k < qP m → den none (Mean (d + 2)) (some .int) tQ_X11_one (60, [some (.ref 140), some (.int (i32 (s : Int))), some (.int (i32 (t : Int))), some (.int (i32 (st : Int))), some (.int (i32 (n : Int))), some (.int (i32 (k : Int))), some (.int (i32 ((0 + 1 : Nat) : Int)))], [], 176, zs Z, J, RP p0 p1 p2 p3 p4 p5 p6 p7) = if anyN (gQp m s k f) 9 then some (some (.int (i32 ((s - (fstN (gQp m s k f) 9 + 1) * qpl m k : Nat) : Int))), (176, zs (u2 Z 164 (3 * st + qown m k) ((10 * k + (fstN (gQp m s k f) 9 + 1) : Nat) : Int)), J, RP p0 p1 p2 p3 p4 p5 p6 p7)) else den none (Mean (d + 2)) (some .int) tQ_X11_one (60, [some (.ref 140), some (.int (i32 (s : Int))), some (.int (i32 (t : Int))), some (.int (i32 (st : Int))), some (.int (i32 (n : Int))), some (.int (i32 (k : Int))), some (.int (i32 ((9 + 1 : Nat) : Int)))], [], 176, zs Z, J, RP p0 p1 p2 p3 p4 p5 p6 p7) := by
      intro k hk'
      have hpl := h.2.2.2.2.1 k (by omega)
      have hplb := qpl_b h.1 (k := k) (by omega)
      have hr := (h.2.1.2.1 k hk').1
      have hw := (h.1.2.2.1 k hk').1
      refine srch (fun q => den none (Mean (d + 2)) (some .int) tQ_X11_one (60, [some (.ref 140), some (.int (i32 (s : Int))), some (.int (i32 (t : Int))), some (.int (i32 (st : Int))), some (.int (i32 (n : Int))), some (.int (i32 (k : Int))), some (.int (i32 ((q + 1 : Nat) : Int)))], [], 176, zs Z, J, RP p0 p1 p2 p3 p4 p5 p6 p7)) (gQp m s k f) 9 (fun q => some (some (.int (i32 ((s - (q + 1) * qpl m k : Nat) : Int))), (176, zs (u2 Z 164 (3 * st + qown m k) ((10 * k + (q + 1) : Nat) : Int)), J, RP p0 p1 p2 p3 p4 p5 p6 p7))) (fun q hq hp => ?_) (fun q hq hp => ?_)
      · unfold gQp at hp
        rw [Bool.and_eq_true] at hp
        have hle := may_le hp.1
        have hsub := sub_le (m := m) (s := s) (k := k) (q := q + 1) (by omega)
        have ec := sub_c hsub
        rw [k_X11_one_60]
        simp (disch := omega) only [k_X11_one_0, k_X11_one_7, k_X11_one_14, k_X11_one_19, k_X11_one_22, k_X11_one_24, k_X11_one_36, k_X11_one_43, k_X11_one_50, k_X11_one_54, k_X11_one_57, k_X11_one_67, k_X11_one_76, k_X11_one_79, k_X11_one_90, k_X11_one_97, k_X11_one_102, k_X11_one_105, k_X11_one_108, k_X11_one_122, k_X11_one_132, k_X11_one_142, k_X11_one_145, k_X11_one_151, k_X11_one_157, li_0, li_1, li_2, li_3, li_4, li_5, li_6, li_9, li_10, li_40, lm_1, lm_2, lm_3, lm_4, zs_ap, i32_add, i32_sub, i32_mul, i32_neg, i32_lt, i32_le, i32_eq, i32_nat, ckn, pka_r, pka_v, if_pos, if_neg, if_true, if_false, g_mayGive h, hp.1, bBt, Int.toNat_natCast, hpl, ec, g_next h, g_isSafe h hk, hfu, hp.2, hr, show (3 * (st : Int) + (qown m k : Int)).toNat = 3 * st + qown m k by omega, zs_u2, u2a (show 158 ≠ 164 by decide)]
        rfl
      · rw [k_X11_one_60]
        unfold gQp at hp
        cases hb : qmay m s k (q + 1)
        · simp (disch := omega) only [k_X11_one_0, k_X11_one_7, k_X11_one_14, k_X11_one_19, k_X11_one_22, k_X11_one_24, k_X11_one_36, k_X11_one_43, k_X11_one_50, k_X11_one_54, k_X11_one_57, k_X11_one_67, k_X11_one_76, k_X11_one_79, k_X11_one_90, k_X11_one_97, k_X11_one_102, k_X11_one_105, k_X11_one_108, k_X11_one_122, k_X11_one_132, k_X11_one_142, k_X11_one_145, k_X11_one_151, k_X11_one_157, li_0, li_1, li_2, li_3, li_4, li_5, li_6, li_9, li_10, li_40, lm_1, lm_2, lm_3, lm_4, zs_ap, i32_add, i32_sub, i32_mul, i32_neg, i32_lt, i32_le, i32_eq, i32_nat, ckn, pka_r, pka_v, if_pos, if_neg, if_true, if_false, g_mayGive h, hb, bBf]
          rfl
        · have hle := may_le hb
          have hsub := sub_le (m := m) (s := s) (k := k) (q := q + 1) (by omega)
          have ec := sub_c hsub
          rw [hb, Bool.true_and] at hp
          simp (disch := omega) only [k_X11_one_0, k_X11_one_7, k_X11_one_14, k_X11_one_19, k_X11_one_22, k_X11_one_24, k_X11_one_36, k_X11_one_43, k_X11_one_50, k_X11_one_54, k_X11_one_57, k_X11_one_67, k_X11_one_76, k_X11_one_79, k_X11_one_90, k_X11_one_97, k_X11_one_102, k_X11_one_105, k_X11_one_108, k_X11_one_122, k_X11_one_132, k_X11_one_142, k_X11_one_145, k_X11_one_151, k_X11_one_157, li_0, li_1, li_2, li_3, li_4, li_5, li_6, li_9, li_10, li_40, lm_1, lm_2, lm_3, lm_4, zs_ap, i32_add, i32_sub, i32_mul, i32_neg, i32_lt, i32_le, i32_eq, i32_nat, ckn, pka_r, pka_v, if_pos, if_neg, if_true, if_false, g_mayGive h, hb, bBt, Int.toNat_natCast, hpl, ec, g_next h, g_isSafe h hk, hfu, hp, bBf]
          rfl
    refine ((srchS (fun (k : Nat) (o : Option Value) => den none (Mean (d + 2)) (some .int) tQ_X11_one (27, [some (.ref 140), some (.int (i32 (s : Int))), some (.int (i32 (t : Int))), some (.int (i32 (st : Int))), some (.int (i32 (n : Int))), some (.int (i32 (k : Int))), o], [], 176, zs Z, J, RP p0 p1 p2 p3 p4 p5 p6 p7)) (fun k => osel m t k && giv m s k f) (qP m) (fun k => some (some (.int (i32 ((s - (fstN (gQp m s k f) 9 + 1) * qpl m k : Nat) : Int))), (176, zs (u2 Z 164 (3 * st + qown m k) ((10 * k + (fstN (gQp m s k f) 9 + 1) : Nat) : Int)), J, RP p0 p1 p2 p3 p4 p5 p6 p7))) (fun k o hk' hp => ?_) (fun k o hk' hp => ?_) none).1 hg).trans ?_
    · have hr := (h.2.1.2.1 k hk').1
      have hw := (h.1.2.2.1 k hk').1
      rw [Bool.and_eq_true, giv_gQ] at hp
      have hi := inn k hk'
      rw [if_pos hp.2] at hi
      rw [k_X11_one_27]
      by_cases c0 : qmode m = 0
      · have hs2 := hp.1
        unfold osel at hs2
        rw [if_pos c0, decide_eq_true_iff] at hs2
        simp (disch := omega) only [k_X11_one_0, k_X11_one_7, k_X11_one_14, k_X11_one_19, k_X11_one_22, k_X11_one_24, k_X11_one_36, k_X11_one_43, k_X11_one_50, k_X11_one_54, k_X11_one_57, k_X11_one_67, k_X11_one_76, k_X11_one_79, k_X11_one_90, k_X11_one_97, k_X11_one_102, k_X11_one_105, k_X11_one_108, k_X11_one_122, k_X11_one_132, k_X11_one_142, k_X11_one_145, k_X11_one_151, k_X11_one_157, li_0, li_1, li_2, li_3, li_4, li_5, li_6, li_9, li_10, li_40, lm_1, lm_2, lm_3, lm_4, zs_ap, i32_add, i32_sub, i32_mul, i32_neg, i32_lt, i32_le, i32_eq, i32_nat, ckn, pka_r, pka_v, if_pos, if_neg, if_true, if_false, h0, h1, Int.toNat_natCast, hr]
        exact hi
      · simp (disch := omega) only [k_X11_one_0, k_X11_one_7, k_X11_one_14, k_X11_one_19, k_X11_one_22, k_X11_one_24, k_X11_one_36, k_X11_one_43, k_X11_one_50, k_X11_one_54, k_X11_one_57, k_X11_one_67, k_X11_one_76, k_X11_one_79, k_X11_one_90, k_X11_one_97, k_X11_one_102, k_X11_one_105, k_X11_one_108, k_X11_one_122, k_X11_one_132, k_X11_one_142, k_X11_one_145, k_X11_one_151, k_X11_one_157, li_0, li_1, li_2, li_3, li_4, li_5, li_6, li_9, li_10, li_40, lm_1, lm_2, lm_3, lm_4, zs_ap, i32_add, i32_sub, i32_mul, i32_neg, i32_lt, i32_le, i32_eq, i32_nat, ckn, pka_r, pka_v, if_pos, if_neg, if_true, if_false, h0, h1]
        exact hi
    · have hr := (h.2.1.2.1 k hk').1
      have hw := (h.1.2.2.1 k hk').1
      have hi := inn k hk'
      have fn : giv m s k f = false → den none (Mean (d + 2)) (some .int) tQ_X11_one (60, [some (.ref 140), some (.int (i32 (s : Int))), some (.int (i32 (t : Int))), some (.int (i32 (st : Int))), some (.int (i32 (n : Int))), some (.int (i32 (k : Int))), some (.int (i32 ((0 + 1 : Nat) : Int)))], [], 176, zs Z, J, RP p0 p1 p2 p3 p4 p5 p6 p7) = den none (Mean (d + 2)) (some .int) tQ_X11_one (27, [some (.ref 140), some (.int (i32 (s : Int))), some (.int (i32 (t : Int))), some (.int (i32 (st : Int))), some (.int (i32 (n : Int))), some (.int (i32 ((k + 1 : Nat) : Int))), some (.int (i32 ((9 + 1 : Nat) : Int)))], [], 176, zs Z, J, RP p0 p1 p2 p3 p4 p5 p6 p7) := fun hp => by
        rw [giv_gQ] at hp
        rw [hi, hp, if_neg Bool.false_ne_true, k_X11_one_60]
        simp (disch := omega) only [k_X11_one_0, k_X11_one_7, k_X11_one_14, k_X11_one_19, k_X11_one_22, k_X11_one_24, k_X11_one_36, k_X11_one_43, k_X11_one_50, k_X11_one_54, k_X11_one_57, k_X11_one_67, k_X11_one_76, k_X11_one_79, k_X11_one_90, k_X11_one_97, k_X11_one_102, k_X11_one_105, k_X11_one_108, k_X11_one_122, k_X11_one_132, k_X11_one_142, k_X11_one_145, k_X11_one_151, k_X11_one_157, li_0, li_1, li_2, li_3, li_4, li_5, li_6, li_9, li_10, li_40, lm_1, lm_2, lm_3, lm_4, zs_ap, i32_add, i32_sub, i32_mul, i32_neg, i32_lt, i32_le, i32_eq, i32_nat, ckn, pka_r, pka_v, if_pos, if_neg, if_true, if_false]
        rfl
      by_cases c0 : qmode m = 0
      · by_cases c : qown m k = t
        · refine ⟨some (.int (i32 ((9 + 1 : Nat) : Int))), ?_⟩
          simp only [osel, if_pos c0, decide_eq_true c, Bool.true_and] at hp
          refine Eq.trans ?_ (fn hp)
          rw [k_X11_one_27]
          simp (disch := omega) only [k_X11_one_0, k_X11_one_7, k_X11_one_14, k_X11_one_19, k_X11_one_22, k_X11_one_24, k_X11_one_36, k_X11_one_43, k_X11_one_50, k_X11_one_54, k_X11_one_57, k_X11_one_67, k_X11_one_76, k_X11_one_79, k_X11_one_90, k_X11_one_97, k_X11_one_102, k_X11_one_105, k_X11_one_108, k_X11_one_122, k_X11_one_132, k_X11_one_142, k_X11_one_145, k_X11_one_151, k_X11_one_157, li_0, li_1, li_2, li_3, li_4, li_5, li_6, li_9, li_10, li_40, lm_1, lm_2, lm_3, lm_4, zs_ap, i32_add, i32_sub, i32_mul, i32_neg, i32_lt, i32_le, i32_eq, i32_nat, ckn, pka_r, pka_v, if_pos, if_neg, if_true, if_false, h0, h1, Int.toNat_natCast, hr]
          rfl
        · refine ⟨o, ?_⟩
          rw [k_X11_one_27]
          simp (disch := omega) only [k_X11_one_0, k_X11_one_7, k_X11_one_14, k_X11_one_19, k_X11_one_22, k_X11_one_24, k_X11_one_36, k_X11_one_43, k_X11_one_50, k_X11_one_54, k_X11_one_57, k_X11_one_67, k_X11_one_76, k_X11_one_79, k_X11_one_90, k_X11_one_97, k_X11_one_102, k_X11_one_105, k_X11_one_108, k_X11_one_122, k_X11_one_132, k_X11_one_142, k_X11_one_145, k_X11_one_151, k_X11_one_157, li_0, li_1, li_2, li_3, li_4, li_5, li_6, li_9, li_10, li_40, lm_1, lm_2, lm_3, lm_4, zs_ap, i32_add, i32_sub, i32_mul, i32_neg, i32_lt, i32_le, i32_eq, i32_nat, ckn, pka_r, pka_v, if_pos, if_neg, if_true, if_false, h0, h1, Int.toNat_natCast, hr]
          rfl
      · refine ⟨some (.int (i32 ((9 + 1 : Nat) : Int))), ?_⟩
        simp only [osel, if_neg c0, Bool.true_and] at hp
        refine Eq.trans ?_ (fn hp)
        rw [k_X11_one_27]
        simp (disch := omega) only [k_X11_one_0, k_X11_one_7, k_X11_one_14, k_X11_one_19, k_X11_one_22, k_X11_one_24, k_X11_one_36, k_X11_one_43, k_X11_one_50, k_X11_one_54, k_X11_one_57, k_X11_one_67, k_X11_one_76, k_X11_one_79, k_X11_one_90, k_X11_one_97, k_X11_one_102, k_X11_one_105, k_X11_one_108, k_X11_one_122, k_X11_one_132, k_X11_one_142, k_X11_one_145, k_X11_one_151, k_X11_one_157, li_0, li_1, li_2, li_3, li_4, li_5, li_6, li_9, li_10, li_40, lm_1, lm_2, lm_3, lm_4, zs_ap, i32_add, i32_sub, i32_mul, i32_neg, i32_lt, i32_le, i32_eq, i32_nat, ckn, pka_r, pka_v, if_pos, if_neg, if_true, if_false, h0, h1]
        rfl
    · rfl
  · unfold oN
    rw [cw, if_pos rfl, if_pos rfl, e_X11_one]
    unfold owt at cw
    rw [Bool.and_eq_true, decide_eq_true_iff] at cw
    simp (disch := omega) only [k_X11_one_0, k_X11_one_7, k_X11_one_14, k_X11_one_19, k_X11_one_22, k_X11_one_24, k_X11_one_36, k_X11_one_43, k_X11_one_50, k_X11_one_54, k_X11_one_57, k_X11_one_67, k_X11_one_76, k_X11_one_79, k_X11_one_90, k_X11_one_97, k_X11_one_102, k_X11_one_105, k_X11_one_108, k_X11_one_122, k_X11_one_132, k_X11_one_142, k_X11_one_145, k_X11_one_151, k_X11_one_157, li_0, li_1, li_2, li_3, li_4, li_5, li_6, li_9, li_10, li_40, lm_1, lm_2, lm_3, lm_4, zs_ap, i32_add, i32_sub, i32_mul, i32_neg, i32_lt, i32_le, i32_eq, i32_nat, ckn, pka_r, pka_v, if_pos, if_neg, if_true, if_false, h1, g_next h, g_isSafe h hk, cw.1, cw.2, bBt]
end
