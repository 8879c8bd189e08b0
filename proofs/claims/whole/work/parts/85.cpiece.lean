/-! THE CLASS'S Reader: pieces -/
def rfu (Z : Nat → Nat → Int) (k : Int) : Nat → Nat → Int := u2 (u2 Z 3 5 k) 3 6 (Z 4 3)
theorem pAt_c {N N' : Nat → Int64} {n : Nat} {w : Int64} (h : ∀ k : Nat, k < n → N k = N' k) : pAt N n w = pAt N' n w := by
  unfold pAt
  have e : ∀ k : Nat, k < n → (fun k => decide (N k = w)) k = (fun k => decide (N' k = w)) k := fun k hk => by
    show decide (N k = w) = decide (N' k = w)
    rw [h k hk]
  rw [anyN_congr n e, fstN_congr n e]
theorem CD_congr {p : Nat} {D D2 : Nat → Nat → Int} {N : Nat → Int64} {Z : Nat → Nat → Int} {J : Nat → Nat → Int64} (h : CD p D N Z J) (h140 : ∀ j : Nat, j ≠ 23 → D2 140 j = D 140 j) (ho : ∀ a : Nat, a ≠ 140 → a ≠ 154 → D2 a = D a) (h154 : ∀ k i : Nat, k < (D 140 18).toNat → i < (D 140 17).toNat → D2 154 (3 * k + i) = D 154 (3 * k + i)) : CD p D2 N Z J := by
  obtain ⟨h1, h2, h3, h4, h5⟩ := h
  have fs : fsum D2 = fsum D := by
    unfold fsum
    rw [h140 30 (by decide), h140 31 (by decide), h140 26 (by decide), h140 27 (by decide), h140 28 (by decide), h140 29 (by decide), h140 25 (by decide)]
  refine ⟨?_, ?_, ?_, ?_, ?_⟩
  · rw [h140 17 (by decide), h140 18 (by decide), h140 19 (by decide), h140 20 (by decide), h140 21 (by decide), h140 22 (by decide), h140 25 (by decide)]
    exact h1
  · rw [h140 18 (by decide), ho 151 (by decide) (by decide), ho 152 (by decide) (by decide), ho 153 (by decide) (by decide), ho 149 (by decide) (by decide)]
    exact h2
  · rw [h140 18 (by decide), h140 17 (by decide)]
    intro k hk i hi
    rw [h154 k i hk hi]
    exact h3 k hk i hi
  · rw [ho 155 (by decide) (by decide), ho 156 (by decide) (by decide)]
    exact h4
  · rw [h140 18 (by decide), fs, ho 149 (by decide) (by decide), ho 150 (by decide) (by decide)]
    exact h5
/-- a draft with a piece more -/
def Fpc (D : Nat → Nat → Int) (n : Nat) : Nat → Nat → Int := u2 (u2 (u2 (u2 D 153 n 0) 149 n 0) 150 n 0) 140 18 ((n : Int) + 1)
section
variable {d : Nat} {J J0 : Nat → Nat → Int64} {Z Z0 D : Nat → Nat → Int} {N : Nat → Int64} {p0 p1 p2 p3 p4 p5 p6 p7 : Nat} {tp : Nat → Nat} {len q n S : Nat} {c : Int}
theorem h_refuse' {k : Int} : Mean (d + 1) 62 [.ref 3, .int (i32 k)] (176, zs Z, J, RP p0 p1 p2 p3 p4 p5 p6 p7) = some (some (.int (i32 0)), (176, zs (rfu Z k), J, RP p0 p1 p2 p3 p4 p5 p6 p7)) := h_refuse
theorem h_takeWord' (ht : CT tp len p1 Z0) (h : CQ len p1 c Z0 J0 D N q Z J) : ∃ Z1 : Nat → Nat → Int, FC 4 [1, 2, 3, 4] Z Z1 ∧ LT tp len q Z1 ∧ CQ len p1 c Z0 J0 D N (tkB tp len q) Z1 J ∧ Mean (d + 2) 58 [.ref 3] (176, zs Z, J, RP p0 p1 p2 p3 p4 p5 p6 p7) = if tkK tp len q = 1 then some (some (.int (i32 1)), (176, zs Z1, J, RP p0 p1 p2 p3 p4 p5 p6 p7)) else some (some (.int (i32 0)), (176, zs (rfu Z1 1), J, RP p0 p1 p2 p3 p4 p5 p6 p7)) := by
  obtain ⟨Z', f, l, h', e⟩ := CQ_adv (d := d) (p0 := p0) (p1 := p1) (p2 := p2) (p3 := p3) (p4 := p4) (p5 := p5) (p6 := p6) (p7 := p7) ht h
  have hK5 := tk_K5 (tp := tp) (len := len) (q := q)
  refine ⟨Z', f, l, h', ?_⟩
  rw [e_X5_takeWord, k_X5_takeWord_0]
  by_cases c0 : tkK tp len q = 1
  · rw [if_pos c0]
    simp (disch := omega) only [k_X5_takeWord_7, k_X5_takeWord_18, k_X5_takeWord_23, k_X5_takeWord_26, k_X5_takeWord_30, k_X5_takeWord_31, li_0, li_1, li_2, li_3, li_4, li_5, li_6, li_9, li_10, li_40, lm_1, lm_2, lm_3, lm_4, zs_ap, i32_add, i32_sub, i32_mul, i32_neg, i32_lt, i32_le, i32_eq, i32_nat, ckn, pka_r, pka_v, if_pos, if_neg, if_true, if_false, e, l.2.1, c0, or_true]
  · rw [if_neg c0]
    simp (disch := omega) only [k_X5_takeWord_7, k_X5_takeWord_18, k_X5_takeWord_23, k_X5_takeWord_26, k_X5_takeWord_30, k_X5_takeWord_31, li_0, li_1, li_2, li_3, li_4, li_5, li_6, li_9, li_10, li_40, lm_1, lm_2, lm_3, lm_4, zs_ap, i32_add, i32_sub, i32_mul, i32_neg, i32_lt, i32_le, i32_eq, i32_nat, ckn, pka_r, pka_v, if_pos, if_neg, if_true, if_false, e, l.2.1, h_refuse', true_or]
theorem CE_rf {k : Int} {o : Option (Option Value × pW)} (h1 : CX p1 Z0 Z) (h2 : ∀ a : Nat, a ≠ p1 + 1 → J a = J0 a) (hl : LT tp len q Z) (ho : o = some (some (.int (i32 0)), (176, zs (rfu Z k), J, RP p0 p1 p2 p3 p4 p5 p6 p7))) : CE p1 Z0 J0 (RP p0 p1 p2 p3 p4 p5 p6 p7) (k, tkF tp len q) o := CE_mk h1 h2 hl ho
theorem h_known (ht : CT tp len p1 Z0) (hd : DW D n S) (h : CQ len p1 c Z0 J0 D N q Z J) {x : Nat} (hx : x < 64) : ∃ Z1 : Nat → Nat → Int, FC 4 [1, 2, 3, 4] Z Z1 ∧ LT tp len q Z1 ∧ CQ len p1 c Z0 J0 D N (tkB tp len q) Z1 J ∧ Mean (d + 3) 49 [.ref 3, .int (i32 (x : Int))] (176, zs Z, J, RP p0 p1 p2 p3 p4 p5 p6 p7) = if tkK tp len q = 1 then (if pAt N n (tkW tp len q) = -1 then some (some (.int (i32 (-1))), (176, zs (rfu Z1 5), J, RP p0 p1 p2 p3 p4 p5 p6 p7)) else if x.testBit (pAt N n (tkW tp len q)).toNat = true then some (some (.int (i32 (-1))), (176, zs (rfu Z1 3), J, RP p0 p1 p2 p3 p4 p5 p6 p7)) else some (some (.int (i32 (pAt N n (tkW tp len q)))), (176, zs Z1, J, RP p0 p1 p2 p3 p4 p5 p6 p7))) else some (some (.int (i32 (-1))), (176, zs (rfu Z1 1), J, RP p0 p1 p2 p3 p4 p5 p6 p7)) := by
  have hp : hv2 p1 := ht.2.2.2
  obtain ⟨Z1, f, l, h', e⟩ := h_takeWord' (d := d) (p0 := p0) (p1 := p1) (p2 := p2) (p3 := p3) (p4 := p4) (p5 := p5) (p6 := p6) (p7 := p7) ht h
  have hn := hd.2.1
  have eP : Z1 p1 2 = (n : Int) := by rw [h'.2.2.1.1.2.1, hn.1]
  obtain ⟨t1, t2⟩ := CQ_tc ht h'.1
  refine ⟨Z1, f, l, h', ?_⟩
  rw [e_X5_takeKnownPiece, k_X5_takeKnownPiece_0]
  by_cases c1 : tkK tp len q = 1
  · rw [if_pos c1] at e ⊢
    have w := h_wordCode (d := d) (J := J) (p0 := p0) (p1 := p1) (p2 := p2) (p3 := p3) (p4 := p4) (p5 := p5) (p6 := p6) (p7 := p7) ht.1 h.2.2.2.1.2 t1 t2 l c1
    have pn := h_pieceNamed (d := d + 1) (J := J) (p0 := p0) (p1 := p1) (p2 := p2) (p3 := p3) (p4 := p4) (p5 := p5) (p6 := p6) (p7 := p7) (h := p1) (Z := Z1) (by omega) hn.2 eP (tkW tp len q)
    have pe : pAt (J (p1 + 1)) n (tkW tp len q) = pAt N n (tkW tp len q) := pAt_c (fun k hk => (h'.2.2.1.2.1 k (by rw [hn.1]; omega)).2.2.2.2)
    rw [pe] at pn
    have pb := pAt_b N n (tkW tp len q)
    generalize pAt N n (tkW tp len q) = y at *
    by_cases c2 : y = -1
    · rw [if_pos c2]
      simp (disch := omega) only [k_X5_takeKnownPiece_4, k_X5_takeKnownPiece_7, k_X5_takeKnownPiece_9, k_X5_takeKnownPiece_20, k_X5_takeKnownPiece_23, k_X5_takeKnownPiece_29, k_X5_takeKnownPiece_34, k_X5_takeKnownPiece_37, k_X5_takeKnownPiece_45, k_X5_takeKnownPiece_50, k_X5_takeKnownPiece_53, li_0, li_1, li_2, li_3, li_4, li_5, li_6, li_9, li_10, li_40, lm_1, lm_2, lm_3, lm_4, zs_ap, i32_add, i32_sub, i32_mul, i32_neg, i32_lt, i32_le, i32_eq, i32_nat, ckn, pka_r, pka_v, if_pos, if_neg, if_true, if_false, e, w, pn, h_refuse', c2]
    · rw [if_neg c2]
      have y0 : 0 ≤ y ∧ y < 6 := by omega
      obtain ⟨k, rfl⟩ : ∃ k : Nat, y = (k : Int) := ⟨y.toNat, by omega⟩
      have o := (ob2 ⟨x, hx⟩ ⟨k, by omega⟩).1
      simp only at o
      rw [Int.toNat_natCast]
      cases c3 : x.testBit k
      · rw [if_neg Bool.false_ne_true]
        rw [c3, bBf] at o
        simp (disch := omega) only [k_X5_takeKnownPiece_4, k_X5_takeKnownPiece_7, k_X5_takeKnownPiece_9, k_X5_takeKnownPiece_20, k_X5_takeKnownPiece_23, k_X5_takeKnownPiece_29, k_X5_takeKnownPiece_34, k_X5_takeKnownPiece_37, k_X5_takeKnownPiece_45, k_X5_takeKnownPiece_50, k_X5_takeKnownPiece_53, li_0, li_1, li_2, li_3, li_4, li_5, li_6, li_9, li_10, li_40, lm_1, lm_2, lm_3, lm_4, zs_ap, i32_add, i32_sub, i32_mul, i32_neg, i32_lt, i32_le, i32_eq, i32_nat, ckn, pka_r, pka_v, if_pos, if_neg, if_true, if_false, e, w, pn, o]
      · rw [if_pos rfl]
        rw [c3, bBt] at o
        simp (disch := omega) only [k_X5_takeKnownPiece_4, k_X5_takeKnownPiece_7, k_X5_takeKnownPiece_9, k_X5_takeKnownPiece_20, k_X5_takeKnownPiece_23, k_X5_takeKnownPiece_29, k_X5_takeKnownPiece_34, k_X5_takeKnownPiece_37, k_X5_takeKnownPiece_45, k_X5_takeKnownPiece_50, k_X5_takeKnownPiece_53, li_0, li_1, li_2, li_3, li_4, li_5, li_6, li_9, li_10, li_40, lm_1, lm_2, lm_3, lm_4, zs_ap, i32_add, i32_sub, i32_mul, i32_neg, i32_lt, i32_le, i32_eq, i32_nat, ckn, pka_r, pka_v, if_pos, if_neg, if_true, if_false, e, w, pn, o, h_refuse']
  · rw [if_neg c1] at e ⊢
    simp (disch := omega) only [k_X5_takeKnownPiece_4, k_X5_takeKnownPiece_7, k_X5_takeKnownPiece_9, k_X5_takeKnownPiece_20, k_X5_takeKnownPiece_23, k_X5_takeKnownPiece_29, k_X5_takeKnownPiece_34, k_X5_takeKnownPiece_37, k_X5_takeKnownPiece_45, k_X5_takeKnownPiece_50, k_X5_takeKnownPiece_53, li_0, li_1, li_2, li_3, li_4, li_5, li_6, li_9, li_10, li_40, lm_1, lm_2, lm_3, lm_4, zs_ap, i32_add, i32_sub, i32_mul, i32_neg, i32_lt, i32_le, i32_eq, i32_nat, ckn, pka_r, pka_v, if_pos, if_neg, if_true, if_false, e]
theorem h_takeUndivided (ht : CT tp len p1 Z0) (hd : DW D n S) (h : CQ len p1 c Z0 J0 D N (tkB tp len q) Z J) : CO len p1 c Z0 J0 (RP p0 p1 p2 p3 p4 p5 p6 p7) (pOf tp len true D N q) (Mean (d + 4) 47 [.ref 3] (176, zs Z, J, RP p0 p1 p2 p3 p4 p5 p6 p7)) := by
  have hp : hv2 p1 := ht.2.2.2
  have hn := hd.2.1
  obtain ⟨x, x1, x2, x3⟩ := h.2.2.1.2.2.2.2.2.1
  obtain ⟨Z1, f, l, h', e⟩ := h_known (d := d) (p0 := p0) (p1 := p1) (p2 := p2) (p3 := p3) (p4 := p4) (p5 := p5) (p6 := p6) (p7 := p7) ht hd h x1
  have z33 : Z1 3 3 = Z 3 3 := by rw [f.1 3 (by decide)]
  unfold pOf
  rw [hn.1, Int.toNat_natCast]
  by_cases c1 : tkK tp len (tkB tp len q) = 1
  · rw [if_pos c1] at e ⊢
    have pb := pAt_b N n (tkW tp len (tkB tp len q))
    generalize pAt N n (tkW tp len (tkB tp len q)) = y at *
    by_cases c2 : y = -1
    · rw [if_pos c2] at e ⊢
      refine CE_rf h'.1 h'.2.1 l ?_
      rw [e_X5_takeUndivided, k_X5_takeUndivided_0]
      simp (disch := omega) only [k_X5_takeUndivided_8, k_X5_takeUndivided_14, k_X5_takeUndivided_16, k_X5_takeUndivided_38, li_0, li_1, li_2, li_3, li_4, li_5, li_6, li_9, li_10, li_40, lm_1, lm_2, lm_3, lm_4, zs_ap, i32_add, i32_sub, i32_mul, i32_neg, i32_lt, i32_le, i32_eq, i32_nat, ckn, pka_r, pka_v, if_pos, if_neg, if_true, if_false, x2, e]
    · rw [if_neg c2] at e ⊢
      obtain ⟨k, rfl⟩ : ∃ k : Nat, y = (k : Int) := ⟨y.toNat, by omega⟩
      rw [Int.toNat_natCast] at e ⊢
      obtain ⟨x', u1, u2', u3, u4⟩ := CD_und hp (by omega) h'.2.2.1 (k := k) (by omega)
      have ex : x' = x := by rw [z33, x2] at u2'; omega
      subst ex
      have b01 := (hd.2.2.2.2.2.2 k (by omega)).1
      rw [if_pos rfl]
      by_cases c3 : D 149 k = 0
      · rw [if_pos c3]
        rw [u3, decide_eq_false (by omega), if_neg Bool.false_ne_true] at e
        have o := (ob2 ⟨x', u1⟩ ⟨k, by omega⟩).2.1
        simp only at o
        refine ⟨_, J, ⟨CX_up (CX_u3 h'.1) (by omega), h'.2.1, u4, ?_, ?_, ?_⟩, ?_⟩
        · rw [u2_ne (by omega), u2_ne (by omega)]; exact h'.2.2.2.1
        · rw [u2_ne (by omega), u2_ne (by omega)]; exact h'.2.2.2.2.1
        · rw [u2_ne (by omega), u2f (by decide), u2f (by decide)]; exact h'.2.2.2.2.2
        · rw [e_X5_takeUndivided, k_X5_takeUndivided_0]
          simp (disch := omega) only [k_X5_takeUndivided_8, k_X5_takeUndivided_14, k_X5_takeUndivided_16, k_X5_takeUndivided_38, li_0, li_1, li_2, li_3, li_4, li_5, li_6, li_9, li_10, li_40, lm_1, lm_2, lm_3, lm_4, zs_ap, i32_add, i32_sub, i32_mul, i32_neg, i32_lt, i32_le, i32_eq, i32_nat, ckn, pka_r, pka_v, if_pos, if_neg, if_true, if_false, x2, e, u2', o, Int.toNat_natCast, nar1, zs_u2]
      · rw [if_neg c3]
        rw [u3, decide_eq_true (by omega), if_pos rfl] at e
        refine CE_rf h'.1 h'.2.1 l ?_
        rw [e_X5_takeUndivided, k_X5_takeUndivided_0]
        simp (disch := omega) only [k_X5_takeUndivided_8, k_X5_takeUndivided_14, k_X5_takeUndivided_16, k_X5_takeUndivided_38, li_0, li_1, li_2, li_3, li_4, li_5, li_6, li_9, li_10, li_40, lm_1, lm_2, lm_3, lm_4, zs_ap, i32_add, i32_sub, i32_mul, i32_neg, i32_lt, i32_le, i32_eq, i32_nat, ckn, pka_r, pka_v, if_pos, if_neg, if_true, if_false, x2, e]
  · rw [if_neg c1] at e ⊢
    refine CE_rf h'.1 h'.2.1 l ?_
    rw [e_X5_takeUndivided, k_X5_takeUndivided_0]
    simp (disch := omega) only [k_X5_takeUndivided_8, k_X5_takeUndivided_14, k_X5_takeUndivided_16, k_X5_takeUndivided_38, li_0, li_1, li_2, li_3, li_4, li_5, li_6, li_9, li_10, li_40, lm_1, lm_2, lm_3, lm_4, zs_ap, i32_add, i32_sub, i32_mul, i32_neg, i32_lt, i32_le, i32_eq, i32_nat, ckn, pka_r, pka_v, if_pos, if_neg, if_true, if_false, x2, e]
theorem h_takeKept (ht : CT tp len p1 Z0) (hd : DW D n S) (h : CQ len p1 c Z0 J0 D N (tkB tp len q) Z J) : CO len p1 c Z0 J0 (RP p0 p1 p2 p3 p4 p5 p6 p7) (pOf tp len false D N q) (Mean (d + 4) 48 [.ref 3] (176, zs Z, J, RP p0 p1 p2 p3 p4 p5 p6 p7)) := by
  have hp : hv2 p1 := ht.2.2.2
  have hn := hd.2.1
  obtain ⟨x, x1, x2, x3⟩ := h.2.2.1.2.2.2.2.2.2
  obtain ⟨Z1, f, l, h', e⟩ := h_known (d := d) (p0 := p0) (p1 := p1) (p2 := p2) (p3 := p3) (p4 := p4) (p5 := p5) (p6 := p6) (p7 := p7) ht hd h x1
  have z34 : Z1 3 4 = Z 3 4 := by rw [f.1 3 (by decide)]
  unfold pOf
  rw [hn.1, Int.toNat_natCast]
  by_cases c1 : tkK tp len (tkB tp len q) = 1
  · rw [if_pos c1] at e ⊢
    have pb := pAt_b N n (tkW tp len (tkB tp len q))
    generalize pAt N n (tkW tp len (tkB tp len q)) = y at *
    by_cases c2 : y = -1
    · rw [if_pos c2] at e ⊢
      refine CE_rf h'.1 h'.2.1 l ?_
      rw [e_X5_takeKept, k_X5_takeKept_0]
      simp (disch := omega) only [k_X5_takeKept_8, k_X5_takeKept_14, k_X5_takeKept_25, k_X5_takeKept_30, k_X5_takeKept_33, k_X5_takeKept_35, k_X5_takeKept_63, li_0, li_1, li_2, li_3, li_4, li_5, li_6, li_9, li_10, li_40, lm_1, lm_2, lm_3, lm_4, zs_ap, i32_add, i32_sub, i32_mul, i32_neg, i32_lt, i32_le, i32_eq, i32_nat, ckn, pka_r, pka_v, if_pos, if_neg, if_true, if_false, x2, e]
    · rw [if_neg c2] at e ⊢
      obtain ⟨k, rfl⟩ : ∃ k : Nat, y = (k : Int) := ⟨y.toNat, by omega⟩
      rw [Int.toNat_natCast] at e ⊢
      obtain ⟨x', u1, u2', u3, u4⟩ := CD_kept hp (by omega) h'.2.2.1 (k := k) (by omega)
      have ex : x' = x := by rw [z34, x2] at u2'; omega
      subst ex
      have b01 := (hd.2.2.2.2.2.2 k (by omega)).2.1
      have b9 := (hd.2.2.2.2.2.2 k (by omega)).2.2.2.1
      have z3k : Z1 (p1 + 3) k = D 152 k := (h'.2.2.1.2.1 k (by omega)).2.1
      rw [if_neg Bool.false_ne_true]
      by_cases c3 : D 150 k = 0
      · rw [if_pos c3, if_neg Bool.false_ne_true]
        rw [u3, decide_eq_false (by omega), if_neg Bool.false_ne_true] at e
        have o := (ob2 ⟨x', u1⟩ ⟨k, by omega⟩).2.1
        simp only at o
        have g := h_takeNumber (d := d) (p0 := p0) (p1 := p1) (p2 := p2) (p3 := p3) (p4 := p4) (p5 := p5) (p6 := p6) (p7 := p7) ht h' (lo := 0) (hi := D 152 k - 1) (by omega) (by omega)
        unfold pNum
        by_cases c4 : eNum tp len (tkB tp len (tkB tp len q)) 0 (D 152 k - 1) = 0
        · rw [if_pos c4]
          obtain ⟨Z2, g1, g2, g3, g4⟩ := g.1 c4
          clear g
          have y34 : Z2 3 4 = (x' : Int) := by
            obtain ⟨y, y1, y2, y3⟩ := g1.2.2.1.2.2.2.2.2.2
            have : y = x' := by
              have t1 : ∀ k : Fin 6, y.testBit k.val = x'.testBit k.val := fun k => by rw [y3 k.val k.isLt, x3 k.val k.isLt]
              have t2 : ∀ a b : Fin 64, (∀ k : Fin 6, a.val.testBit k.val = b.val.testBit k.val) → a = b := by decide +kernel
              have := t2 ⟨y, y1⟩ ⟨x', x1⟩ t1
              exact congrArg Fin.val this
            rw [y2, this]
          have u5 := u4 Z2 (tkV tp len (tkB tp len (tkB tp len q))) g1.2.2.1 (by rw [y34, u2'])
          refine ⟨_, J, ⟨CX_up (CX_u3 g1.1) (by omega), g1.2.1, u5, ?_, ?_, ?_⟩, ?_⟩
          · rw [u2_ne (by omega), u2_ne (by omega)]; exact g1.2.2.2.1
          · rw [u2_ne (by omega), u2_ne (by omega)]; exact g1.2.2.2.2.1
          · rw [u2_ne (by omega), u2f (by decide), u2f (by decide)]; exact g1.2.2.2.2.2
          · rw [e_X5_takeKept, k_X5_takeKept_0]
            simp (disch := omega) only [k_X5_takeKept_8, k_X5_takeKept_14, k_X5_takeKept_25, k_X5_takeKept_30, k_X5_takeKept_33, k_X5_takeKept_35, k_X5_takeKept_63, li_0, li_1, li_2, li_3, li_4, li_5, li_6, li_9, li_10, li_40, lm_1, lm_2, lm_3, lm_4, zs_ap, i32_add, i32_sub, i32_mul, i32_neg, i32_lt, i32_le, i32_eq, i32_nat, ckn, pka_r, pka_v, if_pos, if_neg, if_true, if_false, x2, e, z3k, Int.toNat_natCast, g4, y34, o, zs_u2, u2a (show 4 ≠ 3 by decide), g2]
        · rw [if_neg c4]
          have gg := g.2 c4
          clear g
          refine CE_eq gg (fun Z' J' e2 => ?_)
          rw [e_X5_takeKept, k_X5_takeKept_0]
          simp (disch := omega) only [k_X5_takeKept_8, k_X5_takeKept_14, k_X5_takeKept_25, k_X5_takeKept_30, k_X5_takeKept_33, k_X5_takeKept_35, k_X5_takeKept_63, li_0, li_1, li_2, li_3, li_4, li_5, li_6, li_9, li_10, li_40, lm_1, lm_2, lm_3, lm_4, zs_ap, i32_add, i32_sub, i32_mul, i32_neg, i32_lt, i32_le, i32_eq, i32_nat, ckn, pka_r, pka_v, if_pos, if_neg, if_true, if_false, x2, e, z3k, Int.toNat_natCast, e2]
      · rw [if_neg c3]
        rw [u3, decide_eq_true (by omega), if_pos rfl] at e
        refine CE_rf h'.1 h'.2.1 l ?_
        rw [e_X5_takeKept, k_X5_takeKept_0]
        simp (disch := omega) only [k_X5_takeKept_8, k_X5_takeKept_14, k_X5_takeKept_25, k_X5_takeKept_30, k_X5_takeKept_33, k_X5_takeKept_35, k_X5_takeKept_63, li_0, li_1, li_2, li_3, li_4, li_5, li_6, li_9, li_10, li_40, lm_1, lm_2, lm_3, lm_4, zs_ap, i32_add, i32_sub, i32_mul, i32_neg, i32_lt, i32_le, i32_eq, i32_nat, ckn, pka_r, pka_v, if_pos, if_neg, if_true, if_false, x2, e]
  · rw [if_neg c1] at e ⊢
    refine CE_rf h'.1 h'.2.1 l ?_
    rw [e_X5_takeKept, k_X5_takeKept_0]
    simp (disch := omega) only [k_X5_takeKept_8, k_X5_takeKept_14, k_X5_takeKept_25, k_X5_takeKept_30, k_X5_takeKept_33, k_X5_takeKept_35, k_X5_takeKept_63, li_0, li_1, li_2, li_3, li_4, li_5, li_6, li_9, li_10, li_40, lm_1, lm_2, lm_3, lm_4, zs_ap, i32_add, i32_sub, i32_mul, i32_neg, i32_lt, i32_le, i32_eq, i32_nat, ckn, pka_r, pka_v, if_pos, if_neg, if_true, if_false, x2, e]
end
