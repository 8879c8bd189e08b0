/-! THE MODEL'S close, readEach, readMode, readSmall, readOf -/
section
variable (tp : Nat → Nat) (len : Nat)
def pEachL (N : Nat → Int64) (a : Nat) : Nat → Nat → (Nat → Nat → Int) → Nat → PE
  | 0, _, D, q => .ok (D, N, q)
  | j + 1, i, D, q => pNum tp len q 0 999 (fun v q' => pEachL N a j (i + 1) (u2 D a i v) q')
def pEach (a : Nat) (D : Nat → Nat → Int) (N : Nat → Int64) (q : Nat) : PE := pEachL tp len N a (D 140 17).toNat 0 D (tkB tp len q)
def pModeM (D : Nat → Nat → Int) (N : Nat → Int64) (q : Nat) : PE := if tkIs tp len (tkB tp len q) 12 then .ok (u2 D 140 21 0, N, tkB tp len (tkB tp len q)) else if tkIs tp len (tkB tp len q) 13 then .ok (u2 D 140 21 1, N, tkB tp len (tkB tp len q)) else if tkIs tp len (tkB tp len q) 14 then .ok (u2 D 140 21 2, N, tkB tp len (tkB tp len q)) else .error (1, tkF tp len (tkB tp len q))
def pOf (wh : Bool) (D : Nat → Nat → Int) (N : Nat → Int64) (q : Nat) : PE :=
  if tkK tp len (tkB tp len q) = 1 then
    (if pAt N (D 140 18).toNat (tkW tp len (tkB tp len q)) = -1 then .error (5, tkF tp len (tkB tp len q))
     else if D (if wh then 149 else 150) (pAt N (D 140 18).toNat (tkW tp len (tkB tp len q))).toNat = 0 then
       (if wh then .ok (u2 D 149 (pAt N (D 140 18).toNat (tkW tp len (tkB tp len q))).toNat 1, N, tkB tp len (tkB tp len q))
        else pNum tp len (tkB tp len (tkB tp len q)) 0 (D 152 (pAt N (D 140 18).toNat (tkW tp len (tkB tp len q))).toNat - 1) (fun v q' => .ok (u2 (u2 D 150 (pAt N (D 140 18).toNat (tkW tp len (tkB tp len q))).toNat 1) 153 (pAt N (D 140 18).toNat (tkW tp len (tkB tp len q))).toNat v, N, q')))
     else .error (3, tkF tp len (tkB tp len q)))
  else .error (1, tkF tp len (tkB tp len q))
def pSmall (D : Nat → Nat → Int) (N : Nat → Int64) (q : Nat) : PE :=
  if tkIs tp len q 9 then pNum tp len (tkB tp len q) 0 99 (fun v q' => .ok (u2 (u2 D 140 26 1) 140 19 v, N, q'))
  else if tkIs tp len q 10 then pNum tp len (tkB tp len q) 1 3 (fun v q' => .ok (u2 (u2 D 140 27 1) 140 20 v, N, q'))
  else if tkIs tp len q 15 then pNum tp len (tkB tp len q) 0 (D 140 17 - 1) (fun v q' => .ok (u2 (u2 D 140 29 1) 140 22 v, N, q'))
  else if tkIs tp len q 16 then .ok (u2 D 140 25 1, N, tkB tp len q)
  else .error (1, tkF tp len q)
end
theorem nar0 : vp_nar .boolean (i32 0) = i32 0 := rfl
theorem nar1 : vp_nar .boolean (i32 1) = i32 1 := rfl
section
variable {d : Nat} {J J0 : Nat → Nat → Int64} {Z Z0 D : Nat → Nat → Int} {N : Nat → Int64} {p0 p1 p2 p3 p4 p5 p6 p7 : Nat} {tp : Nat → Nat} {len q : Nat}
theorem g_close (hl : len ≤ 700) (ht : TBz tp Z0) (h : PQ tp len Z0 J0 D N q Z J) : (tkK tp len q = 3 → ∃ Z' : Nat → Nat → Int, PQ tp len Z0 J0 D N (tkB tp len q) Z' J ∧ Mean (d + 3) 159 [.ref 140] (176, zs Z, J, RP p0 p1 p2 p3 p4 p5 p6 p7) = some (some (.int (i32 1)), (176, zs Z', J, RP p0 p1 p2 p3 p4 p5 p6 p7))) ∧ (tkK tp len q ≠ 3 → ME Z0 J0 (RP p0 p1 p2 p3 p4 p5 p6 p7) (1, tkF tp len q) (Mean (d + 3) 159 [.ref 140] (176, zs Z, J, RP p0 p1 p2 p3 p4 p5 p6 p7))) := by
  have hs := g_isSign (d := d + 1) (J := J) (p0 := p0) (p1 := p1) (p2 := p2) (p3 := p3) (p4 := p4) (p5 := p5) (p6 := p6) (p7 := p7) hl h.2.2.1.2.2.2.2 (RX_TBz h.1 ht) h.2.2.1.2.2.2.1 (c := 59) (Or.inl rfl)
  rw [if_pos rfl, show ((59 : Nat) : Int) = 59 from rfl] at hs
  constructor
  · intro c
    obtain ⟨Z', e1, e2⟩ := PQ_scan (d := d) (p0 := p0) (p1 := p1) (p2 := p2) (p3 := p3) (p4 := p4) (p5 := p5) (p6 := p6) (p7 := p7) hl ht h
    refine ⟨Z', e1, ?_⟩
    rw [decide_eq_true c, bBt] at hs
    rw [e_X11_close]
    simp (disch := omega) only [k_X11_close_0, k_X11_close_6, k_X11_close_9, k_X11_close_14, k_X11_close_15, k_X11_close_19, li_0, li_1, li_2, li_3, li_4, li_5, li_6, li_9, li_10, li_40, lm_1, lm_2, lm_3, lm_4, zs_ap, i32_add, i32_sub, i32_mul, i32_neg, i32_lt, i32_le, i32_eq, i32_nat, ckn, pka_r, pka_v, if_pos, if_neg, if_true, if_false, li_59, hs, e2, or_true]
  · intro c
    obtain ⟨Z', e1, e2⟩ := PQ_wrong (d := d + 1) (p0 := p0) (p1 := p1) (p2 := p2) (p3 := p3) (p4 := p4) (p5 := p5) (p6 := p6) (p7 := p7) h 1
    refine PQ_fault h e1.1 (by decide) e1.2 ?_
    rw [decide_eq_false c, bBf] at hs
    rw [e_X11_close]
    simp (disch := omega) only [k_X11_close_0, k_X11_close_6, k_X11_close_9, k_X11_close_14, k_X11_close_15, k_X11_close_19, li_0, li_1, li_2, li_3, li_4, li_5, li_6, li_9, li_10, li_40, lm_1, lm_2, lm_3, lm_4, zs_ap, i32_add, i32_sub, i32_mul, i32_neg, i32_lt, i32_le, i32_eq, i32_nat, ckn, pka_r, pka_v, if_pos, if_neg, if_true, if_false, li_59, hs, e2, true_or]
theorem re_loop (hl : len ≤ 700) (ht : TBz tp Z0) {a S : Nat} (ha : a = 155 ∨ a = 156) (hS : S ≤ 3) (hg : pshn a = some (.inl (.int, 3))) : ∀ (j i q : Nat) (D Z : Nat → Nat → Int), i + j = S → D 140 17 = (S : Int) → PQ tp len Z0 J0 D N q Z J → MO tp len Z0 J0 (RP p0 p1 p2 p3 p4 p5 p6 p7) (pEachL tp len N a j i D q) (den none (Mean (d + 3)) (some .boolean) tQ_X11_readEach (6, [some (.ref 140), some (.ref a), some (.int (i32 (i : Int)))], [], 176, zs Z, J, RP p0 p1 p2 p3 p4 p5 p6 p7)) := by
  intro j
  induction j with
  | zero =>
    intro i q D Z hi hD h
    have h17 : Z 140 17 = (S : Int) := by rw [h.2.2.1.1 140 17 (by decide), hD]
    refine ⟨Z, J, h, ?_⟩
    rw [k_X11_readEach_6]
    simp (disch := omega) only [k_X11_readEach_0, k_X11_readEach_4, k_X11_readEach_14, k_X11_readEach_22, k_X11_readEach_25, k_X11_readEach_34, k_X11_readEach_40, li_0, li_1, li_2, li_3, li_4, li_5, li_6, li_9, li_10, li_40, lm_1, lm_2, lm_3, lm_4, zs_ap, i32_add, i32_sub, i32_mul, i32_neg, i32_lt, i32_le, i32_eq, i32_nat, ckn, pka_r, pka_v, if_pos, if_neg, if_true, if_false, k_X11_readEach_27 (hg_g1 := hg), h17, or_true]
  | succ j ih =>
    intro i q D Z hi hD h
    have h17 : Z 140 17 = (S : Int) := by rw [h.2.2.1.1 140 17 (by decide), hD]
    have hrd : rdA a i := by omega
    have h154 : a ≠ 154 := by omega
    have h140 : 140 ≠ a := by omega
    have hn := PQ_num (d := d) (p0 := p0) (p1 := p1) (p2 := p2) (p3 := p3) (p4 := p4) (p5 := p5) (p6 := p6) (p7 := p7) hl ht h (lo := 0) (hi := 999) (by omega) (by omega)
    unfold pEachL pNum
    by_cases c : eNum tp len q 0 999 = 0
    · rw [if_pos c]
      obtain ⟨Z', e1, e2, e3⟩ := hn.1 c
      clear hn
      have h2 := PQ_u e1 (a := a) (j := i) (tkV tp len q) hrd (Or.inl h154)
      have key := ih (i + 1) (tkB tp len q) (u2 D a i (tkV tp len q)) (u2 Z' a i (tkV tp len q)) (by omega) (by rw [u2a h140, hD]) h2
      have e : den none (Mean (d + 3)) (some .boolean) tQ_X11_readEach (6, [some (.ref 140), some (.ref a), some (.int (i32 (i : Int)))], [], 176, zs Z, J, RP p0 p1 p2 p3 p4 p5 p6 p7) = den none (Mean (d + 3)) (some .boolean) tQ_X11_readEach (6, [some (.ref 140), some (.ref a), some (.int (i32 ((i + 1 : Nat) : Int)))], [], 176, zs (u2 Z' a i (tkV tp len q)), J, RP p0 p1 p2 p3 p4 p5 p6 p7) := by
        rw [k_X11_readEach_6]
        simp (disch := omega) only [k_X11_readEach_0, k_X11_readEach_4, k_X11_readEach_14, k_X11_readEach_22, k_X11_readEach_25, k_X11_readEach_34, k_X11_readEach_40, li_0, li_1, li_2, li_3, li_4, li_5, li_6, li_9, li_10, li_40, lm_1, lm_2, lm_3, lm_4, zs_ap, i32_add, i32_sub, i32_mul, i32_neg, i32_lt, i32_le, i32_eq, i32_nat, ckn, pka_r, pka_v, if_pos, if_neg, if_true, if_false, k_X11_readEach_27 (hg_g1 := hg), h17, li_999, e3, e2, Int.toNat_natCast, zs_u2]
        rfl
      rw [e]
      exact key
    · rw [if_neg c]
      obtain ⟨Z', e1, e3⟩ := hn.2 c
      refine PQ_fault h e1.1 (by decide) e1.2 ?_
      rw [k_X11_readEach_6]
      simp (disch := omega) only [k_X11_readEach_0, k_X11_readEach_4, k_X11_readEach_14, k_X11_readEach_22, k_X11_readEach_25, k_X11_readEach_34, k_X11_readEach_40, li_0, li_1, li_2, li_3, li_4, li_5, li_6, li_9, li_10, li_40, lm_1, lm_2, lm_3, lm_4, zs_ap, i32_add, i32_sub, i32_mul, i32_neg, i32_lt, i32_le, i32_eq, i32_nat, ckn, pka_r, pka_v, if_pos, if_neg, if_true, if_false, k_X11_readEach_27 (hg_g1 := hg), h17, li_999, e3, true_or]
theorem g_readEach (hl : len ≤ 700) (ht : TBz tp Z0) {a S : Nat} (ha : a = 155 ∨ a = 156) (hS : S ≤ 3) (hg : pshn a = some (.inl (.int, 3))) (hD : D 140 17 = (S : Int)) (h : PQ tp len Z0 J0 D N q Z J) : MO tp len Z0 J0 (RP p0 p1 p2 p3 p4 p5 p6 p7) (pEach tp len a D N q) (Mean (d + 4) 155 [.ref 140, .ref a] (176, zs Z, J, RP p0 p1 p2 p3 p4 p5 p6 p7)) := by
  obtain ⟨Z', e1, e2⟩ := PQ_scan (d := d + 1) (p0 := p0) (p1 := p1) (p2 := p2) (p3 := p3) (p4 := p4) (p5 := p5) (p6 := p6) (p7 := p7) hl ht h
  unfold pEach
  rw [show (D 140 17).toNat = S by omega, e_X11_readEach]
  simp (disch := omega) only [k_X11_readEach_0, k_X11_readEach_4, k_X11_readEach_14, k_X11_readEach_22, k_X11_readEach_25, k_X11_readEach_34, k_X11_readEach_40, li_0, li_1, li_2, li_3, li_4, li_5, li_6, li_9, li_10, li_40, lm_1, lm_2, lm_3, lm_4, zs_ap, i32_add, i32_sub, i32_mul, i32_neg, i32_lt, i32_le, i32_eq, i32_nat, ckn, pka_r, pka_v, if_pos, if_neg, if_true, if_false, e2]
  exact re_loop hl ht ha hS hg S 0 _ D Z' (by omega) hD e1
theorem g_readMode (hl : len ≤ 700) (ht : TBz tp Z0) (h : PQ tp len Z0 J0 D N q Z J) : MO tp len Z0 J0 (RP p0 p1 p2 p3 p4 p5 p6 p7) (pModeM tp len D N q) (Mean (d + 8) 156 [.ref 140] (176, zs Z, J, RP p0 p1 p2 p3 p4 p5 p6 p7)) := by
  obtain ⟨Z1, a1, a2⟩ := PQ_scan (d := d + 5) (p0 := p0) (p1 := p1) (p2 := p2) (p3 := p3) (p4 := p4) (p5 := p5) (p6 := p6) (p7 := p7) hl ht h
  have i12 := PQ_is (d := d) (p0 := p0) (p1 := p1) (p2 := p2) (p3 := p3) (p4 := p4) (p5 := p5) (p6 := p6) (p7 := p7) hl ht a1 (t := 12) (by decide) (by decide)
  have i13 := PQ_is (d := d) (p0 := p0) (p1 := p1) (p2 := p2) (p3 := p3) (p4 := p4) (p5 := p5) (p6 := p6) (p7 := p7) hl ht a1 (t := 13) (by decide) (by decide)
  have i14 := PQ_is (d := d) (p0 := p0) (p1 := p1) (p2 := p2) (p3 := p3) (p4 := p4) (p5 := p5) (p6 := p6) (p7 := p7) hl ht a1 (t := 14) (by decide) (by decide)
  have fin : ∀ v : Int, 0 ≤ v ∧ v ≤ 2 → ∃ Z' : Nat → Nat → Int, PQ tp len Z0 J0 (u2 D 140 21 v) N (tkB tp len (tkB tp len q)) Z' J ∧ den none (Mean (d + 7)) (some .boolean) tQ_X11_readMode (44, [some (.ref 140), none], [.int (i32 v)], 176, zs Z1, J, RP p0 p1 p2 p3 p4 p5 p6 p7) = some (some (.int (i32 1)), (176, zs Z', J, RP p0 p1 p2 p3 p4 p5 p6 p7)) := fun v hv => by
    have h2 := PQ_u a1 (a := 140) (j := 21) v (by omega) (by omega)
    obtain ⟨Z', b1, b2⟩ := PQ_scan (d := d + 5) (p0 := p0) (p1 := p1) (p2 := p2) (p3 := p3) (p4 := p4) (p5 := p5) (p6 := p6) (p7 := p7) hl ht h2
    refine ⟨Z', b1, ?_⟩
    simp (disch := omega) only [k_X11_readMode_0, k_X11_readMode_4, k_X11_readMode_10, k_X11_readMode_13, k_X11_readMode_17, k_X11_readMode_23, k_X11_readMode_26, k_X11_readMode_30, k_X11_readMode_36, k_X11_readMode_39, k_X11_readMode_43, k_X11_readMode_44, k_X11_readMode_50, k_X11_readMode_55, k_X11_readMode_56, k_X11_readMode_65, li_0, li_1, li_2, li_3, li_4, li_5, li_6, li_9, li_10, li_40, lm_1, lm_2, lm_3, lm_4, zs_ap, i32_add, i32_sub, i32_mul, i32_neg, i32_lt, i32_le, i32_eq, i32_nat, ckn, pka_r, pka_v, if_pos, if_neg, if_true, if_false, zs_u2, b2, or_true]
  unfold pModeM
  rw [e_X11_readMode]
  cases c12 : tkIs tp len (tkB tp len q) 12
  · rw [c12, bBf] at i12
    rw [if_neg Bool.false_ne_true]
    cases c13 : tkIs tp len (tkB tp len q) 13
    · rw [c13, bBf] at i13
      rw [if_neg Bool.false_ne_true]
      cases c14 : tkIs tp len (tkB tp len q) 14
      · rw [c14, bBf] at i14
        rw [if_neg Bool.false_ne_true]
        obtain ⟨Z', e1, e3⟩ := PQ_wrong (d := d + 6) (p0 := p0) (p1 := p1) (p2 := p2) (p3 := p3) (p4 := p4) (p5 := p5) (p6 := p6) (p7 := p7) a1 1
        refine PQ_fault a1 e1.1 (by decide) e1.2 ?_
        simp (disch := omega) only [k_X11_readMode_0, k_X11_readMode_4, k_X11_readMode_10, k_X11_readMode_13, k_X11_readMode_17, k_X11_readMode_23, k_X11_readMode_26, k_X11_readMode_30, k_X11_readMode_36, k_X11_readMode_39, k_X11_readMode_43, k_X11_readMode_44, k_X11_readMode_50, k_X11_readMode_55, k_X11_readMode_56, k_X11_readMode_65, li_0, li_1, li_2, li_3, li_4, li_5, li_6, li_9, li_10, li_40, lm_1, lm_2, lm_3, lm_4, zs_ap, i32_add, i32_sub, i32_mul, i32_neg, i32_lt, i32_le, i32_eq, i32_nat, ckn, pka_r, pka_v, if_pos, if_neg, if_true, if_false, a2, i12, i13, i14, e3, true_or]
      · rw [c14, bBt] at i14
        rw [if_pos rfl]
        obtain ⟨Z', b1, b2⟩ := fin 2 (by omega)
        refine ⟨Z', J, b1, ?_⟩
        simp (disch := omega) only [k_X11_readMode_0, k_X11_readMode_4, k_X11_readMode_10, k_X11_readMode_13, k_X11_readMode_17, k_X11_readMode_23, k_X11_readMode_26, k_X11_readMode_30, k_X11_readMode_36, k_X11_readMode_39, k_X11_readMode_43, k_X11_readMode_50, k_X11_readMode_55, k_X11_readMode_56, k_X11_readMode_65, li_0, li_1, li_2, li_3, li_4, li_5, li_6, li_9, li_10, li_40, lm_1, lm_2, lm_3, lm_4, zs_ap, i32_add, i32_sub, i32_mul, i32_neg, i32_lt, i32_le, i32_eq, i32_nat, ckn, pka_r, pka_v, if_pos, if_neg, if_true, if_false, a2, i12, i13, i14]
        exact b2
    · rw [c13, bBt] at i13
      rw [if_pos rfl]
      obtain ⟨Z', b1, b2⟩ := fin 1 (by omega)
      refine ⟨Z', J, b1, ?_⟩
      simp (disch := omega) only [k_X11_readMode_0, k_X11_readMode_4, k_X11_readMode_10, k_X11_readMode_13, k_X11_readMode_17, k_X11_readMode_23, k_X11_readMode_26, k_X11_readMode_30, k_X11_readMode_36, k_X11_readMode_39, k_X11_readMode_43, k_X11_readMode_50, k_X11_readMode_55, k_X11_readMode_56, k_X11_readMode_65, li_0, li_1, li_2, li_3, li_4, li_5, li_6, li_9, li_10, li_40, lm_1, lm_2, lm_3, lm_4, zs_ap, i32_add, i32_sub, i32_mul, i32_neg, i32_lt, i32_le, i32_eq, i32_nat, ckn, pka_r, pka_v, if_pos, if_neg, if_true, if_false, a2, i12, i13]
      exact b2
  · rw [c12, bBt] at i12
    rw [if_pos rfl]
    obtain ⟨Z', b1, b2⟩ := fin 0 (by omega)
    refine ⟨Z', J, b1, ?_⟩
    simp (disch := omega) only [k_X11_readMode_0, k_X11_readMode_4, k_X11_readMode_10, k_X11_readMode_13, k_X11_readMode_17, k_X11_readMode_23, k_X11_readMode_26, k_X11_readMode_30, k_X11_readMode_36, k_X11_readMode_39, k_X11_readMode_43, k_X11_readMode_50, k_X11_readMode_55, k_X11_readMode_56, k_X11_readMode_65, li_0, li_1, li_2, li_3, li_4, li_5, li_6, li_9, li_10, li_40, lm_1, lm_2, lm_3, lm_4, zs_ap, i32_add, i32_sub, i32_mul, i32_neg, i32_lt, i32_le, i32_eq, i32_nat, ckn, pka_r, pka_v, if_pos, if_neg, if_true, if_false, a2, i12]
    exact b2
end
