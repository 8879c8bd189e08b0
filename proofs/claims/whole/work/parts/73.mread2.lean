/-! THE MODEL'S readSmall, readOf -/
section
variable {d : Nat} {J J0 : Nat → Nat → Int64} {Z Z0 D : Nat → Nat → Int} {N : Nat → Int64} {p0 p1 p2 p3 p4 p5 p6 p7 : Nat} {tp : Nat → Nat} {len q : Nat}
theorem g_readSmall (hl : len ≤ 700) (ht : TBz tp Z0) {S : Nat} (hS : S ≤ 3) (hD : D 140 17 = (S : Int)) (h : PQ tp len Z0 J0 D N q Z J) : MO tp len Z0 J0 (RP p0 p1 p2 p3 p4 p5 p6 p7) (pSmall tp len D N q) (Mean (d + 8) 158 [.ref 140] (176, zs Z, J, RP p0 p1 p2 p3 p4 p5 p6 p7)) := by
  have h17 : Z 140 17 = (S : Int) := by rw [h.2.2.1.1 140 17 (by decide), hD]
  have i9 := PQ_is (d := d) (p0 := p0) (p1 := p1) (p2 := p2) (p3 := p3) (p4 := p4) (p5 := p5) (p6 := p6) (p7 := p7) hl ht h (t := 9) (by decide) (by decide)
  have i10 := PQ_is (d := d) (p0 := p0) (p1 := p1) (p2 := p2) (p3 := p3) (p4 := p4) (p5 := p5) (p6 := p6) (p7 := p7) hl ht h (t := 10) (by decide) (by decide)
  have i15 := PQ_is (d := d) (p0 := p0) (p1 := p1) (p2 := p2) (p3 := p3) (p4 := p4) (p5 := p5) (p6 := p6) (p7 := p7) hl ht h (t := 15) (by decide) (by decide)
  have i16 := PQ_is (d := d) (p0 := p0) (p1 := p1) (p2 := p2) (p3 := p3) (p4 := p4) (p5 := p5) (p6 := p6) (p7 := p7) hl ht h (t := 16) (by decide) (by decide)
  obtain ⟨Z1, a1, a2⟩ := PQ_scan (d := d + 5) (p0 := p0) (p1 := p1) (p2 := p2) (p3 := p3) (p4 := p4) (p5 := p5) (p6 := p6) (p7 := p7) hl ht h
  have h17' : Z1 140 17 = (S : Int) := by rw [a1.2.2.1.1 140 17 (by decide), hD]
  unfold pSmall
  rw [e_X11_readSmall]
  cases c9 : tkIs tp len q 9
  · rw [c9, bBf] at i9
    rw [if_neg Bool.false_ne_true]
    cases c10 : tkIs tp len q 10
    · rw [c10, bBf] at i10
      rw [if_neg Bool.false_ne_true]
      cases c15 : tkIs tp len q 15
      · rw [c15, bBf] at i15
        rw [if_neg Bool.false_ne_true]
        cases c16 : tkIs tp len q 16
        · rw [c16, bBf] at i16
          rw [if_neg Bool.false_ne_true]
          obtain ⟨Z', e1, e3⟩ := PQ_wrong (d := d + 6) (p0 := p0) (p1 := p1) (p2 := p2) (p3 := p3) (p4 := p4) (p5 := p5) (p6 := p6) (p7 := p7) h 1
          refine PQ_fault h e1.1 (by decide) e1.2 ?_
          simp (disch := omega) only [k_X11_readSmall_0, k_X11_readSmall_6, k_X11_readSmall_13, k_X11_readSmall_20, k_X11_readSmall_25, k_X11_readSmall_29, k_X11_readSmall_33, k_X11_readSmall_39, k_X11_readSmall_42, k_X11_readSmall_47, k_X11_readSmall_48, k_X11_readSmall_52, k_X11_readSmall_56, k_X11_readSmall_68, k_X11_readSmall_71, k_X11_readSmall_73, k_X11_readSmall_84, k_X11_readSmall_88, k_X11_readSmall_99, k_X11_readSmall_102, k_X11_readSmall_104, k_X11_readSmall_115, k_X11_readSmall_119, k_X11_readSmall_135, k_X11_readSmall_138, k_X11_readSmall_140, k_X11_readSmall_151, k_X11_readSmall_156, li_0, li_1, li_2, li_3, li_4, li_5, li_6, li_9, li_10, li_40, lm_1, lm_2, lm_3, lm_4, zs_ap, i32_add, i32_sub, i32_mul, i32_neg, i32_lt, i32_le, i32_eq, i32_nat, ckn, pka_r, pka_v, if_pos, if_neg, if_true, if_false, i9, i10, i15, i16, e3, true_or]
        · rw [c16, bBt] at i16
          rw [if_pos rfl]
          refine ⟨u2 Z1 140 25 1, J, PQ_u a1 (a := 140) (j := 25) 1 (by omega) (by omega), ?_⟩
          simp (disch := omega) only [k_X11_readSmall_0, k_X11_readSmall_6, k_X11_readSmall_13, k_X11_readSmall_20, k_X11_readSmall_25, k_X11_readSmall_29, k_X11_readSmall_33, k_X11_readSmall_39, k_X11_readSmall_42, k_X11_readSmall_47, k_X11_readSmall_48, k_X11_readSmall_52, k_X11_readSmall_56, k_X11_readSmall_68, k_X11_readSmall_71, k_X11_readSmall_73, k_X11_readSmall_84, k_X11_readSmall_88, k_X11_readSmall_99, k_X11_readSmall_102, k_X11_readSmall_104, k_X11_readSmall_115, k_X11_readSmall_119, k_X11_readSmall_135, k_X11_readSmall_138, k_X11_readSmall_140, k_X11_readSmall_151, k_X11_readSmall_156, li_0, li_1, li_2, li_3, li_4, li_5, li_6, li_9, li_10, li_40, lm_1, lm_2, lm_3, lm_4, zs_ap, i32_add, i32_sub, i32_mul, i32_neg, i32_lt, i32_le, i32_eq, i32_nat, ckn, pka_r, pka_v, if_pos, if_neg, if_true, if_false, i9, i10, i15, i16, a2, zs_u2, or_true]
      · rw [c15, bBt] at i15
        rw [if_pos rfl]
        have hu := PQ_u a1 (a := 140) (j := 29) 1 (by omega) (by omega)
        have hn := PQ_num (d := d + 4) (p0 := p0) (p1 := p1) (p2 := p2) (p3 := p3) (p4 := p4) (p5 := p5) (p6 := p6) (p7 := p7) hl ht hu (lo := 0) (hi := (S : Int) - 1) (by omega) (by omega)
        rw [hD]
        unfold pNum
        by_cases c : eNum tp len (tkB tp len q) 0 ((S : Int) - 1) = 0
        · rw [if_pos c]
          obtain ⟨Z', e1, e2, e3⟩ := hn.1 c
          clear hn
          refine ⟨u2 Z' 140 22 (tkV tp len (tkB tp len q)), J, PQ_u e1 (a := 140) (j := 22) _ (by decide) (Or.inl (by decide)), ?_⟩
          simp (disch := omega) only [k_X11_readSmall_0, k_X11_readSmall_6, k_X11_readSmall_13, k_X11_readSmall_20, k_X11_readSmall_25, k_X11_readSmall_29, k_X11_readSmall_33, k_X11_readSmall_39, k_X11_readSmall_42, k_X11_readSmall_47, k_X11_readSmall_48, k_X11_readSmall_52, k_X11_readSmall_56, k_X11_readSmall_68, k_X11_readSmall_71, k_X11_readSmall_73, k_X11_readSmall_84, k_X11_readSmall_88, k_X11_readSmall_99, k_X11_readSmall_102, k_X11_readSmall_104, k_X11_readSmall_115, k_X11_readSmall_119, k_X11_readSmall_135, k_X11_readSmall_138, k_X11_readSmall_140, k_X11_readSmall_151, k_X11_readSmall_156, li_0, li_1, li_2, li_3, li_4, li_5, li_6, li_9, li_10, li_40, lm_1, lm_2, lm_3, lm_4, zs_ap, i32_add, i32_sub, i32_mul, i32_neg, i32_lt, i32_le, i32_eq, i32_nat, ckn, pka_r, pka_v, if_pos, if_neg, if_true, if_false, i9, i10, i15, a2, zs_u2, u2f (show 17 ≠ 29 by decide), h17', e3, e2, or_true]
        · rw [if_neg c]
          obtain ⟨Z', e1, e3⟩ := hn.2 c
          clear hn
          refine PQ_fault hu e1.1 (by decide) e1.2 ?_
          simp (disch := omega) only [k_X11_readSmall_0, k_X11_readSmall_6, k_X11_readSmall_13, k_X11_readSmall_20, k_X11_readSmall_25, k_X11_readSmall_29, k_X11_readSmall_33, k_X11_readSmall_39, k_X11_readSmall_42, k_X11_readSmall_47, k_X11_readSmall_48, k_X11_readSmall_52, k_X11_readSmall_56, k_X11_readSmall_68, k_X11_readSmall_71, k_X11_readSmall_73, k_X11_readSmall_84, k_X11_readSmall_88, k_X11_readSmall_99, k_X11_readSmall_102, k_X11_readSmall_104, k_X11_readSmall_115, k_X11_readSmall_119, k_X11_readSmall_135, k_X11_readSmall_138, k_X11_readSmall_140, k_X11_readSmall_151, k_X11_readSmall_156, li_0, li_1, li_2, li_3, li_4, li_5, li_6, li_9, li_10, li_40, lm_1, lm_2, lm_3, lm_4, zs_ap, i32_add, i32_sub, i32_mul, i32_neg, i32_lt, i32_le, i32_eq, i32_nat, ckn, pka_r, pka_v, if_pos, if_neg, if_true, if_false, i9, i10, i15, a2, zs_u2, u2f (show 17 ≠ 29 by decide), h17', e3, true_or]
    · rw [c10, bBt] at i10
      rw [if_pos rfl]
      have hu := PQ_u a1 (a := 140) (j := 27) 1 (by omega) (by omega)
      have hn := PQ_num (d := d + 4) (p0 := p0) (p1 := p1) (p2 := p2) (p3 := p3) (p4 := p4) (p5 := p5) (p6 := p6) (p7 := p7) hl ht hu (lo := 1) (hi := 3) (by omega) (by omega)
      unfold pNum
      by_cases c : eNum tp len (tkB tp len q) 1 3 = 0
      · rw [if_pos c]
        obtain ⟨Z', e1, e2, e3⟩ := hn.1 c
        clear hn
        refine ⟨u2 Z' 140 20 (tkV tp len (tkB tp len q)), J, PQ_u e1 (a := 140) (j := 20) _ (by decide) (Or.inl (by decide)), ?_⟩
        cases c15 : tkIs tp len q 15
        · rw [c15, bBf] at i15
          simp (disch := omega) only [k_X11_readSmall_0, k_X11_readSmall_6, k_X11_readSmall_13, k_X11_readSmall_20, k_X11_readSmall_25, k_X11_readSmall_29, k_X11_readSmall_33, k_X11_readSmall_39, k_X11_readSmall_42, k_X11_readSmall_47, k_X11_readSmall_48, k_X11_readSmall_52, k_X11_readSmall_56, k_X11_readSmall_68, k_X11_readSmall_71, k_X11_readSmall_73, k_X11_readSmall_84, k_X11_readSmall_88, k_X11_readSmall_99, k_X11_readSmall_102, k_X11_readSmall_104, k_X11_readSmall_115, k_X11_readSmall_119, k_X11_readSmall_135, k_X11_readSmall_138, k_X11_readSmall_140, k_X11_readSmall_151, k_X11_readSmall_156, li_0, li_1, li_2, li_3, li_4, li_5, li_6, li_9, li_10, li_40, lm_1, lm_2, lm_3, lm_4, zs_ap, i32_add, i32_sub, i32_mul, i32_neg, i32_lt, i32_le, i32_eq, i32_nat, ckn, pka_r, pka_v, if_pos, if_neg, if_true, if_false, i9, i10, i15, a2, zs_u2, e3, e2, or_true]
        · rw [c15, bBt] at i15
          simp (disch := omega) only [k_X11_readSmall_0, k_X11_readSmall_6, k_X11_readSmall_13, k_X11_readSmall_20, k_X11_readSmall_25, k_X11_readSmall_29, k_X11_readSmall_33, k_X11_readSmall_39, k_X11_readSmall_42, k_X11_readSmall_47, k_X11_readSmall_48, k_X11_readSmall_52, k_X11_readSmall_56, k_X11_readSmall_68, k_X11_readSmall_71, k_X11_readSmall_73, k_X11_readSmall_84, k_X11_readSmall_88, k_X11_readSmall_99, k_X11_readSmall_102, k_X11_readSmall_104, k_X11_readSmall_115, k_X11_readSmall_119, k_X11_readSmall_135, k_X11_readSmall_138, k_X11_readSmall_140, k_X11_readSmall_151, k_X11_readSmall_156, li_0, li_1, li_2, li_3, li_4, li_5, li_6, li_9, li_10, li_40, lm_1, lm_2, lm_3, lm_4, zs_ap, i32_add, i32_sub, i32_mul, i32_neg, i32_lt, i32_le, i32_eq, i32_nat, ckn, pka_r, pka_v, if_pos, if_neg, if_true, if_false, i9, i10, i15, a2, zs_u2, e3, e2, or_true]
      · rw [if_neg c]
        obtain ⟨Z', e1, e3⟩ := hn.2 c
        clear hn
        refine PQ_fault hu e1.1 (by decide) e1.2 ?_
        cases c15 : tkIs tp len q 15
        · rw [c15, bBf] at i15
          simp (disch := omega) only [k_X11_readSmall_0, k_X11_readSmall_6, k_X11_readSmall_13, k_X11_readSmall_20, k_X11_readSmall_25, k_X11_readSmall_29, k_X11_readSmall_33, k_X11_readSmall_39, k_X11_readSmall_42, k_X11_readSmall_47, k_X11_readSmall_48, k_X11_readSmall_52, k_X11_readSmall_56, k_X11_readSmall_68, k_X11_readSmall_71, k_X11_readSmall_73, k_X11_readSmall_84, k_X11_readSmall_88, k_X11_readSmall_99, k_X11_readSmall_102, k_X11_readSmall_104, k_X11_readSmall_115, k_X11_readSmall_119, k_X11_readSmall_135, k_X11_readSmall_138, k_X11_readSmall_140, k_X11_readSmall_151, k_X11_readSmall_156, li_0, li_1, li_2, li_3, li_4, li_5, li_6, li_9, li_10, li_40, lm_1, lm_2, lm_3, lm_4, zs_ap, i32_add, i32_sub, i32_mul, i32_neg, i32_lt, i32_le, i32_eq, i32_nat, ckn, pka_r, pka_v, if_pos, if_neg, if_true, if_false, i9, i10, i15, a2, zs_u2, e3, true_or]
        · rw [c15, bBt] at i15
          simp (disch := omega) only [k_X11_readSmall_0, k_X11_readSmall_6, k_X11_readSmall_13, k_X11_readSmall_20, k_X11_readSmall_25, k_X11_readSmall_29, k_X11_readSmall_33, k_X11_readSmall_39, k_X11_readSmall_42, k_X11_readSmall_47, k_X11_readSmall_48, k_X11_readSmall_52, k_X11_readSmall_56, k_X11_readSmall_68, k_X11_readSmall_71, k_X11_readSmall_73, k_X11_readSmall_84, k_X11_readSmall_88, k_X11_readSmall_99, k_X11_readSmall_102, k_X11_readSmall_104, k_X11_readSmall_115, k_X11_readSmall_119, k_X11_readSmall_135, k_X11_readSmall_138, k_X11_readSmall_140, k_X11_readSmall_151, k_X11_readSmall_156, li_0, li_1, li_2, li_3, li_4, li_5, li_6, li_9, li_10, li_40, lm_1, lm_2, lm_3, lm_4, zs_ap, i32_add, i32_sub, i32_mul, i32_neg, i32_lt, i32_le, i32_eq, i32_nat, ckn, pka_r, pka_v, if_pos, if_neg, if_true, if_false, i9, i10, i15, a2, zs_u2, e3, true_or]
  · rw [c9, bBt] at i9
    rw [if_pos rfl]
    have hu := PQ_u a1 (a := 140) (j := 26) 1 (by omega) (by omega)
    have hn := PQ_num (d := d + 4) (p0 := p0) (p1 := p1) (p2 := p2) (p3 := p3) (p4 := p4) (p5 := p5) (p6 := p6) (p7 := p7) hl ht hu (lo := 0) (hi := 99) (by omega) (by omega)
    unfold pNum
    by_cases c : eNum tp len (tkB tp len q) 0 99 = 0
    · rw [if_pos c]
      obtain ⟨Z', e1, e2, e3⟩ := hn.1 c
      clear hn
      refine ⟨u2 Z' 140 19 (tkV tp len (tkB tp len q)), J, PQ_u e1 (a := 140) (j := 19) _ (by decide) (Or.inl (by decide)), ?_⟩
      simp (disch := omega) only [k_X11_readSmall_0, k_X11_readSmall_6, k_X11_readSmall_13, k_X11_readSmall_20, k_X11_readSmall_25, k_X11_readSmall_29, k_X11_readSmall_33, k_X11_readSmall_39, k_X11_readSmall_42, k_X11_readSmall_47, k_X11_readSmall_48, k_X11_readSmall_52, k_X11_readSmall_56, k_X11_readSmall_68, k_X11_readSmall_71, k_X11_readSmall_73, k_X11_readSmall_84, k_X11_readSmall_88, k_X11_readSmall_99, k_X11_readSmall_102, k_X11_readSmall_104, k_X11_readSmall_115, k_X11_readSmall_119, k_X11_readSmall_135, k_X11_readSmall_138, k_X11_readSmall_140, k_X11_readSmall_151, k_X11_readSmall_156, li_0, li_1, li_2, li_3, li_4, li_5, li_6, li_9, li_10, li_40, lm_1, lm_2, lm_3, lm_4, zs_ap, i32_add, i32_sub, i32_mul, i32_neg, i32_lt, i32_le, i32_eq, i32_nat, ckn, pka_r, pka_v, if_pos, if_neg, if_true, if_false, i9, i10, i15, a2, zs_u2, li_99, e3, e2, or_true]
    · rw [if_neg c]
      obtain ⟨Z', e1, e3⟩ := hn.2 c
      clear hn
      refine PQ_fault hu e1.1 (by decide) e1.2 ?_
      simp (disch := omega) only [k_X11_readSmall_0, k_X11_readSmall_6, k_X11_readSmall_13, k_X11_readSmall_20, k_X11_readSmall_25, k_X11_readSmall_29, k_X11_readSmall_33, k_X11_readSmall_39, k_X11_readSmall_42, k_X11_readSmall_47, k_X11_readSmall_48, k_X11_readSmall_52, k_X11_readSmall_56, k_X11_readSmall_68, k_X11_readSmall_71, k_X11_readSmall_73, k_X11_readSmall_84, k_X11_readSmall_88, k_X11_readSmall_99, k_X11_readSmall_102, k_X11_readSmall_104, k_X11_readSmall_115, k_X11_readSmall_119, k_X11_readSmall_135, k_X11_readSmall_138, k_X11_readSmall_140, k_X11_readSmall_151, k_X11_readSmall_156, li_0, li_1, li_2, li_3, li_4, li_5, li_6, li_9, li_10, li_40, lm_1, lm_2, lm_3, lm_4, zs_ap, i32_add, i32_sub, i32_mul, i32_neg, i32_lt, i32_le, i32_eq, i32_nat, ckn, pka_r, pka_v, if_pos, if_neg, if_true, if_false, i9, i10, i15, a2, zs_u2, li_99, e3, true_or]
theorem g_readOf (hl : len ≤ 700) (ht : TBz tp Z0) {n : Nat} (hn6 : n ≤ 6) (hD : D 140 18 = (n : Int)) (hb : ∀ k : Nat, k < n → (0 ≤ D 149 k ∧ D 149 k ≤ 1) ∧ (0 ≤ D 150 k ∧ D 150 k ≤ 1) ∧ (1 ≤ D 152 k ∧ D 152 k ≤ 9)) (h : PQ tp len Z0 J0 D N q Z J) (wh : Bool) : MO tp len Z0 J0 (RP p0 p1 p2 p3 p4 p5 p6 p7) (pOf tp len wh D N q) (Mean (d + 5) 154 [.ref 140, .int (i32 (bB wh))] (176, zs Z, J, RP p0 p1 p2 p3 p4 p5 p6 p7)) := by
  obtain ⟨Z1, a1, a2⟩ := PQ_scan (d := d + 2) (p0 := p0) (p1 := p1) (p2 := p2) (p3 := p3) (p4 := p4) (p5 := p5) (p6 := p6) (p7 := p7) hl ht h
  have hk := PQ_kind a1
  unfold pOf
  rw [show (D 140 18).toNat = n by omega, e_X11_readOf]
  by_cases c1 : tkK tp len (tkB tp len q) = 1
  · rw [if_pos c1]
    have k5 := hk.2.1 c1
    have hat := PQ_at (d := d + 1) (p0 := p0) (p1 := p1) (p2 := p2) (p3 := p3) (p4 := p4) (p5 := p5) (p6 := p6) (p7 := p7) hl ht a1 hD hn6
    have hpb := pAt_b N n (tkW tp len (tkB tp len q))
    generalize hp : pAt N n (tkW tp len (tkB tp len q)) = p at *
    by_cases cp : p = -1
    · rw [if_pos cp]
      subst cp
      obtain ⟨Z', e1, e3⟩ := PQ_wrong (d := d + 3) (p0 := p0) (p1 := p1) (p2 := p2) (p3 := p3) (p4 := p4) (p5 := p5) (p6 := p6) (p7 := p7) a1 5
      refine PQ_fault a1 e1.1 (by decide) e1.2 ?_
      simp (disch := omega) only [k_X11_readOf_0, k_X11_readOf_4, k_X11_readOf_12, k_X11_readOf_17, k_X11_readOf_18, k_X11_readOf_22, k_X11_readOf_28, k_X11_readOf_32, k_X11_readOf_38, k_X11_readOf_41, k_X11_readOf_44, k_X11_readOf_50, k_X11_readOf_53, k_X11_readOf_58, k_X11_readOf_59, k_X11_readOf_64, k_X11_readOf_69, k_X11_readOf_70, k_X11_readOf_74, k_X11_readOf_78, k_X11_readOf_85, k_X11_readOf_87, k_X11_readOf_94, k_X11_readOf_102, k_X11_readOf_107, k_X11_readOf_110, k_X11_readOf_112, k_X11_readOf_122, li_0, li_1, li_2, li_3, li_4, li_5, li_6, li_9, li_10, li_40, lm_1, lm_2, lm_3, lm_4, zs_ap, i32_add, i32_sub, i32_mul, i32_neg, i32_lt, i32_le, i32_eq, i32_nat, ckn, pka_r, pka_v, if_pos, if_neg, if_true, if_false, a2, k5, hat, e3, true_or]
    · rw [if_neg cp]
      obtain ⟨k, rfl⟩ : ∃ k : Nat, p = k := ⟨p.toNat, by omega⟩
      have hkn : k < n := by omega
      obtain ⟨b1, b2, b3⟩ := hb k hkn
      have z149 : Z1 149 k = D 149 k := a1.2.2.1.1 149 k (by omega)
      have z150 : Z1 150 k = D 150 k := a1.2.2.1.1 150 k (by omega)
      rw [Int.toNat_natCast]
      cases wh
      · rw [if_neg Bool.false_ne_true, bBf]
        by_cases ct : D 150 k = 0
        · rw [if_pos ct]
          obtain ⟨Z2, d1, d2⟩ := PQ_scan (d := d + 2) (p0 := p0) (p1 := p1) (p2 := p2) (p3 := p3) (p4 := p4) (p5 := p5) (p6 := p6) (p7 := p7) hl ht a1
          have hu := PQ_u d1 (a := 150) (j := k) 1 (by omega) (by omega)
          have z152 : u2 Z2 150 k 1 152 k = D 152 k := by rw [u2a (by decide)]; exact d1.2.2.1.1 152 k (by omega)
          have hn := PQ_num (d := d + 1) (p0 := p0) (p1 := p1) (p2 := p2) (p3 := p3) (p4 := p4) (p5 := p5) (p6 := p6) (p7 := p7) hl ht hu (lo := 0) (hi := D 152 k - 1) (by omega) (by omega)
          unfold pNum
          by_cases c : eNum tp len (tkB tp len (tkB tp len q)) 0 (D 152 k - 1) = 0
          · rw [if_pos c]
            obtain ⟨Z', e1, e2, e3⟩ := hn.1 c
            clear hn
            refine ⟨u2 Z' 153 k (tkV tp len (tkB tp len (tkB tp len q))), J, PQ_u e1 (a := 153) (j := k) _ (by omega) (Or.inl (by decide)), ?_⟩
            simp (disch := omega) only [k_X11_readOf_0, k_X11_readOf_4, k_X11_readOf_12, k_X11_readOf_17, k_X11_readOf_18, k_X11_readOf_22, k_X11_readOf_28, k_X11_readOf_32, k_X11_readOf_38, k_X11_readOf_41, k_X11_readOf_44, k_X11_readOf_50, k_X11_readOf_53, k_X11_readOf_58, k_X11_readOf_59, k_X11_readOf_64, k_X11_readOf_69, k_X11_readOf_70, k_X11_readOf_74, k_X11_readOf_78, k_X11_readOf_85, k_X11_readOf_87, k_X11_readOf_94, k_X11_readOf_102, k_X11_readOf_107, k_X11_readOf_110, k_X11_readOf_112, k_X11_readOf_122, li_0, li_1, li_2, li_3, li_4, li_5, li_6, li_9, li_10, li_40, lm_1, lm_2, lm_3, lm_4, zs_ap, i32_add, i32_sub, i32_mul, i32_neg, i32_lt, i32_le, i32_eq, i32_nat, ckn, pka_r, pka_v, if_pos, if_neg, if_true, if_false, a2, k5, hat, Int.toNat_natCast, z150, ct, d2, nar1, zs_u2, z152, e3, e2, or_true]
          · rw [if_neg c]
            obtain ⟨Z', e1, e3⟩ := hn.2 c
            clear hn
            refine PQ_fault hu e1.1 (by decide) e1.2 ?_
            simp (disch := omega) only [k_X11_readOf_0, k_X11_readOf_4, k_X11_readOf_12, k_X11_readOf_17, k_X11_readOf_18, k_X11_readOf_22, k_X11_readOf_28, k_X11_readOf_32, k_X11_readOf_38, k_X11_readOf_41, k_X11_readOf_44, k_X11_readOf_50, k_X11_readOf_53, k_X11_readOf_58, k_X11_readOf_59, k_X11_readOf_64, k_X11_readOf_69, k_X11_readOf_70, k_X11_readOf_74, k_X11_readOf_78, k_X11_readOf_85, k_X11_readOf_87, k_X11_readOf_94, k_X11_readOf_102, k_X11_readOf_107, k_X11_readOf_110, k_X11_readOf_112, k_X11_readOf_122, li_0, li_1, li_2, li_3, li_4, li_5, li_6, li_9, li_10, li_40, lm_1, lm_2, lm_3, lm_4, zs_ap, i32_add, i32_sub, i32_mul, i32_neg, i32_lt, i32_le, i32_eq, i32_nat, ckn, pka_r, pka_v, if_pos, if_neg, if_true, if_false, a2, k5, hat, Int.toNat_natCast, z150, ct, d2, nar1, zs_u2, z152, e3, true_or]
        · rw [if_neg ct]
          obtain ⟨Z', e1, e3⟩ := PQ_wrong (d := d + 3) (p0 := p0) (p1 := p1) (p2 := p2) (p3 := p3) (p4 := p4) (p5 := p5) (p6 := p6) (p7 := p7) a1 3
          refine PQ_fault a1 e1.1 (by decide) e1.2 ?_
          simp (disch := omega) only [k_X11_readOf_0, k_X11_readOf_4, k_X11_readOf_12, k_X11_readOf_17, k_X11_readOf_18, k_X11_readOf_22, k_X11_readOf_28, k_X11_readOf_32, k_X11_readOf_38, k_X11_readOf_41, k_X11_readOf_44, k_X11_readOf_50, k_X11_readOf_53, k_X11_readOf_58, k_X11_readOf_59, k_X11_readOf_64, k_X11_readOf_69, k_X11_readOf_70, k_X11_readOf_74, k_X11_readOf_78, k_X11_readOf_85, k_X11_readOf_87, k_X11_readOf_94, k_X11_readOf_102, k_X11_readOf_107, k_X11_readOf_110, k_X11_readOf_112, k_X11_readOf_122, li_0, li_1, li_2, li_3, li_4, li_5, li_6, li_9, li_10, li_40, lm_1, lm_2, lm_3, lm_4, zs_ap, i32_add, i32_sub, i32_mul, i32_neg, i32_lt, i32_le, i32_eq, i32_nat, ckn, pka_r, pka_v, if_pos, if_neg, if_true, if_false, a2, k5, hat, Int.toNat_natCast, z150, e3, true_or]
      · rw [if_pos rfl, bBt]
        by_cases ct : D 149 k = 0
        · rw [if_pos ct, if_pos rfl]
          obtain ⟨Z2, d1, d2⟩ := PQ_scan (d := d + 2) (p0 := p0) (p1 := p1) (p2 := p2) (p3 := p3) (p4 := p4) (p5 := p5) (p6 := p6) (p7 := p7) hl ht a1
          refine ⟨u2 Z2 149 k 1, J, PQ_u d1 (a := 149) (j := k) 1 (by omega) (by omega), ?_⟩
          simp (disch := omega) only [k_X11_readOf_0, k_X11_readOf_4, k_X11_readOf_12, k_X11_readOf_17, k_X11_readOf_18, k_X11_readOf_22, k_X11_readOf_28, k_X11_readOf_32, k_X11_readOf_38, k_X11_readOf_41, k_X11_readOf_44, k_X11_readOf_50, k_X11_readOf_53, k_X11_readOf_58, k_X11_readOf_59, k_X11_readOf_64, k_X11_readOf_69, k_X11_readOf_70, k_X11_readOf_74, k_X11_readOf_78, k_X11_readOf_85, k_X11_readOf_87, k_X11_readOf_94, k_X11_readOf_102, k_X11_readOf_107, k_X11_readOf_110, k_X11_readOf_112, k_X11_readOf_122, li_0, li_1, li_2, li_3, li_4, li_5, li_6, li_9, li_10, li_40, lm_1, lm_2, lm_3, lm_4, zs_ap, i32_add, i32_sub, i32_mul, i32_neg, i32_lt, i32_le, i32_eq, i32_nat, ckn, pka_r, pka_v, if_pos, if_neg, if_true, if_false, a2, k5, hat, Int.toNat_natCast, z149, ct, d2, nar1, zs_u2, or_true]
        · rw [if_neg ct]
          obtain ⟨Z', e1, e3⟩ := PQ_wrong (d := d + 3) (p0 := p0) (p1 := p1) (p2 := p2) (p3 := p3) (p4 := p4) (p5 := p5) (p6 := p6) (p7 := p7) a1 3
          refine PQ_fault a1 e1.1 (by decide) e1.2 ?_
          simp (disch := omega) only [k_X11_readOf_0, k_X11_readOf_4, k_X11_readOf_12, k_X11_readOf_17, k_X11_readOf_18, k_X11_readOf_22, k_X11_readOf_28, k_X11_readOf_32, k_X11_readOf_38, k_X11_readOf_41, k_X11_readOf_44, k_X11_readOf_50, k_X11_readOf_53, k_X11_readOf_58, k_X11_readOf_59, k_X11_readOf_64, k_X11_readOf_69, k_X11_readOf_70, k_X11_readOf_74, k_X11_readOf_78, k_X11_readOf_85, k_X11_readOf_87, k_X11_readOf_94, k_X11_readOf_102, k_X11_readOf_107, k_X11_readOf_110, k_X11_readOf_112, k_X11_readOf_122, li_0, li_1, li_2, li_3, li_4, li_5, li_6, li_9, li_10, li_40, lm_1, lm_2, lm_3, lm_4, zs_ap, i32_add, i32_sub, i32_mul, i32_neg, i32_lt, i32_le, i32_eq, i32_nat, ckn, pka_r, pka_v, if_pos, if_neg, if_true, if_false, a2, k5, hat, Int.toNat_natCast, z149, e3, true_or]
  · rw [if_neg c1]
    have k5 := hk.2.2.1 c1
    have k6 := hk.1
    obtain ⟨Z', e1, e3⟩ := PQ_wrong (d := d + 3) (p0 := p0) (p1 := p1) (p2 := p2) (p3 := p3) (p4 := p4) (p5 := p5) (p6 := p6) (p7 := p7) a1 1
    refine PQ_fault a1 e1.1 (by decide) e1.2 ?_
    clear hk
    simp (disch := omega) only [k_X11_readOf_0, k_X11_readOf_4, k_X11_readOf_12, k_X11_readOf_17, k_X11_readOf_18, k_X11_readOf_22, k_X11_readOf_28, k_X11_readOf_32, k_X11_readOf_38, k_X11_readOf_41, k_X11_readOf_44, k_X11_readOf_50, k_X11_readOf_53, k_X11_readOf_58, k_X11_readOf_59, k_X11_readOf_64, k_X11_readOf_69, k_X11_readOf_70, k_X11_readOf_74, k_X11_readOf_78, k_X11_readOf_85, k_X11_readOf_87, k_X11_readOf_94, k_X11_readOf_102, k_X11_readOf_107, k_X11_readOf_110, k_X11_readOf_112, k_X11_readOf_122, li_0, li_1, li_2, li_3, li_4, li_5, li_6, li_9, li_10, li_40, lm_1, lm_2, lm_3, lm_4, zs_ap, i32_add, i32_sub, i32_mul, i32_neg, i32_lt, i32_le, i32_eq, i32_nat, ckn, pka_r, pka_v, if_pos, if_neg, if_true, if_false, a2, e3, true_or]
end
