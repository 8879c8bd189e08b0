/-! THE CLASS'S Reader: takeClause, read -/
theorem w_ex : ∀ t t' : Fin 17, 0 < t.val → 0 < t'.val → t ≠ t' → wlen t.val ≠ wlen t'.val ∨ ∃ i : Fin 6, i.val < wlen t.val ∧ wch t.val i.val ≠ wch t'.val i.val := by decide +kernel
theorem tkIs_iff {tp : Nat → Nat} {len q t : Nat} : tkIs tp len q t = true ↔ tkK tp len q = 1 ∧ tkB tp len q - tkF tp len q = wlen t ∧ ∀ i : Nat, i < wlen t → tp (tkF tp len q + i) = wch t i := by
  unfold tkIs
  rw [Bool.and_eq_true, Bool.and_eq_true, decide_eq_true_iff, decide_eq_true_iff, Bool.not_eq_true', and_assoc]
  constructor
  · intro ⟨h1, h2, h3⟩
    refine ⟨h1, h2, fun i hi => ?_⟩
    have := anyN_none h3 hi
    simpa using this
  · intro ⟨h1, h2, h3⟩
    refine ⟨h1, h2, ?_⟩
    cases c : anyN (fun i => !decide (tp (tkF tp len q + i) = wch t i)) (wlen t)
    · rfl
    · obtain ⟨k, k1, k2⟩ := (anyN_iff _).mp c
      rw [h3 k k1] at k2
      simp at k2
theorem tkIs_ex {tp : Nat → Nat} {len q t t' : Nat} (h : tkIs tp len q t = true) (h1 : 0 < t ∧ t < 17) (h2 : 0 < t' ∧ t' < 17) (hne : t ≠ t') : tkIs tp len q t' = false := by
  cases c : tkIs tp len q t'
  · rfl
  · obtain ⟨a1, a2, a3⟩ := tkIs_iff.mp h
    obtain ⟨b1, b2, b3⟩ := tkIs_iff.mp c
    have e := w_ex ⟨t, h1.2⟩ ⟨t', h2.2⟩ h1.1 h2.1 (fun z => hne (congrArg Fin.val z))
    simp only at e
    rcases e with e | ⟨i, i1, i2⟩
    · omega
    · have := a3 i.val i1
      have := b3 i.val (by omega)
      omega
section
variable {d : Nat} {J J0 : Nat → Nat → Int64} {Z Z0 D : Nat → Nat → Int} {N : Nat → Int64} {p0 p1 p2 p3 p4 p5 p6 p7 : Nat} {tp : Nat → Nat} {len q n S : Nat} {c : Int}
theorem h_takeClause (ht : CT tp len p1 Z0) (hd : DW D n S) (hq : q ≤ len) (hl : LT tp len q Z) (h : CQ len p1 c Z0 J0 D N (tkB tp len q) Z J) : CO len p1 c Z0 J0 (RP p0 p1 p2 p3 p4 p5 p6 p7) (pClause tp len D N q) (Mean (d + 10) 44 [.ref 3] (176, zs Z, J, RP p0 p1 p2 p3 p4 p5 p6 p7)) := by
  have hp : hv2 p1 := ht.2.2.2
  have is_ : ∀ t : Nat, t < 17 → 0 < t → Mean (d + 9) 30 [.ref 4, .retAddr t] (176, zs Z, J, RP p0 p1 p2 p3 p4 p5 p6 p7) = some (some (.int (i32 (bB (tkIs tp len q t)))), (176, zs Z, J, RP p0 p1 p2 p3 p4 p5 p6 p7)) := fun t h1 h2 => CQ_is (d := d + 2) ht h.1 hl hq h1 h2
  have i2 := is_ 2 (by decide) (by decide)
  have i5 := is_ 5 (by decide) (by decide)
  have i6 := is_ 6 (by decide) (by decide)
  have i7 := is_ 7 (by decide) (by decide)
  have i8 := is_ 8 (by decide) (by decide)
  have i9 := is_ 9 (by decide) (by decide)
  have i10 := is_ 10 (by decide) (by decide)
  have i11 := is_ 11 (by decide) (by decide)
  have i15 := is_ 15 (by decide) (by decide)
  clear is_
  rw [e_X5_takeClause, k_X5_takeClause_0]
  unfold pClause pAgain agW
  cases c2 : tkIs tp len q 2
  · rw [c2, bBf] at i2
    cases c5 : tkIs tp len q 5
    · rw [c5, bBf] at i5
      cases c6 : tkIs tp len q 6
      · rw [c6, bBf] at i6
        cases c7 : tkIs tp len q 7
        · rw [c7, bBf] at i7
          cases c8 : tkIs tp len q 8
          · rw [c8, bBf] at i8
            cases c9 : tkIs tp len q 9
            · rw [c9, bBf] at i9
              cases c10 : tkIs tp len q 10
              · rw [c10, bBf] at i10
                cases c11 : tkIs tp len q 11
                · rw [c11, bBf] at i11
                  cases c15 : tkIs tp len q 15
                  · rw [c15, bBf] at i15
                    have r := h_takePairs (d := d + 1) (p0 := p0) (p1 := p1) (p2 := p2) (p3 := p3) (p4 := p4) (p5 := p5) (p6 := p6) (p7 := p7) ht hd hq hl h
                    have e : ∀ x : PE, (if tkIs tp len q 16 = true then (if D 140 25 = 0 then Except.ok (u2 D 140 25 1, N, tkB tp len q) else Except.error (3, tkF tp len q)) else Except.error (1, tkF tp len q) : PE) = x → CO len p1 c Z0 J0 (RP p0 p1 p2 p3 p4 p5 p6 p7) x (Mean (d + 9) 55 [.ref 3] (176, zs Z, J, RP p0 p1 p2 p3 p4 p5 p6 p7)) := fun x hx => hx ▸ r
                    refine CO_eq (e _ ?_) (fun z Z' J' e => ?_)
                    · cases c16 : tkIs tp len q 16
                      · simp [pSmall, c9, c10, c15, c16]
                      · by_cases c0 : D 140 25 = 0
                        · simp [pSmall, c9, c10, c15, c16, c0]
                        · simp [c0]
                    · cases z
                      · simp (disch := omega) only [k_X5_takeClause_9, k_X5_takeClause_12, k_X5_takeClause_16, k_X5_takeClause_17, k_X5_takeClause_26, k_X5_takeClause_29, k_X5_takeClause_33, k_X5_takeClause_34, k_X5_takeClause_43, k_X5_takeClause_46, k_X5_takeClause_50, k_X5_takeClause_51, k_X5_takeClause_60, k_X5_takeClause_63, k_X5_takeClause_68, k_X5_takeClause_71, k_X5_takeClause_82, k_X5_takeClause_85, k_X5_takeClause_89, k_X5_takeClause_90, k_X5_takeClause_91, k_X5_takeClause_100, k_X5_takeClause_103, k_X5_takeClause_108, k_X5_takeClause_111, k_X5_takeClause_122, k_X5_takeClause_125, k_X5_takeClause_129, k_X5_takeClause_130, k_X5_takeClause_131, k_X5_takeClause_140, k_X5_takeClause_143, k_X5_takeClause_147, k_X5_takeClause_148, k_X5_takeClause_157, k_X5_takeClause_160, k_X5_takeClause_164, k_X5_takeClause_165, k_X5_takeClause_174, k_X5_takeClause_177, k_X5_takeClause_183, k_X5_takeClause_186, k_X5_takeClause_190, k_X5_takeClause_193, k_X5_takeClause_197, k_X5_takeClause_198, k_X5_takeClause_199, k_X5_takeClause_208, k_X5_takeClause_211, k_X5_takeClause_215, k_X5_takeClause_216, k_X5_takeClause_220, li_0, li_1, li_2, li_3, li_4, li_5, li_6, li_9, li_10, li_40, lm_1, lm_2, lm_3, lm_4, zs_ap, i32_add, i32_sub, i32_mul, i32_neg, i32_lt, i32_le, i32_eq, i32_nat, ckn, pka_r, pka_v, if_pos, if_neg, if_true, if_false, i2, i5, i6, i7, i8, i9, i10, i11, i15, e, bBf, true_or]
                      · simp (disch := omega) only [k_X5_takeClause_9, k_X5_takeClause_12, k_X5_takeClause_16, k_X5_takeClause_17, k_X5_takeClause_26, k_X5_takeClause_29, k_X5_takeClause_33, k_X5_takeClause_34, k_X5_takeClause_43, k_X5_takeClause_46, k_X5_takeClause_50, k_X5_takeClause_51, k_X5_takeClause_60, k_X5_takeClause_63, k_X5_takeClause_68, k_X5_takeClause_71, k_X5_takeClause_82, k_X5_takeClause_85, k_X5_takeClause_89, k_X5_takeClause_90, k_X5_takeClause_91, k_X5_takeClause_100, k_X5_takeClause_103, k_X5_takeClause_108, k_X5_takeClause_111, k_X5_takeClause_122, k_X5_takeClause_125, k_X5_takeClause_129, k_X5_takeClause_130, k_X5_takeClause_131, k_X5_takeClause_140, k_X5_takeClause_143, k_X5_takeClause_147, k_X5_takeClause_148, k_X5_takeClause_157, k_X5_takeClause_160, k_X5_takeClause_164, k_X5_takeClause_165, k_X5_takeClause_174, k_X5_takeClause_177, k_X5_takeClause_183, k_X5_takeClause_186, k_X5_takeClause_190, k_X5_takeClause_193, k_X5_takeClause_197, k_X5_takeClause_198, k_X5_takeClause_199, k_X5_takeClause_208, k_X5_takeClause_211, k_X5_takeClause_215, k_X5_takeClause_216, k_X5_takeClause_220, li_0, li_1, li_2, li_3, li_4, li_5, li_6, li_9, li_10, li_40, lm_1, lm_2, lm_3, lm_4, zs_ap, i32_add, i32_sub, i32_mul, i32_neg, i32_lt, i32_le, i32_eq, i32_nat, ckn, pka_r, pka_v, if_pos, if_neg, if_true, if_false, i2, i5, i6, i7, i8, i9, i10, i11, i15, e, bBt, or_true]
                  · rw [c15, bBt] at i15
                    have c16 := tkIs_ex c15 (by decide) (show 0 < 16 ∧ 16 < 17 by decide) (by decide)
                    have r := h_takeFirst (d := d + 5) (p0 := p0) (p1 := p1) (p2 := p2) (p3 := p3) (p4 := p4) (p5 := p5) (p6 := p6) (p7 := p7) ht hd hl h
                    have e : ∀ x : PE, (if D 140 29 = 0 then pNum tp len (tkB tp len q) 0 (D 140 17 - 1) (fun v q' => .ok (u2 (u2 D 140 29 1) 140 22 v, N, q')) else .error (3, tkF tp len q) : PE) = x → CO len p1 c Z0 J0 (RP p0 p1 p2 p3 p4 p5 p6 p7) x (Mean (d + 9) 54 [.ref 3] (176, zs Z, J, RP p0 p1 p2 p3 p4 p5 p6 p7)) := fun x hx => hx ▸ r
                    refine CO_eq (e _ ?_) (fun z Z' J' e => ?_)
                    · by_cases c0 : D 140 29 = 0
                      · simp [pSmall, c9, c10, c15, c16, c0]
                      · simp [c0]
                    · cases z
                      · simp (disch := omega) only [k_X5_takeClause_9, k_X5_takeClause_12, k_X5_takeClause_16, k_X5_takeClause_17, k_X5_takeClause_26, k_X5_takeClause_29, k_X5_takeClause_33, k_X5_takeClause_34, k_X5_takeClause_43, k_X5_takeClause_46, k_X5_takeClause_50, k_X5_takeClause_51, k_X5_takeClause_60, k_X5_takeClause_63, k_X5_takeClause_68, k_X5_takeClause_71, k_X5_takeClause_82, k_X5_takeClause_85, k_X5_takeClause_89, k_X5_takeClause_90, k_X5_takeClause_91, k_X5_takeClause_100, k_X5_takeClause_103, k_X5_takeClause_108, k_X5_takeClause_111, k_X5_takeClause_122, k_X5_takeClause_125, k_X5_takeClause_129, k_X5_takeClause_130, k_X5_takeClause_131, k_X5_takeClause_140, k_X5_takeClause_143, k_X5_takeClause_147, k_X5_takeClause_148, k_X5_takeClause_157, k_X5_takeClause_160, k_X5_takeClause_164, k_X5_takeClause_165, k_X5_takeClause_174, k_X5_takeClause_177, k_X5_takeClause_183, k_X5_takeClause_186, k_X5_takeClause_190, k_X5_takeClause_193, k_X5_takeClause_197, k_X5_takeClause_198, k_X5_takeClause_199, k_X5_takeClause_208, k_X5_takeClause_211, k_X5_takeClause_215, k_X5_takeClause_216, k_X5_takeClause_220, li_0, li_1, li_2, li_3, li_4, li_5, li_6, li_9, li_10, li_40, lm_1, lm_2, lm_3, lm_4, zs_ap, i32_add, i32_sub, i32_mul, i32_neg, i32_lt, i32_le, i32_eq, i32_nat, ckn, pka_r, pka_v, if_pos, if_neg, if_true, if_false, i2, i5, i6, i7, i8, i9, i10, i11, i15, e, bBf, true_or]
                      · simp (disch := omega) only [k_X5_takeClause_9, k_X5_takeClause_12, k_X5_takeClause_16, k_X5_takeClause_17, k_X5_takeClause_26, k_X5_takeClause_29, k_X5_takeClause_33, k_X5_takeClause_34, k_X5_takeClause_43, k_X5_takeClause_46, k_X5_takeClause_50, k_X5_takeClause_51, k_X5_takeClause_60, k_X5_takeClause_63, k_X5_takeClause_68, k_X5_takeClause_71, k_X5_takeClause_82, k_X5_takeClause_85, k_X5_takeClause_89, k_X5_takeClause_90, k_X5_takeClause_91, k_X5_takeClause_100, k_X5_takeClause_103, k_X5_takeClause_108, k_X5_takeClause_111, k_X5_takeClause_122, k_X5_takeClause_125, k_X5_takeClause_129, k_X5_takeClause_130, k_X5_takeClause_131, k_X5_takeClause_140, k_X5_takeClause_143, k_X5_takeClause_147, k_X5_takeClause_148, k_X5_takeClause_157, k_X5_takeClause_160, k_X5_takeClause_164, k_X5_takeClause_165, k_X5_takeClause_174, k_X5_takeClause_177, k_X5_takeClause_183, k_X5_takeClause_186, k_X5_takeClause_190, k_X5_takeClause_193, k_X5_takeClause_197, k_X5_takeClause_198, k_X5_takeClause_199, k_X5_takeClause_208, k_X5_takeClause_211, k_X5_takeClause_215, k_X5_takeClause_216, k_X5_takeClause_220, li_0, li_1, li_2, li_3, li_4, li_5, li_6, li_9, li_10, li_40, lm_1, lm_2, lm_3, lm_4, zs_ap, i32_add, i32_sub, i32_mul, i32_neg, i32_lt, i32_le, i32_eq, i32_nat, ckn, pka_r, pka_v, if_pos, if_neg, if_true, if_false, i2, i5, i6, i7, i8, i9, i10, i11, i15, e, bBt, or_true]
                · rw [c11, bBt] at i11
                  have c15 := tkIs_ex c11 (by decide) (show 0 < 15 ∧ 15 < 17 by decide) (by decide)
                  have c16 := tkIs_ex c11 (by decide) (show 0 < 16 ∧ 16 < 17 by decide) (by decide)
                  have o := h_onlyOnce (d := d + 7) (J := J) (p0 := p0) (p1 := p1) (p2 := p2) (p3 := p3) (p4 := p4) (p5 := p5) (p6 := p6) (p7 := p7) (Z := Z) hd.2.2.2.1 h.2.2.1.2.2.2.2.1 (j := 28) (by omega) (by omega) (x := 16) rfl
                  by_cases c0 : D 140 28 = 0
                  · have o1 := o.1 c0
                    have h' := CQ_flag hp h (j := 28) (by omega) (by omega) c0 (x := 16) rfl
                    have r := h_takeMode (d := d + 1) (p0 := p0) (p1 := p1) (p2 := p2) (p3 := p3) (p4 := p4) (p5 := p5) (p6 := p6) (p7 := p7) ht h'
                    simp only [c15, c16, c0, Bool.false_and, Bool.true_and, Bool.or_false, Bool.false_or, decide_true, Bool.not_true, Bool.false_eq_true, if_false, if_true]
                    refine CO_eq r (fun z Z' J' e => ?_)
                    cases z
                    · simp (disch := omega) only [k_X5_takeClause_9, k_X5_takeClause_12, k_X5_takeClause_16, k_X5_takeClause_17, k_X5_takeClause_26, k_X5_takeClause_29, k_X5_takeClause_33, k_X5_takeClause_34, k_X5_takeClause_43, k_X5_takeClause_46, k_X5_takeClause_50, k_X5_takeClause_51, k_X5_takeClause_60, k_X5_takeClause_63, k_X5_takeClause_68, k_X5_takeClause_71, k_X5_takeClause_82, k_X5_takeClause_85, k_X5_takeClause_89, k_X5_takeClause_90, k_X5_takeClause_91, k_X5_takeClause_100, k_X5_takeClause_103, k_X5_takeClause_108, k_X5_takeClause_111, k_X5_takeClause_122, k_X5_takeClause_125, k_X5_takeClause_129, k_X5_takeClause_130, k_X5_takeClause_131, k_X5_takeClause_140, k_X5_takeClause_143, k_X5_takeClause_147, k_X5_takeClause_148, k_X5_takeClause_157, k_X5_takeClause_160, k_X5_takeClause_164, k_X5_takeClause_165, k_X5_takeClause_174, k_X5_takeClause_177, k_X5_takeClause_183, k_X5_takeClause_186, k_X5_takeClause_190, k_X5_takeClause_193, k_X5_takeClause_197, k_X5_takeClause_198, k_X5_takeClause_199, k_X5_takeClause_208, k_X5_takeClause_211, k_X5_takeClause_215, k_X5_takeClause_216, k_X5_takeClause_220, li_0, li_1, li_2, li_3, li_4, li_5, li_6, li_9, li_10, li_40, lm_1, lm_2, lm_3, lm_4, zs_ap, i32_add, i32_sub, i32_mul, i32_neg, i32_lt, i32_le, i32_eq, i32_nat, ckn, pka_r, pka_v, if_pos, if_neg, if_true, if_false, i2, i5, i6, i7, i8, i9, i10, i11, li_16, o1, e, bBf, true_or]
                    · simp (disch := omega) only [k_X5_takeClause_9, k_X5_takeClause_12, k_X5_takeClause_16, k_X5_takeClause_17, k_X5_takeClause_26, k_X5_takeClause_29, k_X5_takeClause_33, k_X5_takeClause_34, k_X5_takeClause_43, k_X5_takeClause_46, k_X5_takeClause_50, k_X5_takeClause_51, k_X5_takeClause_60, k_X5_takeClause_63, k_X5_takeClause_68, k_X5_takeClause_71, k_X5_takeClause_82, k_X5_takeClause_85, k_X5_takeClause_89, k_X5_takeClause_90, k_X5_takeClause_91, k_X5_takeClause_100, k_X5_takeClause_103, k_X5_takeClause_108, k_X5_takeClause_111, k_X5_takeClause_122, k_X5_takeClause_125, k_X5_takeClause_129, k_X5_takeClause_130, k_X5_takeClause_131, k_X5_takeClause_140, k_X5_takeClause_143, k_X5_takeClause_147, k_X5_takeClause_148, k_X5_takeClause_157, k_X5_takeClause_160, k_X5_takeClause_164, k_X5_takeClause_165, k_X5_takeClause_174, k_X5_takeClause_177, k_X5_takeClause_183, k_X5_takeClause_186, k_X5_takeClause_190, k_X5_takeClause_193, k_X5_takeClause_197, k_X5_takeClause_198, k_X5_takeClause_199, k_X5_takeClause_208, k_X5_takeClause_211, k_X5_takeClause_215, k_X5_takeClause_216, k_X5_takeClause_220, li_0, li_1, li_2, li_3, li_4, li_5, li_6, li_9, li_10, li_40, lm_1, lm_2, lm_3, lm_4, zs_ap, i32_add, i32_sub, i32_mul, i32_neg, i32_lt, i32_le, i32_eq, i32_nat, ckn, pka_r, pka_v, if_pos, if_neg, if_true, if_false, i2, i5, i6, i7, i8, i9, i10, i11, li_16, o1, e, bBt, or_true]
                  · simp only [c15, c16, c0, Bool.false_and, Bool.true_and, Bool.or_false, Bool.false_or, decide_false, Bool.not_false, Bool.false_eq_true, if_false, if_true]
                    refine CE_mk h.1 h.2.1 hl ?_
                    simp (disch := omega) only [k_X5_takeClause_9, k_X5_takeClause_12, k_X5_takeClause_16, k_X5_takeClause_17, k_X5_takeClause_26, k_X5_takeClause_29, k_X5_takeClause_33, k_X5_takeClause_34, k_X5_takeClause_43, k_X5_takeClause_46, k_X5_takeClause_50, k_X5_takeClause_51, k_X5_takeClause_60, k_X5_takeClause_63, k_X5_takeClause_68, k_X5_takeClause_71, k_X5_takeClause_82, k_X5_takeClause_85, k_X5_takeClause_89, k_X5_takeClause_90, k_X5_takeClause_91, k_X5_takeClause_100, k_X5_takeClause_103, k_X5_takeClause_108, k_X5_takeClause_111, k_X5_takeClause_122, k_X5_takeClause_125, k_X5_takeClause_129, k_X5_takeClause_130, k_X5_takeClause_131, k_X5_takeClause_140, k_X5_takeClause_143, k_X5_takeClause_147, k_X5_takeClause_148, k_X5_takeClause_157, k_X5_takeClause_160, k_X5_takeClause_164, k_X5_takeClause_165, k_X5_takeClause_174, k_X5_takeClause_177, k_X5_takeClause_183, k_X5_takeClause_186, k_X5_takeClause_190, k_X5_takeClause_193, k_X5_takeClause_197, k_X5_takeClause_198, k_X5_takeClause_199, k_X5_takeClause_208, k_X5_takeClause_211, k_X5_takeClause_215, k_X5_takeClause_216, k_X5_takeClause_220, li_0, li_1, li_2, li_3, li_4, li_5, li_6, li_9, li_10, li_40, lm_1, lm_2, lm_3, lm_4, zs_ap, i32_add, i32_sub, i32_mul, i32_neg, i32_lt, i32_le, i32_eq, i32_nat, ckn, pka_r, pka_v, if_pos, if_neg, if_true, if_false, i2, i5, i6, i7, i8, i9, i10, i11, li_16, o.2 c0, true_or]
              · rw [c10, bBt] at i10
                have c11 := tkIs_ex c10 (by decide) (show 0 < 11 ∧ 11 < 17 by decide) (by decide)
                have c15 := tkIs_ex c10 (by decide) (show 0 < 15 ∧ 15 < 17 by decide) (by decide)
                have c16 := tkIs_ex c10 (by decide) (show 0 < 16 ∧ 16 < 17 by decide) (by decide)
                have r := h_takeLump (d := d + 5) (p0 := p0) (p1 := p1) (p2 := p2) (p3 := p3) (p4 := p4) (p5 := p5) (p6 := p6) (p7 := p7) ht hd hl h
                have e : ∀ x : PE, (if D 140 27 = 0 then pNum tp len (tkB tp len q) 1 3 (fun v q' => .ok (u2 (u2 D 140 27 1) 140 20 v, N, q')) else .error (3, tkF tp len q) : PE) = x → CO len p1 c Z0 J0 (RP p0 p1 p2 p3 p4 p5 p6 p7) x (Mean (d + 9) 52 [.ref 3] (176, zs Z, J, RP p0 p1 p2 p3 p4 p5 p6 p7)) := fun x hx => hx ▸ r
                refine CO_eq (e _ ?_) (fun z Z' J' e => ?_)
                · by_cases c0 : D 140 27 = 0
                  · simp [pSmall, c9, c10, c11, c15, c16, c0]
                  · simp [c0]
                · cases z
                  · simp (disch := omega) only [k_X5_takeClause_9, k_X5_takeClause_12, k_X5_takeClause_16, k_X5_takeClause_17, k_X5_takeClause_26, k_X5_takeClause_29, k_X5_takeClause_33, k_X5_takeClause_34, k_X5_takeClause_43, k_X5_takeClause_46, k_X5_takeClause_50, k_X5_takeClause_51, k_X5_takeClause_60, k_X5_takeClause_63, k_X5_takeClause_68, k_X5_takeClause_71, k_X5_takeClause_82, k_X5_takeClause_85, k_X5_takeClause_89, k_X5_takeClause_90, k_X5_takeClause_91, k_X5_takeClause_100, k_X5_takeClause_103, k_X5_takeClause_108, k_X5_takeClause_111, k_X5_takeClause_122, k_X5_takeClause_125, k_X5_takeClause_129, k_X5_takeClause_130, k_X5_takeClause_131, k_X5_takeClause_140, k_X5_takeClause_143, k_X5_takeClause_147, k_X5_takeClause_148, k_X5_takeClause_157, k_X5_takeClause_160, k_X5_takeClause_164, k_X5_takeClause_165, k_X5_takeClause_174, k_X5_takeClause_177, k_X5_takeClause_183, k_X5_takeClause_186, k_X5_takeClause_190, k_X5_takeClause_193, k_X5_takeClause_197, k_X5_takeClause_198, k_X5_takeClause_199, k_X5_takeClause_208, k_X5_takeClause_211, k_X5_takeClause_215, k_X5_takeClause_216, k_X5_takeClause_220, li_0, li_1, li_2, li_3, li_4, li_5, li_6, li_9, li_10, li_40, lm_1, lm_2, lm_3, lm_4, zs_ap, i32_add, i32_sub, i32_mul, i32_neg, i32_lt, i32_le, i32_eq, i32_nat, ckn, pka_r, pka_v, if_pos, if_neg, if_true, if_false, i2, i5, i6, i7, i8, i9, i10, e, bBf, true_or]
                  · simp (disch := omega) only [k_X5_takeClause_9, k_X5_takeClause_12, k_X5_takeClause_16, k_X5_takeClause_17, k_X5_takeClause_26, k_X5_takeClause_29, k_X5_takeClause_33, k_X5_takeClause_34, k_X5_takeClause_43, k_X5_takeClause_46, k_X5_takeClause_50, k_X5_takeClause_51, k_X5_takeClause_60, k_X5_takeClause_63, k_X5_takeClause_68, k_X5_takeClause_71, k_X5_takeClause_82, k_X5_takeClause_85, k_X5_takeClause_89, k_X5_takeClause_90, k_X5_takeClause_91, k_X5_takeClause_100, k_X5_takeClause_103, k_X5_takeClause_108, k_X5_takeClause_111, k_X5_takeClause_122, k_X5_takeClause_125, k_X5_takeClause_129, k_X5_takeClause_130, k_X5_takeClause_131, k_X5_takeClause_140, k_X5_takeClause_143, k_X5_takeClause_147, k_X5_takeClause_148, k_X5_takeClause_157, k_X5_takeClause_160, k_X5_takeClause_164, k_X5_takeClause_165, k_X5_takeClause_174, k_X5_takeClause_177, k_X5_takeClause_183, k_X5_takeClause_186, k_X5_takeClause_190, k_X5_takeClause_193, k_X5_takeClause_197, k_X5_takeClause_198, k_X5_takeClause_199, k_X5_takeClause_208, k_X5_takeClause_211, k_X5_takeClause_215, k_X5_takeClause_216, k_X5_takeClause_220, li_0, li_1, li_2, li_3, li_4, li_5, li_6, li_9, li_10, li_40, lm_1, lm_2, lm_3, lm_4, zs_ap, i32_add, i32_sub, i32_mul, i32_neg, i32_lt, i32_le, i32_eq, i32_nat, ckn, pka_r, pka_v, if_pos, if_neg, if_true, if_false, i2, i5, i6, i7, i8, i9, i10, e, bBt, or_true]
            · rw [c9, bBt] at i9
              have c10 := tkIs_ex c9 (by decide) (show 0 < 10 ∧ 10 < 17 by decide) (by decide)
              have c11 := tkIs_ex c9 (by decide) (show 0 < 11 ∧ 11 < 17 by decide) (by decide)
              have c15 := tkIs_ex c9 (by decide) (show 0 < 15 ∧ 15 < 17 by decide) (by decide)
              have c16 := tkIs_ex c9 (by decide) (show 0 < 16 ∧ 16 < 17 by decide) (by decide)
              have r := h_takeDay (d := d + 5) (p0 := p0) (p1 := p1) (p2 := p2) (p3 := p3) (p4 := p4) (p5 := p5) (p6 := p6) (p7 := p7) ht hd hl h
              have e : ∀ x : PE, (if D 140 26 = 0 then pNum tp len (tkB tp len q) 0 99 (fun v q' => .ok (u2 (u2 D 140 26 1) 140 19 v, N, q')) else .error (3, tkF tp len q) : PE) = x → CO len p1 c Z0 J0 (RP p0 p1 p2 p3 p4 p5 p6 p7) x (Mean (d + 9) 51 [.ref 3] (176, zs Z, J, RP p0 p1 p2 p3 p4 p5 p6 p7)) := fun x hx => hx ▸ r
              refine CO_eq (e _ ?_) (fun z Z' J' e => ?_)
              · by_cases c0 : D 140 26 = 0
                · simp [pSmall, c9, c10, c11, c15, c16, c0]
                · simp [c0]
              · cases z
                · simp (disch := omega) only [k_X5_takeClause_9, k_X5_takeClause_12, k_X5_takeClause_16, k_X5_takeClause_17, k_X5_takeClause_26, k_X5_takeClause_29, k_X5_takeClause_33, k_X5_takeClause_34, k_X5_takeClause_43, k_X5_takeClause_46, k_X5_takeClause_50, k_X5_takeClause_51, k_X5_takeClause_60, k_X5_takeClause_63, k_X5_takeClause_68, k_X5_takeClause_71, k_X5_takeClause_82, k_X5_takeClause_85, k_X5_takeClause_89, k_X5_takeClause_90, k_X5_takeClause_91, k_X5_takeClause_100, k_X5_takeClause_103, k_X5_takeClause_108, k_X5_takeClause_111, k_X5_takeClause_122, k_X5_takeClause_125, k_X5_takeClause_129, k_X5_takeClause_130, k_X5_takeClause_131, k_X5_takeClause_140, k_X5_takeClause_143, k_X5_takeClause_147, k_X5_takeClause_148, k_X5_takeClause_157, k_X5_takeClause_160, k_X5_takeClause_164, k_X5_takeClause_165, k_X5_takeClause_174, k_X5_takeClause_177, k_X5_takeClause_183, k_X5_takeClause_186, k_X5_takeClause_190, k_X5_takeClause_193, k_X5_takeClause_197, k_X5_takeClause_198, k_X5_takeClause_199, k_X5_takeClause_208, k_X5_takeClause_211, k_X5_takeClause_215, k_X5_takeClause_216, k_X5_takeClause_220, li_0, li_1, li_2, li_3, li_4, li_5, li_6, li_9, li_10, li_40, lm_1, lm_2, lm_3, lm_4, zs_ap, i32_add, i32_sub, i32_mul, i32_neg, i32_lt, i32_le, i32_eq, i32_nat, ckn, pka_r, pka_v, if_pos, if_neg, if_true, if_false, i2, i5, i6, i7, i8, i9, e, bBf, true_or]
                · simp (disch := omega) only [k_X5_takeClause_9, k_X5_takeClause_12, k_X5_takeClause_16, k_X5_takeClause_17, k_X5_takeClause_26, k_X5_takeClause_29, k_X5_takeClause_33, k_X5_takeClause_34, k_X5_takeClause_43, k_X5_takeClause_46, k_X5_takeClause_50, k_X5_takeClause_51, k_X5_takeClause_60, k_X5_takeClause_63, k_X5_takeClause_68, k_X5_takeClause_71, k_X5_takeClause_82, k_X5_takeClause_85, k_X5_takeClause_89, k_X5_takeClause_90, k_X5_takeClause_91, k_X5_takeClause_100, k_X5_takeClause_103, k_X5_takeClause_108, k_X5_takeClause_111, k_X5_takeClause_122, k_X5_takeClause_125, k_X5_takeClause_129, k_X5_takeClause_130, k_X5_takeClause_131, k_X5_takeClause_140, k_X5_takeClause_143, k_X5_takeClause_147, k_X5_takeClause_148, k_X5_takeClause_157, k_X5_takeClause_160, k_X5_takeClause_164, k_X5_takeClause_165, k_X5_takeClause_174, k_X5_takeClause_177, k_X5_takeClause_183, k_X5_takeClause_186, k_X5_takeClause_190, k_X5_takeClause_193, k_X5_takeClause_197, k_X5_takeClause_198, k_X5_takeClause_199, k_X5_takeClause_208, k_X5_takeClause_211, k_X5_takeClause_215, k_X5_takeClause_216, k_X5_takeClause_220, li_0, li_1, li_2, li_3, li_4, li_5, li_6, li_9, li_10, li_40, lm_1, lm_2, lm_3, lm_4, zs_ap, i32_add, i32_sub, i32_mul, i32_neg, i32_lt, i32_le, i32_eq, i32_nat, ckn, pka_r, pka_v, if_pos, if_neg, if_true, if_false, i2, i5, i6, i7, i8, i9, e, bBt, or_true]
          · rw [c8, bBt] at i8
            have c9 := tkIs_ex c8 (by decide) (show 0 < 9 ∧ 9 < 17 by decide) (by decide)
            have c10 := tkIs_ex c8 (by decide) (show 0 < 10 ∧ 10 < 17 by decide) (by decide)
            have c11 := tkIs_ex c8 (by decide) (show 0 < 11 ∧ 11 < 17 by decide) (by decide)
            have c15 := tkIs_ex c8 (by decide) (show 0 < 15 ∧ 15 < 17 by decide) (by decide)
            have c16 := tkIs_ex c8 (by decide) (show 0 < 16 ∧ 16 < 17 by decide) (by decide)
            have o := h_onlyOnce (d := d + 7) (J := J) (p0 := p0) (p1 := p1) (p2 := p2) (p3 := p3) (p4 := p4) (p5 := p5) (p6 := p6) (p7 := p7) (Z := Z) hd.2.2.2.1 h.2.2.1.2.2.2.2.1 (j := 31) (by omega) (by omega) (x := 2) rfl
            by_cases c0 : D 140 31 = 0
            · have o1 := o.1 c0
              have h' := CQ_flag hp h (j := 31) (by omega) (by omega) c0 (x := 2) rfl
              have r := h_takeAmounts (d := d + 5) (p0 := p0) (p1 := p1) (p2 := p2) (p3 := p3) (p4 := p4) (p5 := p5) (p6 := p6) (p7 := p7) ht (DW_flag hd (j := 31) (by decide)) (a := 14) (b := 156) (by omega) h'
              simp only [c9, c10, c11, c15, c16, c0, Bool.false_and, Bool.true_and, Bool.or_false, Bool.false_or, decide_true, Bool.not_true, Bool.false_eq_true, if_false, if_true]
              refine CO_eq r (fun z Z' J' e => ?_)
              cases z
              · simp (disch := omega) only [k_X5_takeClause_9, k_X5_takeClause_12, k_X5_takeClause_16, k_X5_takeClause_17, k_X5_takeClause_26, k_X5_takeClause_29, k_X5_takeClause_33, k_X5_takeClause_34, k_X5_takeClause_43, k_X5_takeClause_46, k_X5_takeClause_50, k_X5_takeClause_51, k_X5_takeClause_60, k_X5_takeClause_63, k_X5_takeClause_68, k_X5_takeClause_71, k_X5_takeClause_82, k_X5_takeClause_85, k_X5_takeClause_89, k_X5_takeClause_90, k_X5_takeClause_91, k_X5_takeClause_100, k_X5_takeClause_103, k_X5_takeClause_108, k_X5_takeClause_111, k_X5_takeClause_122, k_X5_takeClause_125, k_X5_takeClause_129, k_X5_takeClause_130, k_X5_takeClause_131, k_X5_takeClause_140, k_X5_takeClause_143, k_X5_takeClause_147, k_X5_takeClause_148, k_X5_takeClause_157, k_X5_takeClause_160, k_X5_takeClause_164, k_X5_takeClause_165, k_X5_takeClause_174, k_X5_takeClause_177, k_X5_takeClause_183, k_X5_takeClause_186, k_X5_takeClause_190, k_X5_takeClause_193, k_X5_takeClause_197, k_X5_takeClause_198, k_X5_takeClause_199, k_X5_takeClause_208, k_X5_takeClause_211, k_X5_takeClause_215, k_X5_takeClause_216, k_X5_takeClause_220, li_0, li_1, li_2, li_3, li_4, li_5, li_6, li_9, li_10, li_40, lm_1, lm_2, lm_3, lm_4, zs_ap, i32_add, i32_sub, i32_mul, i32_neg, i32_lt, i32_le, i32_eq, i32_nat, ckn, pka_r, pka_v, if_pos, if_neg, if_true, if_false, i2, i5, i6, i7, i8, o1, e, bBf, true_or]
              · simp (disch := omega) only [k_X5_takeClause_9, k_X5_takeClause_12, k_X5_takeClause_16, k_X5_takeClause_17, k_X5_takeClause_26, k_X5_takeClause_29, k_X5_takeClause_33, k_X5_takeClause_34, k_X5_takeClause_43, k_X5_takeClause_46, k_X5_takeClause_50, k_X5_takeClause_51, k_X5_takeClause_60, k_X5_takeClause_63, k_X5_takeClause_68, k_X5_takeClause_71, k_X5_takeClause_82, k_X5_takeClause_85, k_X5_takeClause_89, k_X5_takeClause_90, k_X5_takeClause_91, k_X5_takeClause_100, k_X5_takeClause_103, k_X5_takeClause_108, k_X5_takeClause_111, k_X5_takeClause_122, k_X5_takeClause_125, k_X5_takeClause_129, k_X5_takeClause_130, k_X5_takeClause_131, k_X5_takeClause_140, k_X5_takeClause_143, k_X5_takeClause_147, k_X5_takeClause_148, k_X5_takeClause_157, k_X5_takeClause_160, k_X5_takeClause_164, k_X5_takeClause_165, k_X5_takeClause_174, k_X5_takeClause_177, k_X5_takeClause_183, k_X5_takeClause_186, k_X5_takeClause_190, k_X5_takeClause_193, k_X5_takeClause_197, k_X5_takeClause_198, k_X5_takeClause_199, k_X5_takeClause_208, k_X5_takeClause_211, k_X5_takeClause_215, k_X5_takeClause_216, k_X5_takeClause_220, li_0, li_1, li_2, li_3, li_4, li_5, li_6, li_9, li_10, li_40, lm_1, lm_2, lm_3, lm_4, zs_ap, i32_add, i32_sub, i32_mul, i32_neg, i32_lt, i32_le, i32_eq, i32_nat, ckn, pka_r, pka_v, if_pos, if_neg, if_true, if_false, i2, i5, i6, i7, i8, o1, e, bBt, or_true]
            · simp only [c9, c10, c11, c15, c16, c0, Bool.false_and, Bool.true_and, Bool.or_false, Bool.false_or, decide_false, Bool.not_false, Bool.false_eq_true, if_false, if_true]
              refine CE_mk h.1 h.2.1 hl ?_
              simp (disch := omega) only [k_X5_takeClause_9, k_X5_takeClause_12, k_X5_takeClause_16, k_X5_takeClause_17, k_X5_takeClause_26, k_X5_takeClause_29, k_X5_takeClause_33, k_X5_takeClause_34, k_X5_takeClause_43, k_X5_takeClause_46, k_X5_takeClause_50, k_X5_takeClause_51, k_X5_takeClause_60, k_X5_takeClause_63, k_X5_takeClause_68, k_X5_takeClause_71, k_X5_takeClause_82, k_X5_takeClause_85, k_X5_takeClause_89, k_X5_takeClause_90, k_X5_takeClause_91, k_X5_takeClause_100, k_X5_takeClause_103, k_X5_takeClause_108, k_X5_takeClause_111, k_X5_takeClause_122, k_X5_takeClause_125, k_X5_takeClause_129, k_X5_takeClause_130, k_X5_takeClause_131, k_X5_takeClause_140, k_X5_takeClause_143, k_X5_takeClause_147, k_X5_takeClause_148, k_X5_takeClause_157, k_X5_takeClause_160, k_X5_takeClause_164, k_X5_takeClause_165, k_X5_takeClause_174, k_X5_takeClause_177, k_X5_takeClause_183, k_X5_takeClause_186, k_X5_takeClause_190, k_X5_takeClause_193, k_X5_takeClause_197, k_X5_takeClause_198, k_X5_takeClause_199, k_X5_takeClause_208, k_X5_takeClause_211, k_X5_takeClause_215, k_X5_takeClause_216, k_X5_takeClause_220, li_0, li_1, li_2, li_3, li_4, li_5, li_6, li_9, li_10, li_40, lm_1, lm_2, lm_3, lm_4, zs_ap, i32_add, i32_sub, i32_mul, i32_neg, i32_lt, i32_le, i32_eq, i32_nat, ckn, pka_r, pka_v, if_pos, if_neg, if_true, if_false, i2, i5, i6, i7, i8, o.2 c0, true_or]
        · rw [c7, bBt] at i7
          have c8 := tkIs_ex c7 (by decide) (show 0 < 8 ∧ 8 < 17 by decide) (by decide)
          have c9 := tkIs_ex c7 (by decide) (show 0 < 9 ∧ 9 < 17 by decide) (by decide)
          have c10 := tkIs_ex c7 (by decide) (show 0 < 10 ∧ 10 < 17 by decide) (by decide)
          have c11 := tkIs_ex c7 (by decide) (show 0 < 11 ∧ 11 < 17 by decide) (by decide)
          have c15 := tkIs_ex c7 (by decide) (show 0 < 15 ∧ 15 < 17 by decide) (by decide)
          have c16 := tkIs_ex c7 (by decide) (show 0 < 16 ∧ 16 < 17 by decide) (by decide)
          have o := h_onlyOnce (d := d + 7) (J := J) (p0 := p0) (p1 := p1) (p2 := p2) (p3 := p3) (p4 := p4) (p5 := p5) (p6 := p6) (p7 := p7) (Z := Z) hd.2.2.2.1 h.2.2.1.2.2.2.2.1 (j := 30) (by omega) (by omega) (x := 1) rfl
          by_cases c0 : D 140 30 = 0
          · have o1 := o.1 c0
            have h' := CQ_flag hp h (j := 30) (by omega) (by omega) c0 (x := 1) rfl
            have r := h_takeAmounts (d := d + 5) (p0 := p0) (p1 := p1) (p2 := p2) (p3 := p3) (p4 := p4) (p5 := p5) (p6 := p6) (p7 := p7) ht (DW_flag hd (j := 30) (by decide)) (a := 13) (b := 155) (by omega) h'
            simp only [c8, c9, c10, c11, c15, c16, c0, Bool.false_and, Bool.true_and, Bool.or_false, Bool.false_or, decide_true, Bool.not_true, Bool.false_eq_true, if_false, if_true]
            refine CO_eq r (fun z Z' J' e => ?_)
            cases z
            · simp (disch := omega) only [k_X5_takeClause_9, k_X5_takeClause_12, k_X5_takeClause_16, k_X5_takeClause_17, k_X5_takeClause_26, k_X5_takeClause_29, k_X5_takeClause_33, k_X5_takeClause_34, k_X5_takeClause_43, k_X5_takeClause_46, k_X5_takeClause_50, k_X5_takeClause_51, k_X5_takeClause_60, k_X5_takeClause_63, k_X5_takeClause_68, k_X5_takeClause_71, k_X5_takeClause_82, k_X5_takeClause_85, k_X5_takeClause_89, k_X5_takeClause_90, k_X5_takeClause_91, k_X5_takeClause_100, k_X5_takeClause_103, k_X5_takeClause_108, k_X5_takeClause_111, k_X5_takeClause_122, k_X5_takeClause_125, k_X5_takeClause_129, k_X5_takeClause_130, k_X5_takeClause_131, k_X5_takeClause_140, k_X5_takeClause_143, k_X5_takeClause_147, k_X5_takeClause_148, k_X5_takeClause_157, k_X5_takeClause_160, k_X5_takeClause_164, k_X5_takeClause_165, k_X5_takeClause_174, k_X5_takeClause_177, k_X5_takeClause_183, k_X5_takeClause_186, k_X5_takeClause_190, k_X5_takeClause_193, k_X5_takeClause_197, k_X5_takeClause_198, k_X5_takeClause_199, k_X5_takeClause_208, k_X5_takeClause_211, k_X5_takeClause_215, k_X5_takeClause_216, k_X5_takeClause_220, li_0, li_1, li_2, li_3, li_4, li_5, li_6, li_9, li_10, li_40, lm_1, lm_2, lm_3, lm_4, zs_ap, i32_add, i32_sub, i32_mul, i32_neg, i32_lt, i32_le, i32_eq, i32_nat, ckn, pka_r, pka_v, if_pos, if_neg, if_true, if_false, i2, i5, i6, i7, o1, e, bBf, true_or]
            · simp (disch := omega) only [k_X5_takeClause_9, k_X5_takeClause_12, k_X5_takeClause_16, k_X5_takeClause_17, k_X5_takeClause_26, k_X5_takeClause_29, k_X5_takeClause_33, k_X5_takeClause_34, k_X5_takeClause_43, k_X5_takeClause_46, k_X5_takeClause_50, k_X5_takeClause_51, k_X5_takeClause_60, k_X5_takeClause_63, k_X5_takeClause_68, k_X5_takeClause_71, k_X5_takeClause_82, k_X5_takeClause_85, k_X5_takeClause_89, k_X5_takeClause_90, k_X5_takeClause_91, k_X5_takeClause_100, k_X5_takeClause_103, k_X5_takeClause_108, k_X5_takeClause_111, k_X5_takeClause_122, k_X5_takeClause_125, k_X5_takeClause_129, k_X5_takeClause_130, k_X5_takeClause_131, k_X5_takeClause_140, k_X5_takeClause_143, k_X5_takeClause_147, k_X5_takeClause_148, k_X5_takeClause_157, k_X5_takeClause_160, k_X5_takeClause_164, k_X5_takeClause_165, k_X5_takeClause_174, k_X5_takeClause_177, k_X5_takeClause_183, k_X5_takeClause_186, k_X5_takeClause_190, k_X5_takeClause_193, k_X5_takeClause_197, k_X5_takeClause_198, k_X5_takeClause_199, k_X5_takeClause_208, k_X5_takeClause_211, k_X5_takeClause_215, k_X5_takeClause_216, k_X5_takeClause_220, li_0, li_1, li_2, li_3, li_4, li_5, li_6, li_9, li_10, li_40, lm_1, lm_2, lm_3, lm_4, zs_ap, i32_add, i32_sub, i32_mul, i32_neg, i32_lt, i32_le, i32_eq, i32_nat, ckn, pka_r, pka_v, if_pos, if_neg, if_true, if_false, i2, i5, i6, i7, o1, e, bBt, or_true]
          · simp only [c8, c9, c10, c11, c15, c16, c0, Bool.false_and, Bool.true_and, Bool.or_false, Bool.false_or, decide_false, Bool.not_false, Bool.false_eq_true, if_false, if_true]
            refine CE_mk h.1 h.2.1 hl ?_
            simp (disch := omega) only [k_X5_takeClause_9, k_X5_takeClause_12, k_X5_takeClause_16, k_X5_takeClause_17, k_X5_takeClause_26, k_X5_takeClause_29, k_X5_takeClause_33, k_X5_takeClause_34, k_X5_takeClause_43, k_X5_takeClause_46, k_X5_takeClause_50, k_X5_takeClause_51, k_X5_takeClause_60, k_X5_takeClause_63, k_X5_takeClause_68, k_X5_takeClause_71, k_X5_takeClause_82, k_X5_takeClause_85, k_X5_takeClause_89, k_X5_takeClause_90, k_X5_takeClause_91, k_X5_takeClause_100, k_X5_takeClause_103, k_X5_takeClause_108, k_X5_takeClause_111, k_X5_takeClause_122, k_X5_takeClause_125, k_X5_takeClause_129, k_X5_takeClause_130, k_X5_takeClause_131, k_X5_takeClause_140, k_X5_takeClause_143, k_X5_takeClause_147, k_X5_takeClause_148, k_X5_takeClause_157, k_X5_takeClause_160, k_X5_takeClause_164, k_X5_takeClause_165, k_X5_takeClause_174, k_X5_takeClause_177, k_X5_takeClause_183, k_X5_takeClause_186, k_X5_takeClause_190, k_X5_takeClause_193, k_X5_takeClause_197, k_X5_takeClause_198, k_X5_takeClause_199, k_X5_takeClause_208, k_X5_takeClause_211, k_X5_takeClause_215, k_X5_takeClause_216, k_X5_takeClause_220, li_0, li_1, li_2, li_3, li_4, li_5, li_6, li_9, li_10, li_40, lm_1, lm_2, lm_3, lm_4, zs_ap, i32_add, i32_sub, i32_mul, i32_neg, i32_lt, i32_le, i32_eq, i32_nat, ckn, pka_r, pka_v, if_pos, if_neg, if_true, if_false, i2, i5, i6, i7, o.2 c0, true_or]
      · rw [c6, bBt] at i6
        rw [if_neg Bool.false_ne_true, if_neg Bool.false_ne_true, if_pos rfl]
        refine CO_eq (h_takeKept (d := d + 5) (p0 := p0) (p1 := p1) (p2 := p2) (p3 := p3) (p4 := p4) (p5 := p5) (p6 := p6) (p7 := p7) ht hd h) (fun z Z' J' e => ?_)
        cases z
        · simp (disch := omega) only [k_X5_takeClause_9, k_X5_takeClause_12, k_X5_takeClause_16, k_X5_takeClause_17, k_X5_takeClause_26, k_X5_takeClause_29, k_X5_takeClause_33, k_X5_takeClause_34, k_X5_takeClause_43, k_X5_takeClause_46, k_X5_takeClause_50, k_X5_takeClause_51, k_X5_takeClause_60, k_X5_takeClause_63, k_X5_takeClause_68, k_X5_takeClause_71, k_X5_takeClause_82, k_X5_takeClause_85, k_X5_takeClause_89, k_X5_takeClause_90, k_X5_takeClause_91, k_X5_takeClause_100, k_X5_takeClause_103, k_X5_takeClause_108, k_X5_takeClause_111, k_X5_takeClause_122, k_X5_takeClause_125, k_X5_takeClause_129, k_X5_takeClause_130, k_X5_takeClause_131, k_X5_takeClause_140, k_X5_takeClause_143, k_X5_takeClause_147, k_X5_takeClause_148, k_X5_takeClause_157, k_X5_takeClause_160, k_X5_takeClause_164, k_X5_takeClause_165, k_X5_takeClause_174, k_X5_takeClause_177, k_X5_takeClause_183, k_X5_takeClause_186, k_X5_takeClause_190, k_X5_takeClause_193, k_X5_takeClause_197, k_X5_takeClause_198, k_X5_takeClause_199, k_X5_takeClause_208, k_X5_takeClause_211, k_X5_takeClause_215, k_X5_takeClause_216, k_X5_takeClause_220, li_0, li_1, li_2, li_3, li_4, li_5, li_6, li_9, li_10, li_40, lm_1, lm_2, lm_3, lm_4, zs_ap, i32_add, i32_sub, i32_mul, i32_neg, i32_lt, i32_le, i32_eq, i32_nat, ckn, pka_r, pka_v, if_pos, if_neg, if_true, if_false, i2, i5, i6, e, bBf, true_or]
        · simp (disch := omega) only [k_X5_takeClause_9, k_X5_takeClause_12, k_X5_takeClause_16, k_X5_takeClause_17, k_X5_takeClause_26, k_X5_takeClause_29, k_X5_takeClause_33, k_X5_takeClause_34, k_X5_takeClause_43, k_X5_takeClause_46, k_X5_takeClause_50, k_X5_takeClause_51, k_X5_takeClause_60, k_X5_takeClause_63, k_X5_takeClause_68, k_X5_takeClause_71, k_X5_takeClause_82, k_X5_takeClause_85, k_X5_takeClause_89, k_X5_takeClause_90, k_X5_takeClause_91, k_X5_takeClause_100, k_X5_takeClause_103, k_X5_takeClause_108, k_X5_takeClause_111, k_X5_takeClause_122, k_X5_takeClause_125, k_X5_takeClause_129, k_X5_takeClause_130, k_X5_takeClause_131, k_X5_takeClause_140, k_X5_takeClause_143, k_X5_takeClause_147, k_X5_takeClause_148, k_X5_takeClause_157, k_X5_takeClause_160, k_X5_takeClause_164, k_X5_takeClause_165, k_X5_takeClause_174, k_X5_takeClause_177, k_X5_takeClause_183, k_X5_takeClause_186, k_X5_takeClause_190, k_X5_takeClause_193, k_X5_takeClause_197, k_X5_takeClause_198, k_X5_takeClause_199, k_X5_takeClause_208, k_X5_takeClause_211, k_X5_takeClause_215, k_X5_takeClause_216, k_X5_takeClause_220, li_0, li_1, li_2, li_3, li_4, li_5, li_6, li_9, li_10, li_40, lm_1, lm_2, lm_3, lm_4, zs_ap, i32_add, i32_sub, i32_mul, i32_neg, i32_lt, i32_le, i32_eq, i32_nat, ckn, pka_r, pka_v, if_pos, if_neg, if_true, if_false, i2, i5, i6, e, bBt, or_true]
    · rw [c5, bBt] at i5
      rw [if_neg Bool.false_ne_true, if_pos rfl]
      refine CO_eq (h_takeUndivided (d := d + 5) (p0 := p0) (p1 := p1) (p2 := p2) (p3 := p3) (p4 := p4) (p5 := p5) (p6 := p6) (p7 := p7) ht hd h) (fun z Z' J' e => ?_)
      cases z
      · simp (disch := omega) only [k_X5_takeClause_9, k_X5_takeClause_12, k_X5_takeClause_16, k_X5_takeClause_17, k_X5_takeClause_26, k_X5_takeClause_29, k_X5_takeClause_33, k_X5_takeClause_34, k_X5_takeClause_43, k_X5_takeClause_46, k_X5_takeClause_50, k_X5_takeClause_51, k_X5_takeClause_60, k_X5_takeClause_63, k_X5_takeClause_68, k_X5_takeClause_71, k_X5_takeClause_82, k_X5_takeClause_85, k_X5_takeClause_89, k_X5_takeClause_90, k_X5_takeClause_91, k_X5_takeClause_100, k_X5_takeClause_103, k_X5_takeClause_108, k_X5_takeClause_111, k_X5_takeClause_122, k_X5_takeClause_125, k_X5_takeClause_129, k_X5_takeClause_130, k_X5_takeClause_131, k_X5_takeClause_140, k_X5_takeClause_143, k_X5_takeClause_147, k_X5_takeClause_148, k_X5_takeClause_157, k_X5_takeClause_160, k_X5_takeClause_164, k_X5_takeClause_165, k_X5_takeClause_174, k_X5_takeClause_177, k_X5_takeClause_183, k_X5_takeClause_186, k_X5_takeClause_190, k_X5_takeClause_193, k_X5_takeClause_197, k_X5_takeClause_198, k_X5_takeClause_199, k_X5_takeClause_208, k_X5_takeClause_211, k_X5_takeClause_215, k_X5_takeClause_216, k_X5_takeClause_220, li_0, li_1, li_2, li_3, li_4, li_5, li_6, li_9, li_10, li_40, lm_1, lm_2, lm_3, lm_4, zs_ap, i32_add, i32_sub, i32_mul, i32_neg, i32_lt, i32_le, i32_eq, i32_nat, ckn, pka_r, pka_v, if_pos, if_neg, if_true, if_false, i2, i5, e, bBf, true_or]
      · simp (disch := omega) only [k_X5_takeClause_9, k_X5_takeClause_12, k_X5_takeClause_16, k_X5_takeClause_17, k_X5_takeClause_26, k_X5_takeClause_29, k_X5_takeClause_33, k_X5_takeClause_34, k_X5_takeClause_43, k_X5_takeClause_46, k_X5_takeClause_50, k_X5_takeClause_51, k_X5_takeClause_60, k_X5_takeClause_63, k_X5_takeClause_68, k_X5_takeClause_71, k_X5_takeClause_82, k_X5_takeClause_85, k_X5_takeClause_89, k_X5_takeClause_90, k_X5_takeClause_91, k_X5_takeClause_100, k_X5_takeClause_103, k_X5_takeClause_108, k_X5_takeClause_111, k_X5_takeClause_122, k_X5_takeClause_125, k_X5_takeClause_129, k_X5_takeClause_130, k_X5_takeClause_131, k_X5_takeClause_140, k_X5_takeClause_143, k_X5_takeClause_147, k_X5_takeClause_148, k_X5_takeClause_157, k_X5_takeClause_160, k_X5_takeClause_164, k_X5_takeClause_165, k_X5_takeClause_174, k_X5_takeClause_177, k_X5_takeClause_183, k_X5_takeClause_186, k_X5_takeClause_190, k_X5_takeClause_193, k_X5_takeClause_197, k_X5_takeClause_198, k_X5_takeClause_199, k_X5_takeClause_208, k_X5_takeClause_211, k_X5_takeClause_215, k_X5_takeClause_216, k_X5_takeClause_220, li_0, li_1, li_2, li_3, li_4, li_5, li_6, li_9, li_10, li_40, lm_1, lm_2, lm_3, lm_4, zs_ap, i32_add, i32_sub, i32_mul, i32_neg, i32_lt, i32_le, i32_eq, i32_nat, ckn, pka_r, pka_v, if_pos, if_neg, if_true, if_false, i2, i5, e, bBt, or_true]
  · rw [c2, bBt] at i2
    rw [if_pos rfl]
    refine CO_eq (h_takePiece (d := d) (p0 := p0) (p1 := p1) (p2 := p2) (p3 := p3) (p4 := p4) (p5 := p5) (p6 := p6) (p7 := p7) ht hd hl h) (fun z Z' J' e => ?_)
    cases z
    · simp (disch := omega) only [k_X5_takeClause_9, k_X5_takeClause_12, k_X5_takeClause_16, k_X5_takeClause_17, k_X5_takeClause_26, k_X5_takeClause_29, k_X5_takeClause_33, k_X5_takeClause_34, k_X5_takeClause_43, k_X5_takeClause_46, k_X5_takeClause_50, k_X5_takeClause_51, k_X5_takeClause_60, k_X5_takeClause_63, k_X5_takeClause_68, k_X5_takeClause_71, k_X5_takeClause_82, k_X5_takeClause_85, k_X5_takeClause_89, k_X5_takeClause_90, k_X5_takeClause_91, k_X5_takeClause_100, k_X5_takeClause_103, k_X5_takeClause_108, k_X5_takeClause_111, k_X5_takeClause_122, k_X5_takeClause_125, k_X5_takeClause_129, k_X5_takeClause_130, k_X5_takeClause_131, k_X5_takeClause_140, k_X5_takeClause_143, k_X5_takeClause_147, k_X5_takeClause_148, k_X5_takeClause_157, k_X5_takeClause_160, k_X5_takeClause_164, k_X5_takeClause_165, k_X5_takeClause_174, k_X5_takeClause_177, k_X5_takeClause_183, k_X5_takeClause_186, k_X5_takeClause_190, k_X5_takeClause_193, k_X5_takeClause_197, k_X5_takeClause_198, k_X5_takeClause_199, k_X5_takeClause_208, k_X5_takeClause_211, k_X5_takeClause_215, k_X5_takeClause_216, k_X5_takeClause_220, li_0, li_1, li_2, li_3, li_4, li_5, li_6, li_9, li_10, li_40, lm_1, lm_2, lm_3, lm_4, zs_ap, i32_add, i32_sub, i32_mul, i32_neg, i32_lt, i32_le, i32_eq, i32_nat, ckn, pka_r, pka_v, if_pos, if_neg, if_true, if_false, i2, e, bBf, true_or]
    · simp (disch := omega) only [k_X5_takeClause_9, k_X5_takeClause_12, k_X5_takeClause_16, k_X5_takeClause_17, k_X5_takeClause_26, k_X5_takeClause_29, k_X5_takeClause_33, k_X5_takeClause_34, k_X5_takeClause_43, k_X5_takeClause_46, k_X5_takeClause_50, k_X5_takeClause_51, k_X5_takeClause_60, k_X5_takeClause_63, k_X5_takeClause_68, k_X5_takeClause_71, k_X5_takeClause_82, k_X5_takeClause_85, k_X5_takeClause_89, k_X5_takeClause_90, k_X5_takeClause_91, k_X5_takeClause_100, k_X5_takeClause_103, k_X5_takeClause_108, k_X5_takeClause_111, k_X5_takeClause_122, k_X5_takeClause_125, k_X5_takeClause_129, k_X5_takeClause_130, k_X5_takeClause_131, k_X5_takeClause_140, k_X5_takeClause_143, k_X5_takeClause_147, k_X5_takeClause_148, k_X5_takeClause_157, k_X5_takeClause_160, k_X5_takeClause_164, k_X5_takeClause_165, k_X5_takeClause_174, k_X5_takeClause_177, k_X5_takeClause_183, k_X5_takeClause_186, k_X5_takeClause_190, k_X5_takeClause_193, k_X5_takeClause_197, k_X5_takeClause_198, k_X5_takeClause_199, k_X5_takeClause_208, k_X5_takeClause_211, k_X5_takeClause_215, k_X5_takeClause_216, k_X5_takeClause_220, li_0, li_1, li_2, li_3, li_4, li_5, li_6, li_9, li_10, li_40, lm_1, lm_2, lm_3, lm_4, zs_ap, i32_add, i32_sub, i32_mul, i32_neg, i32_lt, i32_le, i32_eq, i32_nat, ckn, pka_r, pka_v, if_pos, if_neg, if_true, if_false, i2, e, bBt, or_true]
def CR (len p : Nat) (Z0 : Nat → Nat → Int) (J0 : Nat → Nat → Int64) (R : Nat → Nat → Option Nat) (r : Except (Int × Nat) (PS × Nat)) (o : Option (Option Value × pW)) : Prop := match r with
  | .error e => CE p Z0 J0 R e o
  | .ok s => ∃ (q : Nat) (Z' : Nat → Nat → Int) (J' : Nat → Nat → Int64), CQ len p (s.2 : Int) Z0 J0 s.1.1 s.1.2.1 q Z' J' ∧ o = some (some (.int (i32 1)), (176, zs Z', J', R))
def pSemi (tp : Nat → Nat) (len f : Nat) (D : Nat → Nat → Int) (N : Nat → Int64) (q c : Nat) : Except (Int × Nat) (PS × Nat) := if tkK tp len q = 3 then pLoop tp len f D N (tkB tp len q) (c + 1) else .error (1, tkF tp len q)
theorem CE_CR {e : Int × Nat} {o : Option (Option Value × pW)} (h : CE p1 Z0 J0 (RP p0 p1 p2 p3 p4 p5 p6 p7) e o) : CR len p1 Z0 J0 (RP p0 p1 p2 p3 p4 p5 p6 p7) (.error e) o := h
theorem rd_loop (ht : CT tp len p1 Z0) : ∀ (f : Nat) (D : Nat → Nat → Int) (N : Nat → Int64) (q n c i : Nat) (Z : Nat → Nat → Int) (J : Nat → Nat → Int64), len - q < f → i ≤ q → DW D n S → CQ len p1 (c : Int) Z0 J0 D N q Z J → CR len p1 Z0 J0 (RP p0 p1 p2 p3 p4 p5 p6 p7) (pSemi tp len f D N q c) (den none (Mean (d + 10)) (some .boolean) tQ_X5_read (75, [some (.ref 3), some (.int (i32 (i : Int)))], [], 176, zs Z, J, RP p0 p1 p2 p3 p4 p5 p6 p7)) := by
  have hp : hv2 p1 := ht.2.2.2
  intro f
  induction f with
  | zero => intro D N q n c i Z J hf; omega
  | succ f ih =>
    intro D N q n c i Z J hf hi hd h
    have hq := h.2.2.2.1.2
    have hl7 := ht.1
    have g1 := h_takeSemicolon (d := d + 8) (p0 := p0) (p1 := p1) (p2 := p2) (p3 := p3) (p4 := p4) (p5 := p5) (p6 := p6) (p7 := p7) ht h
    unfold pSemi
    by_cases c3 : tkK tp len q = 3
    · rw [if_pos c3]
      obtain ⟨Z1, h1, e1⟩ := g1.1 c3
      clear g1
      have z0 : Z1 p1 0 = (c : Int) := h1.2.2.2.2.1
      have h1' : CQ len p1 ((c + 1 : Nat) : Int) Z0 J0 D N (tkB tp len q) (u2 Z1 p1 0 ((c : Int) + 1)) J := by
        obtain ⟨a1, a2, ⟨b1, b2, b3, b4, b5⟩, a4, a5, a6⟩ := h1
        refine ⟨CX_up a1 (by omega), a2, ⟨?_, ?_, ?_, ?_, ?_⟩, ?_, ?_, ?_⟩
        · rw [u2f (by decide), u2f (by decide), u2f (by decide), u2f (by decide), u2f (by decide), u2f (by decide), u2f (by decide)]
          exact b1
        · rw [u2_ne (by omega), u2_ne (by omega), u2_ne (by omega), u2_ne (by omega)]
          exact b2
        · intro k hk i hi
          rw [u2_ne (by omega)]
          exact b3 k hk i hi
        · rw [u2_ne (by omega), u2_ne (by omega)]
          exact b4
        · rw [u2_ne (by omega)]
          exact b5
        · rw [u2_ne (by omega)]
          exact a4
        · rw [u2s]
          omega
        · rw [u2_ne (by omega)]
          exact a6
      obtain ⟨Z2, f2, l2, h2, e2⟩ := CQ_adv (d := d + 9) (p0 := p0) (p1 := p1) (p2 := p2) (p3 := p3) (p4 := p4) (p5 := p5) (p6 := p6) (p7 := p7) ht h1'
      have bq0 := (tk_le (tp := tp) hq).1
      have bq := (tk_le (tp := tp) hq).2
      have bq2 := bq.2 (by omega)
      generalize hq1 : tkB tp len q = q1 at *
      have hK5 := tk_K5 (tp := tp) (len := len) (q := q1)
      show CR len p1 Z0 J0 (RP p0 p1 p2 p3 p4 p5 p6 p7) (if tkK tp len q1 = 0 then .ok ((D, N, q1), c + 1) else match pClause tp len D N q1 with
        | .error e => .error e
        | .ok r => if tkK tp len r.2.2 = 3 then pLoop tp len f r.1 r.2.1 (tkB tp len r.2.2) (c + 1 + 1) else .error (1, tkF tp len r.2.2)) _
      by_cases c0 : tkK tp len q1 = 0
      · rw [if_pos c0]
        refine ⟨tkB tp len q1, Z2, J, h2, ?_⟩
        rw [k_X5_read_75]
        simp (disch := omega) only [k_X5_read_0, k_X5_read_7, k_X5_read_39, k_X5_read_45, k_X5_read_48, k_X5_read_54, k_X5_read_57, k_X5_read_59, k_X5_read_82, k_X5_read_86, k_X5_read_89, k_X5_read_91, k_X5_read_111, k_X5_read_121, k_X5_read_123, k_X5_read_127, k_X5_read_130, k_X5_read_132, k_X5_read_138, li_0, li_1, li_2, li_3, li_4, li_5, li_6, li_9, li_10, li_40, lm_1, lm_2, lm_3, lm_4, zs_ap, i32_add, i32_sub, i32_mul, i32_neg, i32_lt, i32_le, i32_eq, i32_nat, ckn, pka_r, pka_v, if_pos, if_neg, if_true, if_false, li_700, e1, z0, zs_u2, e2, l2.2.1, c0]
      · rw [if_neg c0]
        have r := h_takeClause (d := d) (p0 := p0) (p1 := p1) (p2 := p2) (p3 := p3) (p4 := p4) (p5 := p5) (p6 := p6) (p7 := p7) ht hd (by omega) l2 h2
        have e3 : ∀ (o : Option (Option Value × pW)), Mean (d + 10) 44 [.ref 3] (176, zs Z2, J, RP p0 p1 p2 p3 p4 p5 p6 p7) = o → den none (Mean (d + 10)) (some .boolean) tQ_X5_read (75, [some (.ref 3), some (.int (i32 (i : Int)))], [], 176, zs Z, J, RP p0 p1 p2 p3 p4 p5 p6 p7) = pka o (fun v9 w9 => den none (Mean (d + 10)) (some .boolean) tQ_X5_read (127, [some (.ref 3), some (.int (i32 (i : Int)))], [v9], w9)) (fun w9 => den none (Mean (d + 10)) (some .boolean) tQ_X5_read (127, [some (.ref 3), some (.int (i32 (i : Int)))], [], w9)) := fun o ho => by
          rw [k_X5_read_75]
          simp (disch := omega) only [k_X5_read_0, k_X5_read_7, k_X5_read_39, k_X5_read_45, k_X5_read_48, k_X5_read_54, k_X5_read_57, k_X5_read_59, k_X5_read_82, k_X5_read_86, k_X5_read_89, k_X5_read_91, k_X5_read_111, k_X5_read_121, k_X5_read_123, k_X5_read_130, k_X5_read_132, k_X5_read_138, li_0, li_1, li_2, li_3, li_4, li_5, li_6, li_9, li_10, li_40, lm_1, lm_2, lm_3, lm_4, zs_ap, i32_add, i32_sub, i32_mul, i32_neg, i32_lt, i32_le, i32_eq, i32_nat, ckn, pka_r, pka_v, if_pos, if_neg, if_true, if_false, li_700, e1, z0, zs_u2, e2, l2.2.1, ho]
        cases hc : pClause tp len D N q1 with
        | error x =>
          rw [hc] at r
          refine CE_CR (CE_eq r (fun Z' J' e => ?_))
          rw [e3 _ e]
          simp (disch := omega) only [k_X5_read_0, k_X5_read_7, k_X5_read_39, k_X5_read_45, k_X5_read_48, k_X5_read_54, k_X5_read_57, k_X5_read_59, k_X5_read_82, k_X5_read_86, k_X5_read_89, k_X5_read_91, k_X5_read_111, k_X5_read_121, k_X5_read_123, k_X5_read_127, k_X5_read_130, k_X5_read_132, k_X5_read_138, li_0, li_1, li_2, li_3, li_4, li_5, li_6, li_9, li_10, li_40, lm_1, lm_2, lm_3, lm_4, zs_ap, i32_add, i32_sub, i32_mul, i32_neg, i32_lt, i32_le, i32_eq, i32_nat, ckn, pka_r, pka_v, if_pos, if_neg, if_true, if_false]
        | ok s =>
          rw [hc] at r
          obtain ⟨Z3, J3, h3, e4⟩ := r
          obtain ⟨⟨n', hd'⟩, hq3⟩ := pClause_ok hd (by omega) c0 hc
          have r2 := ih s.1 s.2.1 s.2.2 n' (c + 1) (i + 1) Z3 J3 (by omega) (by omega) hd' h3
          rw [e3 _ e4]
          have e5 : pka (some (some (Value.int (i32 1)), (176, zs Z3, J3, RP p0 p1 p2 p3 p4 p5 p6 p7))) (fun v9 w9 => den none (Mean (d + 10)) (some .boolean) tQ_X5_read (127, [some (.ref 3), some (.int (i32 (i : Int)))], [v9], w9)) (fun w9 => den none (Mean (d + 10)) (some .boolean) tQ_X5_read (127, [some (.ref 3), some (.int (i32 (i : Int)))], [], w9)) = den none (Mean (d + 10)) (some .boolean) tQ_X5_read (75, [some (.ref 3), some (.int (i32 ((i + 1 : Nat) : Int)))], [], 176, zs Z3, J3, RP p0 p1 p2 p3 p4 p5 p6 p7) := by
            simp (disch := omega) only [k_X5_read_0, k_X5_read_7, k_X5_read_39, k_X5_read_45, k_X5_read_48, k_X5_read_54, k_X5_read_57, k_X5_read_59, k_X5_read_82, k_X5_read_86, k_X5_read_89, k_X5_read_91, k_X5_read_111, k_X5_read_121, k_X5_read_123, k_X5_read_127, k_X5_read_130, k_X5_read_132, k_X5_read_138, li_0, li_1, li_2, li_3, li_4, li_5, li_6, li_9, li_10, li_40, lm_1, lm_2, lm_3, lm_4, zs_ap, i32_add, i32_sub, i32_mul, i32_neg, i32_lt, i32_le, i32_eq, i32_nat, ckn, pka_r, pka_v, if_pos, if_neg, if_true, if_false]
            rfl
          rw [e5]
          exact r2
    · rw [if_neg c3]
      have gg := g1.2 c3
      clear g1
      refine CE_CR (CE_eq gg (fun Z' J' e => ?_))
      rw [k_X5_read_75]
      simp (disch := omega) only [k_X5_read_0, k_X5_read_7, k_X5_read_39, k_X5_read_45, k_X5_read_48, k_X5_read_54, k_X5_read_57, k_X5_read_59, k_X5_read_82, k_X5_read_86, k_X5_read_89, k_X5_read_91, k_X5_read_111, k_X5_read_121, k_X5_read_123, k_X5_read_127, k_X5_read_130, k_X5_read_132, k_X5_read_138, li_0, li_1, li_2, li_3, li_4, li_5, li_6, li_9, li_10, li_40, lm_1, lm_2, lm_3, lm_4, zs_ap, i32_add, i32_sub, i32_mul, i32_neg, i32_lt, i32_le, i32_eq, i32_nat, ckn, pka_r, pka_v, if_pos, if_neg, if_true, if_false, li_700, e]
theorem h_read {Z : Nat → Nat → Int} {J : Nat → Nat → Int64} (ht : CT tp len p1 Z) {D0 : Nat → Nat → Int} (hD0 : P0 D0) (N : Nat → Int64) : CR len p1 Z J (RP p0 p1 p2 p3 p4 p5 p6 p7) (pMatter tp len D0 N) (Mean (d + 11) 43 [.ref 3] (176, zs Z, J, RP p0 p1 p2 p3 p4 p5 p6 p7)) := by
  have hp : hv2 p1 := ht.2.2.2
  obtain ⟨⟨b18, b19, b20, b21, b22, b23⟩, bf, bam⟩ := hD0
  have hcl := h_mclear (d := d + 8) (J := J) (p0 := p0) (p1 := p1) (p2 := p2) (p3 := p3) (p4 := p4) (p5 := p5) (p6 := p6) (p7 := p7) (Z := Z) (h := p1) (by omega)
  generalize hZ1 : mclr Z p1 = Z1 at *
  have m1 : ∀ a : Nat, (a < p1 ∨ p1 + 14 < a) → Z1 a = Z a := fun a ha => by
    rw [← hZ1]
    unfold mclr
    rw [u2_ne (by omega), u2_ne (by omega), u2_ne (by omega), u2_ne (by omega), u2_ne (by omega), fl3_a (by omega), fl3_a (by omega), u2_ne (by omega), u2_ne (by omega), u2_ne (by omega)]
  have m2 : Z1 p1 0 = 0 ∧ Z1 p1 1 = 2 ∧ Z1 p1 2 = 0 ∧ Z1 p1 11 = 0 ∧ Z1 p1 12 = 1 ∧ Z1 p1 13 = 0 ∧ Z1 p1 14 = 0 ∧ Z1 p1 15 = 0 := by
    rw [← hZ1]
    unfold mclr fl3
    simp [u2]
  have m3 : ∀ i : Nat, i < 3 → Z1 (p1 + 13) i = 0 ∧ Z1 (p1 + 14) i = 0 := fun i hi => by
    rw [← hZ1]
    unfold mclr
    rw [u2_ne (by omega), u2_ne (by omega), u2_ne (by omega), u2_ne (by omega), u2_ne (by omega), u2_ne (by omega), u2_ne (by omega), u2_ne (by omega), u2_ne (by omega), u2_ne (by omega), fl3_a (by omega), fl3_s hi, fl3_s hi]
    exact ⟨rfl, rfl⟩
  generalize hZ2 : u2 (u2 (u2 (u2 (u2 (u2 Z1 3 2 0) 3 3 0) 3 4 0) 3 5 0) 3 6 (-1)) 4 1 0 = Z2
  have n1 : ∀ a : Nat, a ≠ 3 → a ≠ 4 → Z2 a = Z1 a := fun a h1 h2 => by
    rw [← hZ2, u2_ne h2, u2_ne h1, u2_ne h1, u2_ne h1, u2_ne h1, u2_ne h1]
  have n2 : Z2 3 2 = 0 ∧ Z2 3 3 = 0 ∧ Z2 3 4 = 0 ∧ Z2 3 5 = 0 ∧ Z2 3 6 = -1 ∧ Z2 4 1 = 0 := by
    rw [← hZ2]
    simp [u2]
  have h2 : CQ len p1 ((0 : Nat) : Int) Z J (u2 D0 140 17 2) N 0 Z2 J := by
    have g : ∀ j : Nat, j ≠ 17 → u2 D0 140 17 2 140 j = D0 140 j := fun j hj => u2f hj
    refine ⟨fun a h1 h2 h3 => (n1 a h2 h3).trans (m1 a h1), fun _ _ => rfl, ⟨?_, ?_, ?_, ?_, ?_⟩, ⟨n2.2.2.2.2.2, Nat.zero_le _⟩, ?_, ⟨n2.2.2.2.1, n2.2.2.2.2.1⟩⟩
    · rw [n1 p1 (by omega) (by omega), u2s, g 18 (by decide), g 19 (by decide), g 20 (by decide), g 21 (by decide), g 22 (by decide), g 25 (by decide), b18, b19, b20, b21, b22, bf 25 (by decide) (by decide)]
      exact ⟨m2.2.1, m2.2.2.1, m2.2.2.2.1, m2.2.2.2.2.1, m2.2.2.2.2.2.1, m2.2.2.2.2.2.2.1, m2.2.2.2.2.2.2.2⟩
    · rw [g 18 (by decide), b18]
      intro k hk
      simp at hk
    · rw [g 18 (by decide), b18]
      intro k hk
      simp at hk
    · intro i hi
      rw [n1 _ (by omega) (by omega), n1 _ (by omega) (by omega), u2_ne (by decide), u2_ne (by decide), (bam i hi).1, (bam i hi).2]
      exact m3 i hi
    · rw [n2.1, n2.2.1, n2.2.2.1, g 18 (by decide), b18]
      refine ⟨?_, ⟨0, by decide, rfl, fun k hk => ?_⟩, ⟨0, by decide, rfl, fun k hk => ?_⟩⟩
      · unfold fsum
        rw [g 30 (by decide), g 31 (by decide), g 26 (by decide), g 27 (by decide), g 28 (by decide), g 29 (by decide), g 25 (by decide), bf 30 (by decide) (by decide), bf 31 (by decide) (by decide), bf 26 (by decide) (by decide), bf 27 (by decide) (by decide), bf 28 (by decide) (by decide), bf 29 (by decide) (by decide), bf 25 (by decide) (by decide)]
        rfl
      · simp
      · simp
    · rw [n1 p1 (by omega) (by omega)]
      exact m2.1
  have k1 := h_takeKeyword (d := d + 2) (p0 := p0) (p1 := p1) (p2 := p2) (p3 := p3) (p4 := p4) (p5 := p5) (p6 := p6) (p7 := p7) ht h2 (t := 1) (by decide) (by decide)
  have e0 : ∀ (o : Option (Option Value × pW)), Mean (d + 10) 57 [.ref 3, .retAddr 1] (176, zs Z2, J, RP p0 p1 p2 p3 p4 p5 p6 p7) = o → Mean (d + 11) 43 [.ref 3] (176, zs Z, J, RP p0 p1 p2 p3 p4 p5 p6 p7) = pka o (fun v9 w9 => den none (Mean (d + 10)) (some .boolean) tQ_X5_read (45, [some (.ref 3), none], [v9], w9)) (fun w9 => den none (Mean (d + 10)) (some .boolean) tQ_X5_read (45, [some (.ref 3), none], [], w9)) := fun o ho => by
    rw [e_X5_read, k_X5_read_0 (hv_p1 := hp)]
    simp (disch := omega) only [k_X5_read_7, k_X5_read_39, k_X5_read_48, k_X5_read_54, k_X5_read_57, k_X5_read_59, k_X5_read_82, k_X5_read_86, k_X5_read_89, k_X5_read_91, k_X5_read_111, k_X5_read_121, k_X5_read_123, k_X5_read_127, k_X5_read_130, k_X5_read_132, k_X5_read_138, li_0, li_1, li_2, li_3, li_4, li_5, li_6, li_9, li_10, li_40, lm_1, lm_2, lm_3, lm_4, zs_ap, i32_add, i32_sub, i32_mul, i32_neg, i32_lt, i32_le, i32_eq, i32_nat, ckn, pka_r, pka_v, if_pos, if_neg, if_true, if_false, hcl, zs_u2, h_restart, hZ2, ho]
  unfold pMatter
  cases c1 : tkIs tp len 0 1
  · rw [if_neg Bool.false_ne_true]
    have gg := k1.2 c1
    clear k1
    refine CE_CR (CE_eq gg (fun Z' J' e => ?_))
    rw [e0 _ e]
    simp (disch := omega) only [k_X5_read_0, k_X5_read_7, k_X5_read_39, k_X5_read_45, k_X5_read_48, k_X5_read_54, k_X5_read_57, k_X5_read_59, k_X5_read_82, k_X5_read_86, k_X5_read_89, k_X5_read_91, k_X5_read_111, k_X5_read_121, k_X5_read_123, k_X5_read_127, k_X5_read_130, k_X5_read_132, k_X5_read_138, li_0, li_1, li_2, li_3, li_4, li_5, li_6, li_9, li_10, li_40, lm_1, lm_2, lm_3, lm_4, zs_ap, i32_add, i32_sub, i32_mul, i32_neg, i32_lt, i32_le, i32_eq, i32_nat, ckn, pka_r, pka_v, if_pos, if_neg, if_true, if_false]
  · rw [if_pos rfl]
    obtain ⟨Z3, ⟨f3, h3⟩, e3⟩ := k1.1 c1
    clear k1
    have k2 := h_takeNumber (d := d + 7) (p0 := p0) (p1 := p1) (p2 := p2) (p3 := p3) (p4 := p4) (p5 := p5) (p6 := p6) (p7 := p7) ht h3 (lo := 2) (hi := 3) (by omega) (by omega)
    generalize hq1 : tkB tp len 0 = q1 at *
    by_cases c2 : eNum tp len q1 2 3 = 0
    · rw [if_pos c2]
      obtain ⟨Z4, h4, v4, _, e4⟩ := k2.1 c2
      clear k2
      have hb : 2 ≤ tkV tp len q1 ∧ tkV tp len q1 ≤ 3 := by
        unfold eNum at c2
        split at c2
        · split at c2
          · assumption
          · cases c2
        · cases c2
      obtain ⟨S', hS'⟩ : ∃ S' : Nat, tkV tp len q1 = (S' : Int) := ⟨(tkV tp len q1).toNat, by omega⟩
      have h5 : CQ len p1 ((0 : Nat) : Int) Z J (u2 D0 140 17 (tkV tp len q1)) N (tkB tp len q1) (u2 Z4 p1 1 (tkV tp len q1)) J := by
        obtain ⟨a1, a2, ⟨b1, b2, b3, b4, b5⟩, a4, a5, a6⟩ := h4
        have g : ∀ (v : Int) (j : Nat), j ≠ 17 → u2 D0 140 17 v 140 j = D0 140 j := fun v j hj => u2f hj
        have g' : ∀ (v : Int) (a : Nat), a ≠ 140 → u2 D0 140 17 v a = D0 a := fun v a ha => u2_ne ha
        refine ⟨CX_up a1 (by omega), a2, ⟨?_, ?_, ?_, ?_, ?_⟩, ?_, ?_, ?_⟩
        · rw [g _ 18 (by decide), g _ 19 (by decide), g _ 20 (by decide), g _ 21 (by decide), g _ 22 (by decide), g _ 25 (by decide)] at b1
          obtain ⟨_, c2, c3, c4, c5, c6, c7⟩ := b1
          refine ⟨by rw [u2s, u2s], ?_, ?_, ?_, ?_, ?_, ?_⟩
          · rw [u2f (by decide), g _ 18 (by decide)]; exact c2
          · rw [u2f (by decide), g _ 19 (by decide)]; exact c3
          · rw [u2f (by decide), g _ 20 (by decide)]; exact c4
          · rw [u2f (by decide), g _ 21 (by decide)]; exact c5
          · rw [u2f (by decide), g _ 22 (by decide)]; exact c6
          · rw [u2f (by decide), g _ 25 (by decide)]; exact c7
        · rw [g _ 18 (by decide), b18]
          intro k hk
          simp at hk
        · rw [g _ 18 (by decide), b18]
          intro k hk
          simp at hk
        · rw [g' _ 155 (by decide), g' _ 156 (by decide)] at b4
          intro i hi
          obtain ⟨c1, c2⟩ := b4 i hi
          constructor
          · rw [u2_ne (by omega), g' _ 155 (by decide)]; exact c1
          · rw [u2_ne (by omega), g' _ 156 (by decide)]; exact c2
        · rw [u2_ne (by omega), fsum_c (by omega), g _ 18 (by decide), g' _ 149 (by decide), g' _ 150 (by decide)]
          rw [fsum_c (by omega), g _ 18 (by decide), g' _ 149 (by decide), g' _ 150 (by decide)] at b5
          exact b5
        · rw [u2_ne (by omega)]; exact a4
        · rw [u2f (by decide)]; exact a5
        · rw [u2_ne (by omega)]; exact a6
      have hdw : DW (u2 D0 140 17 (tkV tp len q1)) 0 S' := by
        rw [hS']
        exact P0_DW ⟨⟨b18, b19, b20, b21, b22, b23⟩, bf, bam⟩ (by omega)
      have hq5 := h5.2.2.2.1.2
      have r := rd_loop (d := d) (p0 := p0) (p1 := p1) (p2 := p2) (p3 := p3) (p4 := p4) (p5 := p5) (p6 := p6) (p7 := p7) ht (len + 1) (u2 D0 140 17 (tkV tp len q1)) N (tkB tp len q1) 0 0 0 _ J (by omega) (by omega) hdw h5
      have e6 : Mean (d + 11) 43 [.ref 3] (176, zs Z, J, RP p0 p1 p2 p3 p4 p5 p6 p7) = den none (Mean (d + 10)) (some .boolean) tQ_X5_read (75, [some (.ref 3), some (.int (i32 ((0 : Nat) : Int)))], [], 176, zs (u2 Z4 p1 1 (tkV tp len q1)), J, RP p0 p1 p2 p3 p4 p5 p6 p7) := by
        rw [e0 _ e3]
        simp (disch := omega) only [k_X5_read_0, k_X5_read_7, k_X5_read_39, k_X5_read_45, k_X5_read_48, k_X5_read_54, k_X5_read_57, k_X5_read_59, k_X5_read_82, k_X5_read_86, k_X5_read_89, k_X5_read_91, k_X5_read_111, k_X5_read_121, k_X5_read_123, k_X5_read_127, k_X5_read_130, k_X5_read_132, k_X5_read_138, li_0, li_1, li_2, li_3, li_4, li_5, li_6, li_9, li_10, li_40, lm_1, lm_2, lm_3, lm_4, zs_ap, i32_add, i32_sub, i32_mul, i32_neg, i32_lt, i32_le, i32_eq, i32_nat, ckn, pka_r, pka_v, if_pos, if_neg, if_true, if_false, e4, v4, zs_u2]
        rfl
      rw [e6]
      exact r
    · rw [if_neg c2]
      have gg := k2.2 c2
      clear k2
      refine CE_CR (CE_eq gg (fun Z' J' e => ?_))
      rw [e0 _ e3]
      simp (disch := omega) only [k_X5_read_0, k_X5_read_7, k_X5_read_39, k_X5_read_45, k_X5_read_48, k_X5_read_54, k_X5_read_57, k_X5_read_59, k_X5_read_82, k_X5_read_86, k_X5_read_89, k_X5_read_91, k_X5_read_111, k_X5_read_121, k_X5_read_123, k_X5_read_127, k_X5_read_130, k_X5_read_132, k_X5_read_138, li_0, li_1, li_2, li_3, li_4, li_5, li_6, li_9, li_10, li_40, lm_1, lm_2, lm_3, lm_4, zs_ap, i32_add, i32_sub, i32_mul, i32_neg, i32_lt, i32_le, i32_eq, i32_nat, ckn, pka_r, pka_v, if_pos, if_neg, if_true, if_false, e]
end
