/-! THE CLASS'S Lexer -/
/-- the store but for the given fields of one cell -/
def FC (c : Nat) (l : List Nat) (Z Z' : Nat → Nat → Int) : Prop := (∀ a : Nat, a ≠ c → Z' a = Z a) ∧ ∀ j : Nat, j ∉ l → Z' c j = Z c j
theorem FC_rfl {c : Nat} {l : List Nat} {Z : Nat → Nat → Int} : FC c l Z Z := ⟨fun _ _ => rfl, fun _ _ => rfl⟩
theorem FC_tr {c : Nat} {l : List Nat} {Z1 Z2 Z3 : Nat → Nat → Int} (h1 : FC c l Z1 Z2) (h2 : FC c l Z2 Z3) : FC c l Z1 Z3 := ⟨fun a ha => (h2.1 a ha).trans (h1.1 a ha), fun j hj => (h2.2 j hj).trans (h1.2 j hj)⟩
theorem FC_u {c : Nat} {l : List Nat} {Z1 Z2 : Nat → Nat → Int} {j : Nat} {v : Int} (h1 : FC c l Z1 Z2) (hj : j ∈ l) : FC c l Z1 (u2 Z2 c j v) := ⟨fun a ha => (u2_ne ha).trans (h1.1 a ha), fun k hk => (u2f (fun e => hk (by rw [e]; exact hj))).trans (h1.2 k hk)⟩
theorem FC_w {c : Nat} {l l' : List Nat} {Z Z' : Nat → Nat → Int} (h : FC c l Z Z') (hs : ∀ j : Nat, j ∈ l → j ∈ l') : FC c l' Z Z' := ⟨h.1, fun j hj => h.2 j (fun e => hj (hs j e))⟩
theorem TC_fr {tp : Nat → Nat} {Z Z' : Nat → Nat → Int} (ht : TC tp Z) (h : Z' 2 = Z 2) : TC tp Z' := fun x hx => by
  rw [h]
  exact ht x hx
/-- the class's Lexer has read the TOKEN from q on -/
def LT (tp : Nat → Nat) (len q : Nat) (Z : Nat → Nat → Int) : Prop := Z 4 1 = (tkB tp len q : Int) ∧ Z 4 2 = (tkK tp len q : Int) ∧ Z 4 3 = (tkF tp len q : Int) ∧ (tkK tp len q = 2 → Z 4 4 = tkV tp len q)
section
variable {d : Nat} {J : Nat → Nat → Int64} {Z : Nat → Nat → Int} {p0 p1 p2 p3 p4 p5 p6 p7 : Nat} {tp : Nat → Nat} {len : Nat}
theorem ca_skip (hl : len ≤ 700) : ∀ (n q : Nat) (Z : Nat → Nat → Int), len - q = n → q ≤ len → TC tp Z → Z 4 1 = (q : Int) → ∃ Z' : Nat → Nat → Int, FC 4 [1] Z Z' ∧ Z' 4 1 = ((rt tp len isSp q : Nat) : Int) ∧ den none (Mean d) none tQ_X3_advance (16, [some (.ref 4), some (.ref 2), some (.int (i32 (len : Int)))], [], 176, zs Z, J, RP p0 p1 p2 p3 p4 p5 p6 p7) = den none (Mean d) none tQ_X3_advance (59, [some (.ref 4), some (.ref 2), some (.int (i32 (len : Int)))], [], 176, zs Z', J, RP p0 p1 p2 p3 p4 p5 p6 p7) := by
  intro n
  induction n with
  | zero =>
    intro q Z hn hq ht h4
    refine ⟨Z, FC_rfl, by rw [h4, rt_n (by omega)], ?_⟩
    rw [k_X3_advance_16]
    simp (disch := omega) only [k_X3_advance_0, k_X3_advance_24, k_X3_advance_30, k_X3_advance_35, k_X3_advance_41, k_X3_advance_46, k_X3_advance_75, k_X3_advance_83, k_X3_advance_89, k_X3_advance_94, k_X3_advance_100, k_X3_advance_113, k_X3_advance_119, k_X3_advance_124, k_X3_advance_130, k_X3_advance_135, k_X3_advance_148, k_X3_advance_163, k_X3_advance_167, k_X3_advance_168, k_X3_advance_174, k_X3_advance_180, k_X3_advance_185, k_X3_advance_191, k_X3_advance_196, k_X3_advance_209, k_X3_advance_215, k_X3_advance_220, k_X3_advance_226, k_X3_advance_231, k_X3_advance_245, k_X3_advance_265, k_X3_advance_279, k_X3_advance_283, k_X3_advance_284, k_X3_advance_290, k_X3_advance_297, k_X3_advance_302, k_X3_advance_306, k_X3_advance_312, k_X3_advance_317, k_X3_advance_321, k_X3_advance_322, k_X3_advance_335, li_0, li_1, li_2, li_3, li_4, li_5, li_6, li_9, li_10, li_40, lm_1, lm_2, lm_3, lm_4, zs_ap, i32_add, i32_sub, i32_mul, i32_neg, i32_lt, i32_le, i32_eq, i32_nat, ckn, pka_r, pka_v, if_pos, if_neg, if_true, if_false, h4]
  | succ n ih =>
    intro q Z hn hq ht h4
    have hb := ht q (by omega)
    by_cases c : isSp (tp q) = true
    · have c' := of_decide_eq_true c
      have hx : FC 4 [1] Z (u2 Z 4 1 ((q : Int) + 1)) := FC_u FC_rfl (by decide)
      obtain ⟨Z', e1, e2, e3⟩ := ih (q + 1) (u2 Z 4 1 ((q : Int) + 1)) (by omega) (by omega) (TC_fr ht (hx.1 2 (by decide))) (by rw [u2s]; omega)
      refine ⟨Z', FC_tr hx e1, by rw [e2, rt_y (by omega) c], ?_⟩
      rw [k_X3_advance_16]
      by_cases c32 : tp q = 32
      · simp (disch := omega) only [k_X3_advance_0, k_X3_advance_24, k_X3_advance_30, k_X3_advance_35, k_X3_advance_41, k_X3_advance_46, k_X3_advance_75, k_X3_advance_83, k_X3_advance_89, k_X3_advance_94, k_X3_advance_100, k_X3_advance_113, k_X3_advance_119, k_X3_advance_124, k_X3_advance_130, k_X3_advance_135, k_X3_advance_148, k_X3_advance_163, k_X3_advance_167, k_X3_advance_168, k_X3_advance_174, k_X3_advance_180, k_X3_advance_185, k_X3_advance_191, k_X3_advance_196, k_X3_advance_209, k_X3_advance_215, k_X3_advance_220, k_X3_advance_226, k_X3_advance_231, k_X3_advance_245, k_X3_advance_265, k_X3_advance_279, k_X3_advance_283, k_X3_advance_284, k_X3_advance_290, k_X3_advance_297, k_X3_advance_302, k_X3_advance_306, k_X3_advance_312, k_X3_advance_317, k_X3_advance_321, k_X3_advance_322, k_X3_advance_335, li_0, li_1, li_2, li_3, li_4, li_5, li_6, li_9, li_10, li_40, lm_1, lm_2, lm_3, lm_4, zs_ap, i32_add, i32_sub, i32_mul, i32_neg, i32_lt, i32_le, i32_eq, i32_nat, ckn, pka_r, pka_v, if_pos, if_neg, if_true, if_false, h4, Int.toNat_natCast, li_32, zs_u2]
        exact e3
      · have c10 : tp q = 10 := by omega
        simp (disch := omega) only [k_X3_advance_0, k_X3_advance_24, k_X3_advance_30, k_X3_advance_35, k_X3_advance_41, k_X3_advance_46, k_X3_advance_75, k_X3_advance_83, k_X3_advance_89, k_X3_advance_94, k_X3_advance_100, k_X3_advance_113, k_X3_advance_119, k_X3_advance_124, k_X3_advance_130, k_X3_advance_135, k_X3_advance_148, k_X3_advance_163, k_X3_advance_167, k_X3_advance_168, k_X3_advance_174, k_X3_advance_180, k_X3_advance_185, k_X3_advance_191, k_X3_advance_196, k_X3_advance_209, k_X3_advance_215, k_X3_advance_220, k_X3_advance_226, k_X3_advance_231, k_X3_advance_245, k_X3_advance_265, k_X3_advance_279, k_X3_advance_283, k_X3_advance_284, k_X3_advance_290, k_X3_advance_297, k_X3_advance_302, k_X3_advance_306, k_X3_advance_312, k_X3_advance_317, k_X3_advance_321, k_X3_advance_322, k_X3_advance_335, li_0, li_1, li_2, li_3, li_4, li_5, li_6, li_9, li_10, li_40, lm_1, lm_2, lm_3, lm_4, zs_ap, i32_add, i32_sub, i32_mul, i32_neg, i32_lt, i32_le, i32_eq, i32_nat, ckn, pka_r, pka_v, if_pos, if_neg, if_true, if_false, h4, Int.toNat_natCast, li_32, zs_u2]
        exact e3
    · refine ⟨Z, FC_rfl, by rw [h4, rt_n (fun q => c q.2)], ?_⟩
      have c' : ¬ (tp q = 32 ∨ tp q = 10) := fun h => c (decide_eq_true h)
      rw [k_X3_advance_16]
      simp (disch := omega) only [k_X3_advance_0, k_X3_advance_24, k_X3_advance_30, k_X3_advance_35, k_X3_advance_41, k_X3_advance_46, k_X3_advance_75, k_X3_advance_83, k_X3_advance_89, k_X3_advance_94, k_X3_advance_100, k_X3_advance_113, k_X3_advance_119, k_X3_advance_124, k_X3_advance_130, k_X3_advance_135, k_X3_advance_148, k_X3_advance_163, k_X3_advance_167, k_X3_advance_168, k_X3_advance_174, k_X3_advance_180, k_X3_advance_185, k_X3_advance_191, k_X3_advance_196, k_X3_advance_209, k_X3_advance_215, k_X3_advance_220, k_X3_advance_226, k_X3_advance_231, k_X3_advance_245, k_X3_advance_265, k_X3_advance_279, k_X3_advance_283, k_X3_advance_284, k_X3_advance_290, k_X3_advance_297, k_X3_advance_302, k_X3_advance_306, k_X3_advance_312, k_X3_advance_317, k_X3_advance_321, k_X3_advance_322, k_X3_advance_335, li_0, li_1, li_2, li_3, li_4, li_5, li_6, li_9, li_10, li_40, lm_1, lm_2, lm_3, lm_4, zs_ap, i32_add, i32_sub, i32_mul, i32_neg, i32_lt, i32_le, i32_eq, i32_nat, ckn, pka_r, pka_v, if_pos, if_neg, if_true, if_false, h4, Int.toNat_natCast, li_32]
theorem ca_word (hl : len ≤ 700) : ∀ (n q : Nat) (Z : Nat → Nat → Int), len - q = n → q ≤ len → TC tp Z → Z 4 1 = (q : Int) → ∃ Z' : Nat → Nat → Int, FC 4 [1] Z Z' ∧ Z' 4 1 = ((rt tp len isSm q : Nat) : Int) ∧ den none (Mean d) none tQ_X3_advance (105, [some (.ref 4), some (.ref 2), some (.int (i32 (len : Int)))], [], 176, zs Z, J, RP p0 p1 p2 p3 p4 p5 p6 p7) = den none (Mean d) none tQ_X3_advance (148, [some (.ref 4), some (.ref 2), some (.int (i32 (len : Int)))], [], 176, zs Z', J, RP p0 p1 p2 p3 p4 p5 p6 p7) := by
  intro n
  induction n with
  | zero =>
    intro q Z hn hq ht h4
    refine ⟨Z, FC_rfl, by rw [h4, rt_n (by omega)], ?_⟩
    rw [k_X3_advance_105]
    simp (disch := omega) only [k_X3_advance_0, k_X3_advance_24, k_X3_advance_30, k_X3_advance_35, k_X3_advance_41, k_X3_advance_46, k_X3_advance_59, k_X3_advance_75, k_X3_advance_83, k_X3_advance_89, k_X3_advance_94, k_X3_advance_100, k_X3_advance_113, k_X3_advance_119, k_X3_advance_124, k_X3_advance_130, k_X3_advance_135, k_X3_advance_163, k_X3_advance_167, k_X3_advance_168, k_X3_advance_174, k_X3_advance_180, k_X3_advance_185, k_X3_advance_191, k_X3_advance_196, k_X3_advance_209, k_X3_advance_215, k_X3_advance_220, k_X3_advance_226, k_X3_advance_231, k_X3_advance_245, k_X3_advance_265, k_X3_advance_279, k_X3_advance_283, k_X3_advance_284, k_X3_advance_290, k_X3_advance_297, k_X3_advance_302, k_X3_advance_306, k_X3_advance_312, k_X3_advance_317, k_X3_advance_321, k_X3_advance_322, k_X3_advance_335, li_0, li_1, li_2, li_3, li_4, li_5, li_6, li_9, li_10, li_40, lm_1, lm_2, lm_3, lm_4, zs_ap, i32_add, i32_sub, i32_mul, i32_neg, i32_lt, i32_le, i32_eq, i32_nat, ckn, pka_r, pka_v, if_pos, if_neg, if_true, if_false, h4]
  | succ n ih =>
    intro q Z hn hq ht h4
    have hb := ht q (by omega)
    by_cases c : isSm (tp q) = true
    · have c' := of_decide_eq_true c
      have hx : FC 4 [1] Z (u2 Z 4 1 ((q : Int) + 1)) := FC_u FC_rfl (by decide)
      obtain ⟨Z', e1, e2, e3⟩ := ih (q + 1) (u2 Z 4 1 ((q : Int) + 1)) (by omega) (by omega) (TC_fr ht (hx.1 2 (by decide))) (by rw [u2s]; omega)
      refine ⟨Z', FC_tr hx e1, by rw [e2, rt_y (by omega) c], ?_⟩
      rw [k_X3_advance_105]
      simp (disch := omega) only [k_X3_advance_0, k_X3_advance_24, k_X3_advance_30, k_X3_advance_35, k_X3_advance_41, k_X3_advance_46, k_X3_advance_59, k_X3_advance_75, k_X3_advance_83, k_X3_advance_89, k_X3_advance_94, k_X3_advance_100, k_X3_advance_113, k_X3_advance_119, k_X3_advance_124, k_X3_advance_130, k_X3_advance_135, k_X3_advance_163, k_X3_advance_167, k_X3_advance_168, k_X3_advance_174, k_X3_advance_180, k_X3_advance_185, k_X3_advance_191, k_X3_advance_196, k_X3_advance_209, k_X3_advance_215, k_X3_advance_220, k_X3_advance_226, k_X3_advance_231, k_X3_advance_245, k_X3_advance_265, k_X3_advance_279, k_X3_advance_283, k_X3_advance_284, k_X3_advance_290, k_X3_advance_297, k_X3_advance_302, k_X3_advance_306, k_X3_advance_312, k_X3_advance_317, k_X3_advance_321, k_X3_advance_322, k_X3_advance_335, li_0, li_1, li_2, li_3, li_4, li_5, li_6, li_9, li_10, li_40, lm_1, lm_2, lm_3, lm_4, zs_ap, i32_add, i32_sub, i32_mul, i32_neg, i32_lt, i32_le, i32_eq, i32_nat, ckn, pka_r, pka_v, if_pos, if_neg, if_true, if_false, h4, Int.toNat_natCast, li_97, li_122, zs_u2]
      exact e3
    · refine ⟨Z, FC_rfl, by rw [h4, rt_n (fun q => c q.2)], ?_⟩
      have c' : ¬ (97 ≤ tp q ∧ tp q ≤ 122) := fun h => c (decide_eq_true h)
      rw [k_X3_advance_105]
      by_cases c1 : Z 2 q < 97
      · simp (disch := omega) only [k_X3_advance_0, k_X3_advance_24, k_X3_advance_30, k_X3_advance_35, k_X3_advance_41, k_X3_advance_46, k_X3_advance_59, k_X3_advance_75, k_X3_advance_83, k_X3_advance_89, k_X3_advance_94, k_X3_advance_100, k_X3_advance_113, k_X3_advance_119, k_X3_advance_124, k_X3_advance_130, k_X3_advance_135, k_X3_advance_163, k_X3_advance_167, k_X3_advance_168, k_X3_advance_174, k_X3_advance_180, k_X3_advance_185, k_X3_advance_191, k_X3_advance_196, k_X3_advance_209, k_X3_advance_215, k_X3_advance_220, k_X3_advance_226, k_X3_advance_231, k_X3_advance_245, k_X3_advance_265, k_X3_advance_279, k_X3_advance_283, k_X3_advance_284, k_X3_advance_290, k_X3_advance_297, k_X3_advance_302, k_X3_advance_306, k_X3_advance_312, k_X3_advance_317, k_X3_advance_321, k_X3_advance_322, k_X3_advance_335, li_0, li_1, li_2, li_3, li_4, li_5, li_6, li_9, li_10, li_40, lm_1, lm_2, lm_3, lm_4, zs_ap, i32_add, i32_sub, i32_mul, i32_neg, i32_lt, i32_le, i32_eq, i32_nat, ckn, pka_r, pka_v, if_pos, if_neg, if_true, if_false, h4, Int.toNat_natCast, li_97, li_122]
      · simp (disch := omega) only [k_X3_advance_0, k_X3_advance_24, k_X3_advance_30, k_X3_advance_35, k_X3_advance_41, k_X3_advance_46, k_X3_advance_59, k_X3_advance_75, k_X3_advance_83, k_X3_advance_89, k_X3_advance_94, k_X3_advance_100, k_X3_advance_113, k_X3_advance_119, k_X3_advance_124, k_X3_advance_130, k_X3_advance_135, k_X3_advance_163, k_X3_advance_167, k_X3_advance_168, k_X3_advance_174, k_X3_advance_180, k_X3_advance_185, k_X3_advance_191, k_X3_advance_196, k_X3_advance_209, k_X3_advance_215, k_X3_advance_220, k_X3_advance_226, k_X3_advance_231, k_X3_advance_245, k_X3_advance_265, k_X3_advance_279, k_X3_advance_283, k_X3_advance_284, k_X3_advance_290, k_X3_advance_297, k_X3_advance_302, k_X3_advance_306, k_X3_advance_312, k_X3_advance_317, k_X3_advance_321, k_X3_advance_322, k_X3_advance_335, li_0, li_1, li_2, li_3, li_4, li_5, li_6, li_9, li_10, li_40, lm_1, lm_2, lm_3, lm_4, zs_ap, i32_add, i32_sub, i32_mul, i32_neg, i32_lt, i32_le, i32_eq, i32_nat, ckn, pka_r, pka_v, if_pos, if_neg, if_true, if_false, h4, Int.toNat_natCast, li_97, li_122]
theorem ca_num (hl : len ≤ 700) {f : Nat} : ∀ (n q : Nat) (Z : Nat → Nat → Int), len - q = n → f ≤ q → q ≤ len → TC tp Z → Z 4 1 = (q : Int) → Z 4 4 = vF tp f (q - f) → ∃ Z' : Nat → Nat → Int, FC 4 [1, 4] Z Z' ∧ Z' 4 1 = ((rt tp len isDg q : Nat) : Int) ∧ Z' 4 4 = vF tp f (rt tp len isDg q - f) ∧ den none (Mean d) none tQ_X3_advance (201, [some (.ref 4), some (.ref 2), some (.int (i32 (len : Int)))], [], 176, zs Z, J, RP p0 p1 p2 p3 p4 p5 p6 p7) = den none (Mean d) none tQ_X3_advance (265, [some (.ref 4), some (.ref 2), some (.int (i32 (len : Int)))], [], 176, zs Z', J, RP p0 p1 p2 p3 p4 p5 p6 p7) := by
  intro n
  induction n with
  | zero =>
    intro q Z hn hf hq ht h4 h6
    have er := rt_n (tp := tp) (len := len) (p := isDg) (q := q) (by omega)
    refine ⟨Z, FC_rfl, by rw [h4, er], by rw [er]; exact h6, ?_⟩
    rw [k_X3_advance_201]
    simp (disch := omega) only [k_X3_advance_0, k_X3_advance_24, k_X3_advance_30, k_X3_advance_35, k_X3_advance_41, k_X3_advance_46, k_X3_advance_59, k_X3_advance_75, k_X3_advance_83, k_X3_advance_89, k_X3_advance_94, k_X3_advance_100, k_X3_advance_113, k_X3_advance_119, k_X3_advance_124, k_X3_advance_130, k_X3_advance_135, k_X3_advance_148, k_X3_advance_163, k_X3_advance_167, k_X3_advance_168, k_X3_advance_174, k_X3_advance_180, k_X3_advance_185, k_X3_advance_191, k_X3_advance_196, k_X3_advance_209, k_X3_advance_215, k_X3_advance_220, k_X3_advance_226, k_X3_advance_231, k_X3_advance_245, k_X3_advance_279, k_X3_advance_283, k_X3_advance_284, k_X3_advance_290, k_X3_advance_297, k_X3_advance_302, k_X3_advance_306, k_X3_advance_312, k_X3_advance_317, k_X3_advance_321, k_X3_advance_322, k_X3_advance_335, li_0, li_1, li_2, li_3, li_4, li_5, li_6, li_9, li_10, li_40, lm_1, lm_2, lm_3, lm_4, zs_ap, i32_add, i32_sub, i32_mul, i32_neg, i32_lt, i32_le, i32_eq, i32_nat, ckn, pka_r, pka_v, if_pos, if_neg, if_true, if_false, h4]
  | succ n ih =>
    intro q Z hn hf hq ht h4 h6
    have hb := ht q (by omega)
    by_cases c : isDg (tp q) = true
    · have c' := of_decide_eq_true c
      have hx : FC 4 [1, 4] Z (u2 (u2 Z 4 4 (Z 4 4 * 10 + (Z 2 q - 48))) 4 1 ((q : Int) + 1)) := FC_u (FC_u FC_rfl (by decide)) (by decide)
      obtain ⟨Z', e1, e2, e3, e4⟩ := ih (q + 1) _ (by omega) (by omega) (by omega) (TC_fr ht (hx.1 2 (by decide))) (by rw [u2s]; omega) (by
          rw [u2f (by decide), u2s, h6, show q + 1 - f = (q - f) + 1 by omega]
          rw [show vF tp f ((q - f) + 1) = 10 * vF tp f (q - f) + ((tp (f + (q - f)) : Int) - 48) from rfl, show f + (q - f) = q by omega]
          omega)
      refine ⟨Z', FC_tr hx e1, by rw [e2, rt_y (by omega) c], by rw [rt_y (by omega) c]; exact e3, ?_⟩
      rw [k_X3_advance_201]
      simp (disch := omega) only [k_X3_advance_0, k_X3_advance_24, k_X3_advance_30, k_X3_advance_35, k_X3_advance_41, k_X3_advance_46, k_X3_advance_59, k_X3_advance_75, k_X3_advance_83, k_X3_advance_89, k_X3_advance_94, k_X3_advance_100, k_X3_advance_113, k_X3_advance_119, k_X3_advance_124, k_X3_advance_130, k_X3_advance_135, k_X3_advance_148, k_X3_advance_163, k_X3_advance_167, k_X3_advance_168, k_X3_advance_174, k_X3_advance_180, k_X3_advance_185, k_X3_advance_191, k_X3_advance_196, k_X3_advance_209, k_X3_advance_215, k_X3_advance_220, k_X3_advance_226, k_X3_advance_231, k_X3_advance_245, k_X3_advance_279, k_X3_advance_283, k_X3_advance_284, k_X3_advance_290, k_X3_advance_297, k_X3_advance_302, k_X3_advance_306, k_X3_advance_312, k_X3_advance_317, k_X3_advance_321, k_X3_advance_322, k_X3_advance_335, li_0, li_1, li_2, li_3, li_4, li_5, li_6, li_9, li_10, li_40, lm_1, lm_2, lm_3, lm_4, zs_ap, i32_add, i32_sub, i32_mul, i32_neg, i32_lt, i32_le, i32_eq, i32_nat, ckn, pka_r, pka_v, if_pos, if_neg, if_true, if_false, h4, Int.toNat_natCast, li_48, li_57, zs_u2, u2f (show 1 ≠ 4 by decide)]
      exact e4
    · have er := rt_n (tp := tp) (len := len) (p := isDg) (q := q) (fun q => c q.2)
      refine ⟨Z, FC_rfl, by rw [h4, er], by rw [er]; exact h6, ?_⟩
      have c' : ¬ (48 ≤ tp q ∧ tp q ≤ 57) := fun h => c (decide_eq_true h)
      rw [k_X3_advance_201]
      by_cases c1 : Z 2 q < 48
      · simp (disch := omega) only [k_X3_advance_0, k_X3_advance_24, k_X3_advance_30, k_X3_advance_35, k_X3_advance_41, k_X3_advance_46, k_X3_advance_59, k_X3_advance_75, k_X3_advance_83, k_X3_advance_89, k_X3_advance_94, k_X3_advance_100, k_X3_advance_113, k_X3_advance_119, k_X3_advance_124, k_X3_advance_130, k_X3_advance_135, k_X3_advance_148, k_X3_advance_163, k_X3_advance_167, k_X3_advance_168, k_X3_advance_174, k_X3_advance_180, k_X3_advance_185, k_X3_advance_191, k_X3_advance_196, k_X3_advance_209, k_X3_advance_215, k_X3_advance_220, k_X3_advance_226, k_X3_advance_231, k_X3_advance_245, k_X3_advance_279, k_X3_advance_283, k_X3_advance_284, k_X3_advance_290, k_X3_advance_297, k_X3_advance_302, k_X3_advance_306, k_X3_advance_312, k_X3_advance_317, k_X3_advance_321, k_X3_advance_322, k_X3_advance_335, li_0, li_1, li_2, li_3, li_4, li_5, li_6, li_9, li_10, li_40, lm_1, lm_2, lm_3, lm_4, zs_ap, i32_add, i32_sub, i32_mul, i32_neg, i32_lt, i32_le, i32_eq, i32_nat, ckn, pka_r, pka_v, if_pos, if_neg, if_true, if_false, h4, Int.toNat_natCast, li_48, li_57]
      · simp (disch := omega) only [k_X3_advance_0, k_X3_advance_24, k_X3_advance_30, k_X3_advance_35, k_X3_advance_41, k_X3_advance_46, k_X3_advance_59, k_X3_advance_75, k_X3_advance_83, k_X3_advance_89, k_X3_advance_94, k_X3_advance_100, k_X3_advance_113, k_X3_advance_119, k_X3_advance_124, k_X3_advance_130, k_X3_advance_135, k_X3_advance_148, k_X3_advance_163, k_X3_advance_167, k_X3_advance_168, k_X3_advance_174, k_X3_advance_180, k_X3_advance_185, k_X3_advance_191, k_X3_advance_196, k_X3_advance_209, k_X3_advance_215, k_X3_advance_220, k_X3_advance_226, k_X3_advance_231, k_X3_advance_245, k_X3_advance_279, k_X3_advance_283, k_X3_advance_284, k_X3_advance_290, k_X3_advance_297, k_X3_advance_302, k_X3_advance_306, k_X3_advance_312, k_X3_advance_317, k_X3_advance_321, k_X3_advance_322, k_X3_advance_335, li_0, li_1, li_2, li_3, li_4, li_5, li_6, li_9, li_10, li_40, lm_1, lm_2, lm_3, lm_4, zs_ap, i32_add, i32_sub, i32_mul, i32_neg, i32_lt, i32_le, i32_eq, i32_nat, ckn, pka_r, pka_v, if_pos, if_neg, if_true, if_false, h4, Int.toNat_natCast, li_48, li_57]
theorem h_advance (hl : len ≤ 700) (ht : TC tp Z) (h1 : Z 1 1 = (len : Int)) {q : Nat} (h4 : Z 4 1 = (q : Int)) (hq : q ≤ len) : ∃ Z' : Nat → Nat → Int, FC 4 [1, 2, 3, 4] Z Z' ∧ LT tp len q Z' ∧ Mean (d + 1) 29 [.ref 4] (176, zs Z, J, RP p0 p1 p2 p3 p4 p5 p6 p7) = some (none, (176, zs Z', J, RP p0 p1 p2 p3 p4 p5 p6 p7)) := by
  obtain ⟨Z1, a1, a2, a3⟩ := ca_skip (d := d) (J := J) (p0 := p0) (p1 := p1) (p2 := p2) (p3 := p3) (p4 := p4) (p5 := p5) (p6 := p6) (p7 := p7) (tp := tp) hl (len - q) q Z rfl hq ht h4
  have hle := rt_le tp len isSp (len - q) q rfl
  have hF : tkF tp len q = rt tp len isSp q := rfl
  rw [← hF] at a2 hle
  generalize hf : tkF tp len q = f at a2 hle hF
  have hfl := hle.2 hq
  have x0 : FC 4 [1, 2, 3, 4] Z Z1 := FC_w a1 (by simp)
  have x1 : FC 4 [1, 2, 3, 4] Z (u2 Z1 4 3 (f : Int)) := FC_u x0 (by decide)
  have t1 := TC_fr ht (x1.1 2 (by decide))
  have z3 : u2 Z1 4 3 (f : Int) 4 3 = (f : Int) := u2s
  have z4 : u2 Z1 4 3 (f : Int) 4 1 = (f : Int) := by rw [u2f (by decide), a2]
  have e0 : Mean (d + 1) 29 [.ref 4] (176, zs Z, J, RP p0 p1 p2 p3 p4 p5 p6 p7) = if f < len then den none (Mean d) none tQ_X3_advance (83, [some (.ref 4), some (.ref 2), some (.int (i32 (len : Int)))], [], 176, zs (u2 Z1 4 3 (f : Int)), J, RP p0 p1 p2 p3 p4 p5 p6 p7) else den none (Mean d) none tQ_X3_advance (75, [some (.ref 4), some (.ref 2), some (.int (i32 (len : Int)))], [], 176, zs (u2 Z1 4 3 (f : Int)), J, RP p0 p1 p2 p3 p4 p5 p6 p7) := by
    rw [e_X3_advance, k_X3_advance_0]
    simp only [zs_ap, h1]
    refine Eq.trans a3 ?_
    rw [k_X3_advance_59]
    simp (disch := omega) only [zs_ap, a2, zs_u2, z4, i32_lt, Int.ofNat_lt]
  generalize hZ2 : u2 Z1 4 3 (f : Int) = Z2 at *
  by_cases c0 : f = len
  · have hB : tkB tp len q = f := by
      unfold tkB
      rw [hf, if_pos (by omega)]
    have hK : tkK tp len q = 0 := by
      unfold tkK
      rw [hf, if_pos (by omega)]
    refine ⟨u2 Z2 4 2 0, FC_u x1 (by decide), ⟨?_, ?_, ?_, ?_⟩, ?_⟩
    · rw [u2f (by decide), z4, hB]
    · rw [u2s, hK]
      rfl
    · rw [u2f (by decide), z3, hf]
    · intro q
      rw [hK] at q
      omega
    · rw [e0, if_neg (by omega)]
      simp (disch := omega) only [k_X3_advance_0, k_X3_advance_24, k_X3_advance_30, k_X3_advance_35, k_X3_advance_41, k_X3_advance_46, k_X3_advance_59, k_X3_advance_75, k_X3_advance_83, k_X3_advance_89, k_X3_advance_94, k_X3_advance_100, k_X3_advance_113, k_X3_advance_119, k_X3_advance_124, k_X3_advance_130, k_X3_advance_135, k_X3_advance_148, k_X3_advance_163, k_X3_advance_167, k_X3_advance_168, k_X3_advance_174, k_X3_advance_180, k_X3_advance_185, k_X3_advance_191, k_X3_advance_196, k_X3_advance_209, k_X3_advance_215, k_X3_advance_220, k_X3_advance_226, k_X3_advance_231, k_X3_advance_245, k_X3_advance_265, k_X3_advance_279, k_X3_advance_283, k_X3_advance_284, k_X3_advance_290, k_X3_advance_297, k_X3_advance_302, k_X3_advance_306, k_X3_advance_312, k_X3_advance_317, k_X3_advance_321, k_X3_advance_322, k_X3_advance_335, li_0, li_1, li_2, li_3, li_4, li_5, li_6, li_9, li_10, li_40, lm_1, lm_2, lm_3, lm_4, zs_ap, i32_add, i32_sub, i32_mul, i32_neg, i32_lt, i32_le, i32_eq, i32_nat, ckn, pka_r, pka_v, if_pos, if_neg, if_true, if_false, zs_u2]
  · rw [if_pos (by omega)] at e0
    have hbb := t1 f (by omega)
    cases cs : isSm (tp f)
    · have cs' : ¬ (97 ≤ tp f ∧ tp f ≤ 122) := fun h => by rw [show isSm (tp f) = true from decide_eq_true h] at cs; cases cs
      have e1 : Mean (d + 1) 29 [.ref 4] (176, zs Z, J, RP p0 p1 p2 p3 p4 p5 p6 p7) = den none (Mean d) none tQ_X3_advance (174, [some (.ref 4), some (.ref 2), some (.int (i32 (len : Int)))], [], 176, zs Z2, J, RP p0 p1 p2 p3 p4 p5 p6 p7) := by
        rw [e0, k_X3_advance_83]
        by_cases c1 : Z2 2 f < 97
        · simp (disch := omega) only [k_X3_advance_0, k_X3_advance_24, k_X3_advance_30, k_X3_advance_35, k_X3_advance_41, k_X3_advance_46, k_X3_advance_59, k_X3_advance_75, k_X3_advance_83, k_X3_advance_89, k_X3_advance_94, k_X3_advance_100, k_X3_advance_113, k_X3_advance_119, k_X3_advance_124, k_X3_advance_130, k_X3_advance_135, k_X3_advance_148, k_X3_advance_163, k_X3_advance_167, k_X3_advance_168, k_X3_advance_180, k_X3_advance_185, k_X3_advance_191, k_X3_advance_196, k_X3_advance_209, k_X3_advance_215, k_X3_advance_220, k_X3_advance_226, k_X3_advance_231, k_X3_advance_245, k_X3_advance_265, k_X3_advance_279, k_X3_advance_283, k_X3_advance_284, k_X3_advance_290, k_X3_advance_297, k_X3_advance_302, k_X3_advance_306, k_X3_advance_312, k_X3_advance_317, k_X3_advance_321, k_X3_advance_322, k_X3_advance_335, li_0, li_1, li_2, li_3, li_4, li_5, li_6, li_9, li_10, li_40, lm_1, lm_2, lm_3, lm_4, zs_ap, i32_add, i32_sub, i32_mul, i32_neg, i32_lt, i32_le, i32_eq, i32_nat, ckn, pka_r, pka_v, if_pos, if_neg, if_true, if_false, z4, Int.toNat_natCast, li_97, li_122]
        · simp (disch := omega) only [k_X3_advance_0, k_X3_advance_24, k_X3_advance_30, k_X3_advance_35, k_X3_advance_41, k_X3_advance_46, k_X3_advance_59, k_X3_advance_75, k_X3_advance_83, k_X3_advance_89, k_X3_advance_94, k_X3_advance_100, k_X3_advance_113, k_X3_advance_119, k_X3_advance_124, k_X3_advance_130, k_X3_advance_135, k_X3_advance_148, k_X3_advance_163, k_X3_advance_167, k_X3_advance_168, k_X3_advance_180, k_X3_advance_185, k_X3_advance_191, k_X3_advance_196, k_X3_advance_209, k_X3_advance_215, k_X3_advance_220, k_X3_advance_226, k_X3_advance_231, k_X3_advance_245, k_X3_advance_265, k_X3_advance_279, k_X3_advance_283, k_X3_advance_284, k_X3_advance_290, k_X3_advance_297, k_X3_advance_302, k_X3_advance_306, k_X3_advance_312, k_X3_advance_317, k_X3_advance_321, k_X3_advance_322, k_X3_advance_335, li_0, li_1, li_2, li_3, li_4, li_5, li_6, li_9, li_10, li_40, lm_1, lm_2, lm_3, lm_4, zs_ap, i32_add, i32_sub, i32_mul, i32_neg, i32_lt, i32_le, i32_eq, i32_nat, ckn, pka_r, pka_v, if_pos, if_neg, if_true, if_false, z4, Int.toNat_natCast, li_97, li_122]
      cases cd : isDg (tp f)
      · have cd' : ¬ (48 ≤ tp f ∧ tp f ≤ 57) := fun h => by rw [show isDg (tp f) = true from decide_eq_true h] at cd; cases cd
        have e2 : Mean (d + 1) 29 [.ref 4] (176, zs Z, J, RP p0 p1 p2 p3 p4 p5 p6 p7) = den none (Mean d) none tQ_X3_advance (290, [some (.ref 4), some (.ref 2), some (.int (i32 (len : Int)))], [], 176, zs Z2, J, RP p0 p1 p2 p3 p4 p5 p6 p7) := by
          rw [e1, k_X3_advance_174]
          by_cases c1 : Z2 2 f < 48
          · simp (disch := omega) only [k_X3_advance_0, k_X3_advance_24, k_X3_advance_30, k_X3_advance_35, k_X3_advance_41, k_X3_advance_46, k_X3_advance_59, k_X3_advance_75, k_X3_advance_83, k_X3_advance_89, k_X3_advance_94, k_X3_advance_100, k_X3_advance_113, k_X3_advance_119, k_X3_advance_124, k_X3_advance_130, k_X3_advance_135, k_X3_advance_148, k_X3_advance_163, k_X3_advance_167, k_X3_advance_168, k_X3_advance_174, k_X3_advance_180, k_X3_advance_185, k_X3_advance_191, k_X3_advance_196, k_X3_advance_209, k_X3_advance_215, k_X3_advance_220, k_X3_advance_226, k_X3_advance_231, k_X3_advance_245, k_X3_advance_265, k_X3_advance_279, k_X3_advance_283, k_X3_advance_284, k_X3_advance_297, k_X3_advance_302, k_X3_advance_306, k_X3_advance_312, k_X3_advance_317, k_X3_advance_321, k_X3_advance_322, k_X3_advance_335, li_0, li_1, li_2, li_3, li_4, li_5, li_6, li_9, li_10, li_40, lm_1, lm_2, lm_3, lm_4, zs_ap, i32_add, i32_sub, i32_mul, i32_neg, i32_lt, i32_le, i32_eq, i32_nat, ckn, pka_r, pka_v, if_pos, if_neg, if_true, if_false, z4, Int.toNat_natCast, li_48, li_57]
          · simp (disch := omega) only [k_X3_advance_0, k_X3_advance_24, k_X3_advance_30, k_X3_advance_35, k_X3_advance_41, k_X3_advance_46, k_X3_advance_59, k_X3_advance_75, k_X3_advance_83, k_X3_advance_89, k_X3_advance_94, k_X3_advance_100, k_X3_advance_113, k_X3_advance_119, k_X3_advance_124, k_X3_advance_130, k_X3_advance_135, k_X3_advance_148, k_X3_advance_163, k_X3_advance_167, k_X3_advance_168, k_X3_advance_174, k_X3_advance_180, k_X3_advance_185, k_X3_advance_191, k_X3_advance_196, k_X3_advance_209, k_X3_advance_215, k_X3_advance_220, k_X3_advance_226, k_X3_advance_231, k_X3_advance_245, k_X3_advance_265, k_X3_advance_279, k_X3_advance_283, k_X3_advance_284, k_X3_advance_297, k_X3_advance_302, k_X3_advance_306, k_X3_advance_312, k_X3_advance_317, k_X3_advance_321, k_X3_advance_322, k_X3_advance_335, li_0, li_1, li_2, li_3, li_4, li_5, li_6, li_9, li_10, li_40, lm_1, lm_2, lm_3, lm_4, zs_ap, i32_add, i32_sub, i32_mul, i32_neg, i32_lt, i32_le, i32_eq, i32_nat, ckn, pka_r, pka_v, if_pos, if_neg, if_true, if_false, z4, Int.toNat_natCast, li_48, li_57]
        have hB : tkB tp len q = f + 1 := by
          unfold tkB
          rw [hf, if_neg (by omega), cs, cd, if_neg Bool.false_ne_true, if_neg Bool.false_ne_true]
        have hK : tkK tp len q = if tp f = 59 then 3 else if tp f = 45 then 4 else 5 := by
          unfold tkK
          rw [hf, if_neg (by omega), cs, cd, if_neg Bool.false_ne_true, if_neg Bool.false_ne_true]
        refine ⟨u2 (u2 Z2 4 2 (tkK tp len q : Int)) 4 1 ((f : Int) + 1), FC_u (FC_u x1 (by decide)) (by decide), ⟨?_, ?_, ?_, ?_⟩, ?_⟩
        · rw [u2s, hB]
          omega
        · rw [u2f (by decide), u2s]
        · rw [u2f (by decide), u2f (by decide), z3, hf]
        · intro q
          rw [hK] at q
          split at q
          · omega
          · split at q <;> omega
        · rw [e2, hK]
          by_cases c59 : tp f = 59
          · rw [if_pos c59]
            simp (disch := omega) only [k_X3_advance_0, k_X3_advance_24, k_X3_advance_30, k_X3_advance_35, k_X3_advance_41, k_X3_advance_46, k_X3_advance_59, k_X3_advance_75, k_X3_advance_83, k_X3_advance_89, k_X3_advance_94, k_X3_advance_100, k_X3_advance_113, k_X3_advance_119, k_X3_advance_124, k_X3_advance_130, k_X3_advance_135, k_X3_advance_148, k_X3_advance_163, k_X3_advance_167, k_X3_advance_168, k_X3_advance_174, k_X3_advance_180, k_X3_advance_185, k_X3_advance_191, k_X3_advance_196, k_X3_advance_209, k_X3_advance_215, k_X3_advance_220, k_X3_advance_226, k_X3_advance_231, k_X3_advance_245, k_X3_advance_265, k_X3_advance_279, k_X3_advance_283, k_X3_advance_284, k_X3_advance_290, k_X3_advance_297, k_X3_advance_302, k_X3_advance_306, k_X3_advance_312, k_X3_advance_317, k_X3_advance_321, k_X3_advance_322, k_X3_advance_335, li_0, li_1, li_2, li_3, li_4, li_5, li_6, li_9, li_10, li_40, lm_1, lm_2, lm_3, lm_4, zs_ap, i32_add, i32_sub, i32_mul, i32_neg, i32_lt, i32_le, i32_eq, i32_nat, ckn, pka_r, pka_v, if_pos, if_neg, if_true, if_false, z4, Int.toNat_natCast, li_59, li_45, zs_u2, u2f (show 1 ≠ 2 by decide)]
            rfl
          · rw [if_neg c59]
            by_cases c45 : tp f = 45
            · rw [if_pos c45]
              simp (disch := omega) only [k_X3_advance_0, k_X3_advance_24, k_X3_advance_30, k_X3_advance_35, k_X3_advance_41, k_X3_advance_46, k_X3_advance_59, k_X3_advance_75, k_X3_advance_83, k_X3_advance_89, k_X3_advance_94, k_X3_advance_100, k_X3_advance_113, k_X3_advance_119, k_X3_advance_124, k_X3_advance_130, k_X3_advance_135, k_X3_advance_148, k_X3_advance_163, k_X3_advance_167, k_X3_advance_168, k_X3_advance_174, k_X3_advance_180, k_X3_advance_185, k_X3_advance_191, k_X3_advance_196, k_X3_advance_209, k_X3_advance_215, k_X3_advance_220, k_X3_advance_226, k_X3_advance_231, k_X3_advance_245, k_X3_advance_265, k_X3_advance_279, k_X3_advance_283, k_X3_advance_284, k_X3_advance_290, k_X3_advance_297, k_X3_advance_302, k_X3_advance_306, k_X3_advance_312, k_X3_advance_317, k_X3_advance_321, k_X3_advance_322, k_X3_advance_335, li_0, li_1, li_2, li_3, li_4, li_5, li_6, li_9, li_10, li_40, lm_1, lm_2, lm_3, lm_4, zs_ap, i32_add, i32_sub, i32_mul, i32_neg, i32_lt, i32_le, i32_eq, i32_nat, ckn, pka_r, pka_v, if_pos, if_neg, if_true, if_false, z4, Int.toNat_natCast, li_59, li_45, zs_u2, u2f (show 1 ≠ 2 by decide)]
              rfl
            · rw [if_neg c45]
              simp (disch := omega) only [k_X3_advance_0, k_X3_advance_24, k_X3_advance_30, k_X3_advance_35, k_X3_advance_41, k_X3_advance_46, k_X3_advance_59, k_X3_advance_75, k_X3_advance_83, k_X3_advance_89, k_X3_advance_94, k_X3_advance_100, k_X3_advance_113, k_X3_advance_119, k_X3_advance_124, k_X3_advance_130, k_X3_advance_135, k_X3_advance_148, k_X3_advance_163, k_X3_advance_167, k_X3_advance_168, k_X3_advance_174, k_X3_advance_180, k_X3_advance_185, k_X3_advance_191, k_X3_advance_196, k_X3_advance_209, k_X3_advance_215, k_X3_advance_220, k_X3_advance_226, k_X3_advance_231, k_X3_advance_245, k_X3_advance_265, k_X3_advance_279, k_X3_advance_283, k_X3_advance_284, k_X3_advance_290, k_X3_advance_297, k_X3_advance_302, k_X3_advance_306, k_X3_advance_312, k_X3_advance_317, k_X3_advance_321, k_X3_advance_322, k_X3_advance_335, li_0, li_1, li_2, li_3, li_4, li_5, li_6, li_9, li_10, li_40, lm_1, lm_2, lm_3, lm_4, zs_ap, i32_add, i32_sub, i32_mul, i32_neg, i32_lt, i32_le, i32_eq, i32_nat, ckn, pka_r, pka_v, if_pos, if_neg, if_true, if_false, z4, Int.toNat_natCast, li_59, li_45, zs_u2, u2f (show 1 ≠ 2 by decide)]
              rfl
      · have cd' := of_decide_eq_true cd
        have hB : tkB tp len q = rt tp len isDg f := by
          unfold tkB
          rw [hf, if_neg (by omega), cs, cd, if_neg Bool.false_ne_true, if_pos rfl]
        have hrl := rt_le tp len isDg (len - f) f rfl
        have hrl2 := hrl.2 hfl
        have x6 : FC 4 [1, 2, 3, 4] Z (u2 Z2 4 4 0) := FC_u x1 (by decide)
        obtain ⟨Z3, b1, b2, b3, b4⟩ := ca_num (d := d) (J := J) (p0 := p0) (p1 := p1) (p2 := p2) (p3 := p3) (p4 := p4) (p5 := p5) (p6 := p6) (p7 := p7) (tp := tp) hl (f := f) (len - f) f (u2 Z2 4 4 0) rfl (Nat.le_refl _) hfl (TC_fr ht (x6.1 2 (by decide))) (by rw [u2f (by decide), z4]) (by rw [u2s, Nat.sub_self]; rfl)
        have x7 : FC 4 [1, 2, 3, 4] (u2 Z2 4 4 0) Z3 := FC_w b1 (by simp)
        have w3 : Z3 4 3 = (f : Int) := by rw [b1.2 3 (by decide), u2f (by decide), z3]
        have hV : tkV tp len q = vF tp f (rt tp len isDg f - f) := by
          unfold tkV
          rw [hB, hf]
        generalize hr : rt tp len isDg f = r at *
        have hK : tkK tp len q = if r - f ≤ 4 then 2 else 5 := by
          unfold tkK
          rw [hB, hf, if_neg (by omega), cs, cd, if_neg Bool.false_ne_true, if_pos rfl]
        refine ⟨u2 Z3 4 2 (tkK tp len q : Int), FC_u (FC_tr x6 x7) (by decide), ⟨?_, ?_, ?_, ?_⟩, ?_⟩
        · rw [u2f (by decide), b2, hB]
        · rw [u2s]
        · rw [u2f (by decide), w3, hf]
        · intro _
          rw [u2f (by decide), b3, hV]
        · rw [e1, hK]
          by_cases c4 : r - f ≤ 4
          · rw [if_pos c4]
            simp (disch := omega) only [k_X3_advance_0, k_X3_advance_24, k_X3_advance_30, k_X3_advance_35, k_X3_advance_41, k_X3_advance_46, k_X3_advance_59, k_X3_advance_75, k_X3_advance_83, k_X3_advance_89, k_X3_advance_94, k_X3_advance_100, k_X3_advance_113, k_X3_advance_119, k_X3_advance_124, k_X3_advance_130, k_X3_advance_135, k_X3_advance_148, k_X3_advance_163, k_X3_advance_167, k_X3_advance_168, k_X3_advance_174, k_X3_advance_180, k_X3_advance_185, k_X3_advance_191, k_X3_advance_196, k_X3_advance_209, k_X3_advance_215, k_X3_advance_220, k_X3_advance_226, k_X3_advance_231, k_X3_advance_245, k_X3_advance_279, k_X3_advance_283, k_X3_advance_284, k_X3_advance_290, k_X3_advance_297, k_X3_advance_302, k_X3_advance_306, k_X3_advance_312, k_X3_advance_317, k_X3_advance_321, k_X3_advance_322, k_X3_advance_335, li_0, li_1, li_2, li_3, li_4, li_5, li_6, li_9, li_10, li_40, lm_1, lm_2, lm_3, lm_4, zs_ap, i32_add, i32_sub, i32_mul, i32_neg, i32_lt, i32_le, i32_eq, i32_nat, ckn, pka_r, pka_v, if_pos, if_neg, if_true, if_false, z4, Int.toNat_natCast, li_48, li_57, zs_u2]
            refine Eq.trans b4 ?_
            simp (disch := omega) only [k_X3_advance_0, k_X3_advance_24, k_X3_advance_30, k_X3_advance_35, k_X3_advance_41, k_X3_advance_46, k_X3_advance_59, k_X3_advance_75, k_X3_advance_83, k_X3_advance_89, k_X3_advance_94, k_X3_advance_100, k_X3_advance_113, k_X3_advance_119, k_X3_advance_124, k_X3_advance_130, k_X3_advance_135, k_X3_advance_148, k_X3_advance_163, k_X3_advance_167, k_X3_advance_168, k_X3_advance_174, k_X3_advance_180, k_X3_advance_185, k_X3_advance_191, k_X3_advance_196, k_X3_advance_209, k_X3_advance_215, k_X3_advance_220, k_X3_advance_226, k_X3_advance_231, k_X3_advance_245, k_X3_advance_265, k_X3_advance_279, k_X3_advance_283, k_X3_advance_284, k_X3_advance_290, k_X3_advance_297, k_X3_advance_302, k_X3_advance_306, k_X3_advance_312, k_X3_advance_317, k_X3_advance_321, k_X3_advance_322, k_X3_advance_335, li_0, li_1, li_2, li_3, li_4, li_5, li_6, li_9, li_10, li_40, lm_1, lm_2, lm_3, lm_4, zs_ap, i32_add, i32_sub, i32_mul, i32_neg, i32_lt, i32_le, i32_eq, i32_nat, ckn, pka_r, pka_v, if_pos, if_neg, if_true, if_false, b2, w3, zs_u2]
            rfl
          · rw [if_neg c4]
            simp (disch := omega) only [k_X3_advance_0, k_X3_advance_24, k_X3_advance_30, k_X3_advance_35, k_X3_advance_41, k_X3_advance_46, k_X3_advance_59, k_X3_advance_75, k_X3_advance_83, k_X3_advance_89, k_X3_advance_94, k_X3_advance_100, k_X3_advance_113, k_X3_advance_119, k_X3_advance_124, k_X3_advance_130, k_X3_advance_135, k_X3_advance_148, k_X3_advance_163, k_X3_advance_167, k_X3_advance_168, k_X3_advance_174, k_X3_advance_180, k_X3_advance_185, k_X3_advance_191, k_X3_advance_196, k_X3_advance_209, k_X3_advance_215, k_X3_advance_220, k_X3_advance_226, k_X3_advance_231, k_X3_advance_245, k_X3_advance_279, k_X3_advance_283, k_X3_advance_284, k_X3_advance_290, k_X3_advance_297, k_X3_advance_302, k_X3_advance_306, k_X3_advance_312, k_X3_advance_317, k_X3_advance_321, k_X3_advance_322, k_X3_advance_335, li_0, li_1, li_2, li_3, li_4, li_5, li_6, li_9, li_10, li_40, lm_1, lm_2, lm_3, lm_4, zs_ap, i32_add, i32_sub, i32_mul, i32_neg, i32_lt, i32_le, i32_eq, i32_nat, ckn, pka_r, pka_v, if_pos, if_neg, if_true, if_false, z4, Int.toNat_natCast, li_48, li_57, zs_u2]
            refine Eq.trans b4 ?_
            simp (disch := omega) only [k_X3_advance_0, k_X3_advance_24, k_X3_advance_30, k_X3_advance_35, k_X3_advance_41, k_X3_advance_46, k_X3_advance_59, k_X3_advance_75, k_X3_advance_83, k_X3_advance_89, k_X3_advance_94, k_X3_advance_100, k_X3_advance_113, k_X3_advance_119, k_X3_advance_124, k_X3_advance_130, k_X3_advance_135, k_X3_advance_148, k_X3_advance_163, k_X3_advance_167, k_X3_advance_168, k_X3_advance_174, k_X3_advance_180, k_X3_advance_185, k_X3_advance_191, k_X3_advance_196, k_X3_advance_209, k_X3_advance_215, k_X3_advance_220, k_X3_advance_226, k_X3_advance_231, k_X3_advance_245, k_X3_advance_265, k_X3_advance_279, k_X3_advance_283, k_X3_advance_284, k_X3_advance_290, k_X3_advance_297, k_X3_advance_302, k_X3_advance_306, k_X3_advance_312, k_X3_advance_317, k_X3_advance_321, k_X3_advance_322, k_X3_advance_335, li_0, li_1, li_2, li_3, li_4, li_5, li_6, li_9, li_10, li_40, lm_1, lm_2, lm_3, lm_4, zs_ap, i32_add, i32_sub, i32_mul, i32_neg, i32_lt, i32_le, i32_eq, i32_nat, ckn, pka_r, pka_v, if_pos, if_neg, if_true, if_false, b2, w3, zs_u2]
            rfl
    · have cs' := of_decide_eq_true cs
      have hB : tkB tp len q = rt tp len isSm f := by
        unfold tkB
        rw [hf, if_neg (by omega), cs, if_pos rfl]
      have hrl := rt_le tp len isSm (len - f) f rfl
      have hrl2 := hrl.2 hfl
      obtain ⟨Z3, b1, b2, b4⟩ := ca_word (d := d) (J := J) (p0 := p0) (p1 := p1) (p2 := p2) (p3 := p3) (p4 := p4) (p5 := p5) (p6 := p6) (p7 := p7) (tp := tp) hl (len - f) f Z2 rfl hfl t1 z4
      have x7 : FC 4 [1, 2, 3, 4] Z2 Z3 := FC_w b1 (by simp)
      have w3 : Z3 4 3 = (f : Int) := by rw [b1.2 3 (by decide), z3]
      generalize hr : rt tp len isSm f = r at *
      have hK : tkK tp len q = if r - f ≤ 8 then 1 else 5 := by
        unfold tkK
        rw [hB, hf, if_neg (by omega), cs, if_pos rfl]
      refine ⟨u2 Z3 4 2 (tkK tp len q : Int), FC_u (FC_tr x1 x7) (by decide), ⟨?_, ?_, ?_, ?_⟩, ?_⟩
      · rw [u2f (by decide), b2, hB]
      · rw [u2s]
      · rw [u2f (by decide), w3, hf]
      · intro q
        rw [hK] at q
        split at q <;> omega
      · rw [e0, hK]
        by_cases c4 : r - f ≤ 8
        · rw [if_pos c4]
          simp (disch := omega) only [k_X3_advance_0, k_X3_advance_24, k_X3_advance_30, k_X3_advance_35, k_X3_advance_41, k_X3_advance_46, k_X3_advance_59, k_X3_advance_75, k_X3_advance_83, k_X3_advance_89, k_X3_advance_94, k_X3_advance_100, k_X3_advance_113, k_X3_advance_119, k_X3_advance_124, k_X3_advance_130, k_X3_advance_135, k_X3_advance_163, k_X3_advance_167, k_X3_advance_168, k_X3_advance_174, k_X3_advance_180, k_X3_advance_185, k_X3_advance_191, k_X3_advance_196, k_X3_advance_209, k_X3_advance_215, k_X3_advance_220, k_X3_advance_226, k_X3_advance_231, k_X3_advance_245, k_X3_advance_265, k_X3_advance_279, k_X3_advance_283, k_X3_advance_284, k_X3_advance_290, k_X3_advance_297, k_X3_advance_302, k_X3_advance_306, k_X3_advance_312, k_X3_advance_317, k_X3_advance_321, k_X3_advance_322, k_X3_advance_335, li_0, li_1, li_2, li_3, li_4, li_5, li_6, li_9, li_10, li_40, lm_1, lm_2, lm_3, lm_4, zs_ap, i32_add, i32_sub, i32_mul, i32_neg, i32_lt, i32_le, i32_eq, i32_nat, ckn, pka_r, pka_v, if_pos, if_neg, if_true, if_false, z4, Int.toNat_natCast, li_97, li_122, li_8]
          refine Eq.trans b4 ?_
          simp (disch := omega) only [k_X3_advance_0, k_X3_advance_24, k_X3_advance_30, k_X3_advance_35, k_X3_advance_41, k_X3_advance_46, k_X3_advance_59, k_X3_advance_75, k_X3_advance_83, k_X3_advance_89, k_X3_advance_94, k_X3_advance_100, k_X3_advance_113, k_X3_advance_119, k_X3_advance_124, k_X3_advance_130, k_X3_advance_135, k_X3_advance_148, k_X3_advance_163, k_X3_advance_167, k_X3_advance_168, k_X3_advance_174, k_X3_advance_180, k_X3_advance_185, k_X3_advance_191, k_X3_advance_196, k_X3_advance_209, k_X3_advance_215, k_X3_advance_220, k_X3_advance_226, k_X3_advance_231, k_X3_advance_245, k_X3_advance_265, k_X3_advance_279, k_X3_advance_283, k_X3_advance_284, k_X3_advance_290, k_X3_advance_297, k_X3_advance_302, k_X3_advance_306, k_X3_advance_312, k_X3_advance_317, k_X3_advance_321, k_X3_advance_322, k_X3_advance_335, li_0, li_1, li_2, li_3, li_4, li_5, li_6, li_9, li_10, li_40, lm_1, lm_2, lm_3, lm_4, zs_ap, i32_add, i32_sub, i32_mul, i32_neg, i32_lt, i32_le, i32_eq, i32_nat, ckn, pka_r, pka_v, if_pos, if_neg, if_true, if_false, b2, w3, zs_u2, li_8]
          rfl
        · rw [if_neg c4]
          simp (disch := omega) only [k_X3_advance_0, k_X3_advance_24, k_X3_advance_30, k_X3_advance_35, k_X3_advance_41, k_X3_advance_46, k_X3_advance_59, k_X3_advance_75, k_X3_advance_83, k_X3_advance_89, k_X3_advance_94, k_X3_advance_100, k_X3_advance_113, k_X3_advance_119, k_X3_advance_124, k_X3_advance_130, k_X3_advance_135, k_X3_advance_163, k_X3_advance_167, k_X3_advance_168, k_X3_advance_174, k_X3_advance_180, k_X3_advance_185, k_X3_advance_191, k_X3_advance_196, k_X3_advance_209, k_X3_advance_215, k_X3_advance_220, k_X3_advance_226, k_X3_advance_231, k_X3_advance_245, k_X3_advance_265, k_X3_advance_279, k_X3_advance_283, k_X3_advance_284, k_X3_advance_290, k_X3_advance_297, k_X3_advance_302, k_X3_advance_306, k_X3_advance_312, k_X3_advance_317, k_X3_advance_321, k_X3_advance_322, k_X3_advance_335, li_0, li_1, li_2, li_3, li_4, li_5, li_6, li_9, li_10, li_40, lm_1, lm_2, lm_3, lm_4, zs_ap, i32_add, i32_sub, i32_mul, i32_neg, i32_lt, i32_le, i32_eq, i32_nat, ckn, pka_r, pka_v, if_pos, if_neg, if_true, if_false, z4, Int.toNat_natCast, li_97, li_122, li_8]
          refine Eq.trans b4 ?_
          simp (disch := omega) only [k_X3_advance_0, k_X3_advance_24, k_X3_advance_30, k_X3_advance_35, k_X3_advance_41, k_X3_advance_46, k_X3_advance_59, k_X3_advance_75, k_X3_advance_83, k_X3_advance_89, k_X3_advance_94, k_X3_advance_100, k_X3_advance_113, k_X3_advance_119, k_X3_advance_124, k_X3_advance_130, k_X3_advance_135, k_X3_advance_148, k_X3_advance_163, k_X3_advance_167, k_X3_advance_168, k_X3_advance_174, k_X3_advance_180, k_X3_advance_185, k_X3_advance_191, k_X3_advance_196, k_X3_advance_209, k_X3_advance_215, k_X3_advance_220, k_X3_advance_226, k_X3_advance_231, k_X3_advance_245, k_X3_advance_265, k_X3_advance_279, k_X3_advance_283, k_X3_advance_284, k_X3_advance_290, k_X3_advance_297, k_X3_advance_302, k_X3_advance_306, k_X3_advance_312, k_X3_advance_317, k_X3_advance_321, k_X3_advance_322, k_X3_advance_335, li_0, li_1, li_2, li_3, li_4, li_5, li_6, li_9, li_10, li_40, lm_1, lm_2, lm_3, lm_4, zs_ap, i32_add, i32_sub, i32_mul, i32_neg, i32_lt, i32_le, i32_eq, i32_nat, ckn, pka_r, pka_v, if_pos, if_neg, if_true, if_false, b2, w3, zs_u2, li_8]
          rfl
theorem h_spells {q : Nat} (hl : len ≤ 700) (hq : q ≤ len) (ht : TC tp Z) (h1 : Z 1 1 = (len : Int)) (hk : LT tp len q Z) {t : Nat} (h17 : t < 17) (h00 : 0 < t) : Mean (d + 7) 30 [.ref 4, .retAddr t] (176, zs Z, J, RP p0 p1 p2 p3 p4 p5 p6 p7) = some (some (.int (i32 (bB (tkIs tp len q t)))), (176, zs Z, J, RP p0 p1 p2 p3 p4 p5 p6 p7)) := by
  obtain ⟨k1, k2, k3, k4⟩ := hk
  obtain ⟨⟨a1, a2⟩, ⟨a3, a4⟩, a5⟩ := tk_le (tp := tp) hq
  obtain ⟨w1, w2, w3⟩ := wok h17 h00
  have hK5 := tk_K5 (tp := tp) (len := len) (q := q)
  unfold tkIs
  by_cases c1 : tkK tp len q = 1
  · by_cases c2 : tkB tp len q - tkF tp len q = wlen t
    · rw [decide_eq_true c1, decide_eq_true c2, Bool.true_and, Bool.true_and]
      have key := srch (fun i => den none (Mean (d + 6)) (some .boolean) tQ_X3_spells (28, [some (.ref 4), some (.retAddr t), some (.int (i32 (i : Int)))], [], 176, zs Z, J, RP p0 p1 p2 p3 p4 p5 p6 p7)) (fun i => !decide (tp (tkF tp len q + i) = wch t i)) (wlen t) (fun _ => some (some (.int (i32 0)), (176, zs Z, J, RP p0 p1 p2 p3 p4 p5 p6 p7))) (fun i hi hp => ?_) (fun i hi hp => ?_)
      · rw [e_X3_spells]
        have e1 : den none (Mean (d + 6)) (some .boolean) tQ_X3_spells (0, [some (.ref 4), some (.retAddr t), none], [], 176, zs Z, J, RP p0 p1 p2 p3 p4 p5 p6 p7) = den none (Mean (d + 6)) (some .boolean) tQ_X3_spells (28, [some (.ref 4), some (.retAddr t), some (.int (i32 ((0 : Nat) : Int)))], [], 176, zs Z, J, RP p0 p1 p2 p3 p4 p5 p6 p7) := by
          rw [k_X3_spells_0]
          simp (disch := omega) only [k_X3_spells_0, k_X3_spells_8, k_X3_spells_21, k_X3_spells_24, k_X3_spells_26, k_X3_spells_33, k_X3_spells_36, k_X3_spells_49, k_X3_spells_54, k_X3_spells_57, k_X3_spells_59, k_X3_spells_65, li_0, li_1, li_2, li_3, li_4, li_5, li_6, li_9, li_10, li_40, lm_1, lm_2, lm_3, lm_4, zs_ap, i32_add, i32_sub, i32_mul, i32_neg, i32_lt, i32_le, i32_eq, i32_nat, ckn, pka_r, pka_v, if_pos, if_neg, if_true, if_false, w1, k1, k2, k3, c1, sLen h17 h00]
          rfl
        refine e1.trans (Eq.trans key ?_)
        cases ca : anyN (fun i => !decide (tp (tkF tp len q + i) = wch t i)) (wlen t)
        · rw [if_neg Bool.false_ne_true, k_X3_spells_28 (hs := w1)]
          simp (disch := omega) only [k_X3_spells_0, k_X3_spells_8, k_X3_spells_21, k_X3_spells_24, k_X3_spells_26, k_X3_spells_33, k_X3_spells_36, k_X3_spells_49, k_X3_spells_54, k_X3_spells_57, k_X3_spells_59, k_X3_spells_65, li_0, li_1, li_2, li_3, li_4, li_5, li_6, li_9, li_10, li_40, lm_1, lm_2, lm_3, lm_4, zs_ap, i32_add, i32_sub, i32_mul, i32_neg, i32_lt, i32_le, i32_eq, i32_nat, ckn, pka_r, pka_v, if_pos, if_neg, if_true, if_false, w1, sLen h17 h00, Bool.not_false, bBt, or_true]
        · rw [if_pos rfl]
          rfl
      · have hne : ¬ tp (tkF tp len q + i) = wch t i := by simpa using hp
        have hb := ht (tkF tp len q + i) (by omega)
        have hc := (w3 i hi).2
        have hat := h_at (d := d + 5) (J := J) (p0 := p0) (p1 := p1) (p2 := p2) (p3 := p3) (p4 := p4) (p5 := p5) (p6 := p6) (p7 := p7) ht hl h1 (k := tkF tp len q + i) (by omega)
        rw [show ((tkF tp len q + i : Nat) : Int) = (tkF tp len q : Int) + (i : Int) by omega] at hat
        rw [k_X3_spells_28 (hs := w1)]
        simp (disch := omega) only [k_X3_spells_0, k_X3_spells_8, k_X3_spells_21, k_X3_spells_24, k_X3_spells_26, k_X3_spells_33, k_X3_spells_36, k_X3_spells_49, k_X3_spells_54, k_X3_spells_57, k_X3_spells_59, k_X3_spells_65, li_0, li_1, li_2, li_3, li_4, li_5, li_6, li_9, li_10, li_40, lm_1, lm_2, lm_3, lm_4, zs_ap, i32_add, i32_sub, i32_mul, i32_neg, i32_lt, i32_le, i32_eq, i32_nat, ckn, pka_r, pka_v, if_pos, if_neg, if_true, if_false, w1, sLen h17 h00, k3, hat, sChr h17 h00 hi, true_or]
      · have heq : tp (tkF tp len q + i) = wch t i := by simpa using hp
        have hb := ht (tkF tp len q + i) (by omega)
        have hc := (w3 i hi).2
        have hat := h_at (d := d + 5) (J := J) (p0 := p0) (p1 := p1) (p2 := p2) (p3 := p3) (p4 := p4) (p5 := p5) (p6 := p6) (p7 := p7) ht hl h1 (k := tkF tp len q + i) (by omega)
        rw [show ((tkF tp len q + i : Nat) : Int) = (tkF tp len q : Int) + (i : Int) by omega] at hat
        rw [k_X3_spells_28 (hs := w1)]
        simp (disch := omega) only [k_X3_spells_0, k_X3_spells_8, k_X3_spells_21, k_X3_spells_24, k_X3_spells_26, k_X3_spells_33, k_X3_spells_36, k_X3_spells_49, k_X3_spells_54, k_X3_spells_57, k_X3_spells_59, k_X3_spells_65, li_0, li_1, li_2, li_3, li_4, li_5, li_6, li_9, li_10, li_40, lm_1, lm_2, lm_3, lm_4, zs_ap, i32_add, i32_sub, i32_mul, i32_neg, i32_lt, i32_le, i32_eq, i32_nat, ckn, pka_r, pka_v, if_pos, if_neg, if_true, if_false, w1, sLen h17 h00, k3, hat, sChr h17 h00 hi]
        rfl
    · rw [decide_eq_true c1, decide_eq_false c2, Bool.true_and, Bool.false_and, e_X3_spells, k_X3_spells_0]
      simp (disch := omega) only [k_X3_spells_0, k_X3_spells_8, k_X3_spells_21, k_X3_spells_24, k_X3_spells_26, k_X3_spells_33, k_X3_spells_36, k_X3_spells_49, k_X3_spells_54, k_X3_spells_57, k_X3_spells_59, k_X3_spells_65, li_0, li_1, li_2, li_3, li_4, li_5, li_6, li_9, li_10, li_40, lm_1, lm_2, lm_3, lm_4, zs_ap, i32_add, i32_sub, i32_mul, i32_neg, i32_lt, i32_le, i32_eq, i32_nat, ckn, pka_r, pka_v, if_pos, if_neg, if_true, if_false, w1, k1, k2, k3, c1, sLen h17 h00, bBf, true_or]
  · rw [decide_eq_false c1, Bool.false_and, Bool.false_and, e_X3_spells, k_X3_spells_0]
    simp (disch := omega) only [k_X3_spells_0, k_X3_spells_8, k_X3_spells_21, k_X3_spells_24, k_X3_spells_26, k_X3_spells_33, k_X3_spells_36, k_X3_spells_49, k_X3_spells_54, k_X3_spells_57, k_X3_spells_59, k_X3_spells_65, li_0, li_1, li_2, li_3, li_4, li_5, li_6, li_9, li_10, li_40, lm_1, lm_2, lm_3, lm_4, zs_ap, i32_add, i32_sub, i32_mul, i32_neg, i32_lt, i32_le, i32_eq, i32_nat, ckn, pka_r, pka_v, if_pos, if_neg, if_true, if_false, w1, k2, bBf, true_or]
end
/-! a WORD's number -/
def wcN (tp : Nat → Nat) (f : Nat) : Nat → Nat
  | 0 => 0
  | n + 1 => 32 * wcN tp f n + (tp (f + n) - 96)
theorem or5 {a b : Nat} (ha : a < 36028797018963968) (hb : b < 32) : ((i64 (a : Int)) <<< ((5 : Int32).toInt64 &&& 63)) ||| (i64 (b : Int)) = i64 ((32 * a + b : Nat) : Int) := by
  apply Int64.toBitVec_inj.mp
  rw [Int64.toBitVec_or, Int64.toBitVec_shiftLeft]
  have h5 : ((5 : Int32).toInt64 &&& 63).toBitVec.smod 64 = (5 : BitVec 64) := by decide
  rw [h5]
  show BitVec.ofInt 64 (a : Int) <<< (5 : BitVec 64) ||| BitVec.ofInt 64 (b : Int) = BitVec.ofInt 64 ((32 * a + b : Nat) : Int)
  rw [BitVec.ofInt_natCast, BitVec.ofInt_natCast, BitVec.ofInt_natCast]
  apply BitVec.eq_of_toNat_eq
  rw [BitVec.toNat_or, BitVec.shiftLeft_eq', BitVec.toNat_shiftLeft, BitVec.toNat_ofNat, BitVec.toNat_ofNat, BitVec.toNat_ofNat, show (5 : BitVec 64).toNat = 5 from rfl]
  rw [Nat.mod_eq_of_lt (show a < 2 ^ 64 by omega), Nat.mod_eq_of_lt (show b < 2 ^ 64 by omega), Nat.mod_eq_of_lt (show 32 * a + b < 2 ^ 64 by omega)]
  rw [Nat.shiftLeft_eq, Nat.mod_eq_of_lt (show a * 2 ^ 5 < 2 ^ 64 by omega)]
  rw [show 32 * a + b = 2 ^ 5 * a + b by omega, Nat.two_pow_add_eq_or_of_lt (show b < 2 ^ 5 by omega), Nat.mul_comm]
theorem wcd_N {tp : Nat → Nat} {f : Nat} : ∀ n : Nat, n ≤ 8 → (∀ x : Nat, x < n → isSm (tp (f + x)) = true) → wcd tp f n = i64 ((wcN tp f n : Nat) : Int) ∧ wcN tp f n < 32 ^ n
  | 0, _, _ => ⟨rfl, Nat.one_pos⟩
  | n + 1, hn, h => by
    obtain ⟨e1, e2⟩ := wcd_N n (by omega) (fun x hx => h x (by omega))
    have c := of_decide_eq_true (h n (by omega))
    have hp : 32 ^ n ≤ 32 ^ 7 := Nat.pow_le_pow_right (by decide) (by omega)
    have hb : tp (f + n) - 96 < 32 := by omega
    constructor
    · rw [show wcd tp f (n + 1) = (wcd tp f n <<< ((5 : Int32).toInt64 &&& 63)) ||| (i32 ((tp (f + n) : Int) - 96)).toInt64 from rfl, e1, show (tp (f + n) : Int) - 96 = ((tp (f + n) - 96 : Nat) : Int) by omega, i32_to64 (by omega), or5 (by omega) hb]
      rfl
    · rw [show wcN tp f (n + 1) = 32 * wcN tp f n + (tp (f + n) - 96) from rfl, Nat.pow_succ]
      omega
theorem i64_mul32 (a : Int) : i64 a * 32 = i64 (a * 32) := by rw [show (32 : Int64) = i64 32 from rfl, i64_mul]
section
variable {d : Nat} {J : Nat → Nat → Int64} {Z : Nat → Nat → Int} {p0 p1 p2 p3 p4 p5 p6 p7 : Nat} {tp : Nat → Nat} {len q : Nat}
theorem tk_sm (hq : q ≤ len) (h : tkK tp len q = 1) : tkB tp len q - tkF tp len q ≤ 8 ∧ ∀ x : Nat, x < tkB tp len q - tkF tp len q → isSm (tp (tkF tp len q + x)) = true := by
  unfold tkK at h
  split at h
  · omega
  · next c0 =>
    split at h
    · next c1 =>
      have hB : tkB tp len q = rt tp len isSm (tkF tp len q) := by
        unfold tkB
        rw [if_neg c0, if_pos c1]
      split at h
      · next c2 =>
        refine ⟨c2, fun x hx => ?_⟩
        exact rt_all (len - tkF tp len q) (tkF tp len q) rfl (tkF tp len q + x) (by omega) (by omega)
      · omega
    · split at h
      · split at h <;> omega
      · split at h
        · omega
        · split at h <;> omega
theorem h_wordCode (hl : len ≤ 700) (hq : q ≤ len) (ht : TC tp Z) (h1 : Z 1 1 = (len : Int)) (hk : LT tp len q Z) (hK : tkK tp len q = 1) : Mean (d + 2) 31 [.ref 4] (176, zs Z, J, RP p0 p1 p2 p3 p4 p5 p6 p7) = some (some (.long (tkW tp len q)), (176, zs Z, J, RP p0 p1 p2 p3 p4 p5 p6 p7)) := by
  obtain ⟨⟨a1, a2⟩, ⟨a3, a4⟩, a5⟩ := tk_le (tp := tp) hq
  obtain ⟨b1, b2⟩ := tk_sm hq hK
  obtain ⟨k1, k2, k3, k4⟩ := hk
  have key := up_eq (fun n => den none (Mean (d + 1)) (some .long) tQ_X3_wordCode (7, [some (.ref 4), some (.long (i64 ((wcN tp (tkF tp len q) n : Nat) : Int))), none, some (.int (i32 ((tkF tp len q + n : Nat) : Int)))], [], 176, zs Z, J, RP p0 p1 p2 p3 p4 p5 p6 p7)) (tkB tp len q - tkF tp len q) (fun n hn => by
    have hb := ht (tkF tp len q + n) (by omega)
    have c := of_decide_eq_true (b2 n hn)
    have hat := h_at (d := d) (J := J) (p0 := p0) (p1 := p1) (p2 := p2) (p3 := p3) (p4 := p4) (p5 := p5) (p6 := p6) (p7 := p7) ht hl h1 (k := tkF tp len q + n) (by omega)
    rw [k_X3_wordCode_7]
    simp (disch := omega) only [k_X3_wordCode_0, k_X3_wordCode_15, k_X3_wordCode_28, k_X3_wordCode_42, zs_ap, i32_add, i32_sub, i32_mul, i32_neg, i32_lt, i32_le, i32_eq, i32_nat, ckn, pka_r, pka_v, if_pos, if_neg, if_true, if_false, k1, hat, li_97, li_1, i64_mul32, i32_to64, i64_add]
    rw [show ((wcN tp (tkF tp len q) n : Nat) : Int) * 32 + ((tp (tkF tp len q + n) : Int) - 97 + 1) = ((wcN tp (tkF tp len q) (n + 1) : Nat) : Int) by
      rw [show wcN tp (tkF tp len q) (n + 1) = 32 * wcN tp (tkF tp len q) n + (tp (tkF tp len q + n) - 96) from rfl]
      omega]
    rfl)
  rw [e_X3_wordCode]
  simp (disch := omega) only [k_X3_wordCode_0, k_X3_wordCode_15, k_X3_wordCode_28, k_X3_wordCode_42, li_0, li_1, li_2, li_3, li_4, li_5, li_6, li_9, li_10, li_40, lm_1, lm_2, lm_3, lm_4, zs_ap, i32_add, i32_sub, i32_mul, i32_neg, i32_lt, i32_le, i32_eq, i32_nat, ckn, pka_r, pka_v, if_pos, if_neg, if_true, if_false, k3]
  refine Eq.trans key ?_
  rw [k_X3_wordCode_7]
  simp (disch := omega) only [k_X3_wordCode_0, k_X3_wordCode_15, k_X3_wordCode_28, k_X3_wordCode_42, li_0, li_1, li_2, li_3, li_4, li_5, li_6, li_9, li_10, li_40, lm_1, lm_2, lm_3, lm_4, zs_ap, i32_add, i32_sub, i32_mul, i32_neg, i32_lt, i32_le, i32_eq, i32_nat, ckn, pka_r, pka_v, if_pos, if_neg, if_true, if_false, k1]
  rw [show tkW tp len q = wcd tp (tkF tp len q) (tkB tp len q - tkF tp len q) from rfl, (wcd_N _ b1 b2).1]
theorem h_restart : Mean (d + 1) 28 [.ref 4] (176, zs Z, J, RP p0 p1 p2 p3 p4 p5 p6 p7) = some (none, (176, zs (u2 Z 4 1 0), J, RP p0 p1 p2 p3 p4 p5 p6 p7)) := by
  rw [e_X3_restart, k_X3_restart_0]
  simp only [li_0, zs_u2]
end
