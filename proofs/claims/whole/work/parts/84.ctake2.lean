/-! THE CLASS'S Reader: the clauses taken -/
theorem li_64 : (64 : Int32) = i32 64 := rfl
theorem p2f : ((2 ^ fbit 26 : Nat) : Int) = 4 ∧ ((2 ^ fbit 27 : Nat) : Int) = 8 ∧ ((2 ^ fbit 28 : Nat) : Int) = 16 ∧ ((2 ^ fbit 29 : Nat) : Int) = 32 ∧ ((2 ^ fbit 30 : Nat) : Int) = 1 ∧ ((2 ^ fbit 31 : Nat) : Int) = 2 ∧ ((2 ^ fbit 25 : Nat) : Int) = 64 := by decide
section
variable {d : Nat} {J J0 : Nat → Nat → Int64} {Z Z0 D : Nat → Nat → Int} {N : Nat → Int64} {p0 p1 p2 p3 p4 p5 p6 p7 : Nat} {tp : Nat → Nat} {len q n S : Nat} {c : Int}
theorem h_onlyOnce (hf : ∀ j : Nat, 25 ≤ j → j ≤ 31 → 0 ≤ D 140 j ∧ D 140 j ≤ 1) (h3 : Z 3 2 = fsum D) {j : Nat} (h1 : 25 ≤ j) (h2 : j ≤ 31) {x : Int} (hx : x = ((2 ^ fbit j : Nat) : Int)) : (D 140 j = 0 → Mean (d + 2) 56 [.ref 3, .int (i32 x)] (176, zs Z, J, RP p0 p1 p2 p3 p4 p5 p6 p7) = some (some (.int (i32 1)), (176, zs (u2 Z 3 2 (fsum D + x)), J, RP p0 p1 p2 p3 p4 p5 p6 p7))) ∧ (D 140 j ≠ 0 → Mean (d + 2) 56 [.ref 3, .int (i32 x)] (176, zs Z, J, RP p0 p1 p2 p3 p4 p5 p6 p7) = some (some (.int (i32 0)), (176, zs (u2 (u2 Z 3 5 3) 3 6 (Z 4 3)), J, RP p0 p1 p2 p3 p4 p5 p6 p7))) := by
  obtain ⟨y, y1, y2, y3⟩ := fsum_b hf
  have hb : fbit j < 7 := by unfold fbit; (repeat' split) <;> omega
  have o := ob1 ⟨y, y1⟩ ⟨fbit j, hb⟩
  simp only at o
  have y4 := y3 j h1 h2
  subst hx
  constructor
  · intro c0
    rw [e_X5_onlyOnce, k_X5_onlyOnce_0]
    simp (disch := omega) only [zs_ap, h3, y2, li_0, eq_true (o.1.mpr (y4.mpr c0)), if_true, k_X5_onlyOnce_15, o.2 (y4.mpr c0), li_1, zs_u2]
    rfl
  · intro c0
    rw [e_X5_onlyOnce, k_X5_onlyOnce_0]
    simp (disch := omega) only [zs_ap, h3, y2, li_0, li_1, li_2, li_3, li_4, li_5, li_6, li_9, li_10, li_40, lm_1, lm_2, lm_3, lm_4, eq_false (fun z => c0 (y4.mp (o.1.mp z))), if_false, k_X5_onlyOnce_9, k_X5_onlyOnce_14, h_refuse, pka_r, i32_eq, true_or, if_true]
theorem CQ_flag (hp : hv2 p1) (h : CQ len p1 c Z0 J0 D N q Z J) {j : Nat} (h1 : 26 ≤ j) (h2 : j ≤ 31) (h0 : D 140 j = 0) {x : Int} (hx : x = ((2 ^ fbit j : Nat) : Int)) : CQ len p1 c Z0 J0 (u2 D 140 j 1) N q (u2 Z 3 2 (fsum D + x)) J := by
  subst hx
  obtain ⟨a1, a2, a3, a4, a5, a6⟩ := h
  refine ⟨CX_u3 a1, a2, CD_flag hp a3 h1 h2 h0, ?_, ?_, ?_⟩
  · rw [u2_ne (by decide)]; exact a4
  · rw [u2_ne (by omega)]; exact a5
  · rw [u2f (by decide), u2f (by decide)]; exact a6
theorem CQ_sc (hp : hv2 p1) (h : CQ len p1 c Z0 J0 D N q Z J) {f j : Nat} (hj : (f = 11 ∧ j = 19) ∨ (f = 12 ∧ j = 20) ∨ (f = 13 ∧ j = 21) ∨ (f = 14 ∧ j = 22)) (v : Int) : CQ len p1 c Z0 J0 (u2 D 140 j v) N q (u2 Z p1 f v) J := by
  obtain ⟨a1, a2, a3, a4, a5, a6⟩ := h
  refine ⟨CX_up a1 (by omega), a2, CD_sc hp a3 hj v, ?_, ?_, ?_⟩
  · rw [u2_ne (by omega)]; exact a4
  · rw [u2f (by omega)]; exact a5
  · rw [u2_ne (by omega)]; exact a6
theorem CQ_am (hp : hv2 p1) (hn : D 140 18 ≤ 6) (h : CQ len p1 c Z0 J0 D N q Z J) {a b i : Nat} (ha : (a = 13 ∧ b = 155) ∨ (a = 14 ∧ b = 156)) (v : Int) : CQ len p1 c Z0 J0 (u2 D b i v) N q (u2 Z (p1 + a) i v) J := by
  obtain ⟨a1, a2, a3, a4, a5, a6⟩ := h
  refine ⟨CX_up a1 (by omega), a2, CD_am hp hn a3 ha v, ?_, ?_, ?_⟩
  · rw [u2_ne (by omega)]; exact a4
  · rw [u2_ne (by omega)]; exact a5
  · rw [u2_ne (by omega)]; exact a6
theorem CE_eq {e : Int × Nat} {o o' : Option (Option Value × pW)} (h : CE p1 Z0 J0 (RP p0 p1 p2 p3 p4 p5 p6 p7) e o) (ho : ∀ (Z' : Nat → Nat → Int) (J' : Nat → Nat → Int64), o = some (some (.int (i32 0)), (176, zs Z', J', RP p0 p1 p2 p3 p4 p5 p6 p7)) → o' = some (some (.int (i32 0)), (176, zs Z', J', RP p0 p1 p2 p3 p4 p5 p6 p7))) : CE p1 Z0 J0 (RP p0 p1 p2 p3 p4 p5 p6 p7) e o' := by
  obtain ⟨Z', J', a1, a2, a3, a4⟩ := h
  exact ⟨Z', J', a1, a2, a3, ho Z' J' a4⟩
theorem h_takeDay (ht : CT tp len p1 Z0) (hd : DW D n S) (hl : LT tp len q Z) (h : CQ len p1 c Z0 J0 D N (tkB tp len q) Z J) : CO len p1 c Z0 J0 (RP p0 p1 p2 p3 p4 p5 p6 p7) (if D 140 26 = 0 then pNum tp len (tkB tp len q) 0 99 (fun v q' => .ok (u2 (u2 D 140 26 1) 140 19 v, N, q')) else .error (3, tkF tp len q)) (Mean (d + 4) 51 [.ref 3] (176, zs Z, J, RP p0 p1 p2 p3 p4 p5 p6 p7)) := by
  have hp : hv2 p1 := ht.2.2.2
  have o := h_onlyOnce (d := d + 1) (J := J) (p0 := p0) (p1 := p1) (p2 := p2) (p3 := p3) (p4 := p4) (p5 := p5) (p6 := p6) (p7 := p7) (Z := Z) hd.2.2.2.1 h.2.2.1.2.2.2.2.1 (j := 26) (by omega) (by omega) (x := 4) rfl
  by_cases c0 : D 140 26 = 0
  · rw [if_pos c0]
    have o1 := o.1 c0
    have h' := CQ_flag hp h (j := 26) (by omega) (by omega) c0 (x := 4) rfl
    have f := h_takeNumber (d := d) (p0 := p0) (p1 := p1) (p2 := p2) (p3 := p3) (p4 := p4) (p5 := p5) (p6 := p6) (p7 := p7) ht h' (lo := 0) (hi := 99) (by omega) (by omega)
    unfold pNum
    by_cases c2 : eNum tp len (tkB tp len q) 0 99 = 0
    · rw [if_pos c2]
      obtain ⟨Z', a1, a2, _, a3⟩ := f.1 c2
      clear f
      refine ⟨u2 Z' p1 11 (tkV tp len (tkB tp len q)), J, CQ_sc hp a1 (by omega) _, ?_⟩
      rw [e_X5_takeDay, k_X5_takeDay_0]
      simp (disch := omega) only [k_X5_takeDay_5, k_X5_takeDay_8, k_X5_takeDay_15, k_X5_takeDay_18, k_X5_takeDay_20, li_0, li_1, li_2, li_3, li_4, li_5, li_6, li_9, li_10, li_40, lm_1, lm_2, lm_3, lm_4, zs_ap, i32_add, i32_sub, i32_mul, i32_neg, i32_lt, i32_le, i32_eq, i32_nat, ckn, pka_r, pka_v, if_pos, if_neg, if_true, if_false, o1, li_99, a3, a2, zs_u2]
    · rw [if_neg c2]
      have f2 := f.2 c2
      clear f
      refine CE_eq f2 (fun Z' J' e => ?_)
      rw [e_X5_takeDay, k_X5_takeDay_0]
      simp (disch := omega) only [k_X5_takeDay_5, k_X5_takeDay_8, k_X5_takeDay_15, k_X5_takeDay_18, k_X5_takeDay_20, li_0, li_1, li_2, li_3, li_4, li_5, li_6, li_9, li_10, li_40, lm_1, lm_2, lm_3, lm_4, zs_ap, i32_add, i32_sub, i32_mul, i32_neg, i32_lt, i32_le, i32_eq, i32_nat, ckn, pka_r, pka_v, if_pos, if_neg, if_true, if_false, o1, li_99, e]
  · rw [if_neg c0]
    refine CE_mk h.1 h.2.1 hl ?_
    rw [e_X5_takeDay, k_X5_takeDay_0]
    simp (disch := omega) only [k_X5_takeDay_5, k_X5_takeDay_8, k_X5_takeDay_15, k_X5_takeDay_18, k_X5_takeDay_20, li_0, li_1, li_2, li_3, li_4, li_5, li_6, li_9, li_10, li_40, lm_1, lm_2, lm_3, lm_4, zs_ap, i32_add, i32_sub, i32_mul, i32_neg, i32_lt, i32_le, i32_eq, i32_nat, ckn, pka_r, pka_v, if_pos, if_neg, if_true, if_false, o.2 c0]
theorem h_takeLump (ht : CT tp len p1 Z0) (hd : DW D n S) (hl : LT tp len q Z) (h : CQ len p1 c Z0 J0 D N (tkB tp len q) Z J) : CO len p1 c Z0 J0 (RP p0 p1 p2 p3 p4 p5 p6 p7) (if D 140 27 = 0 then pNum tp len (tkB tp len q) 1 3 (fun v q' => .ok (u2 (u2 D 140 27 1) 140 20 v, N, q')) else .error (3, tkF tp len q)) (Mean (d + 4) 52 [.ref 3] (176, zs Z, J, RP p0 p1 p2 p3 p4 p5 p6 p7)) := by
  have hp : hv2 p1 := ht.2.2.2
  have o := h_onlyOnce (d := d + 1) (J := J) (p0 := p0) (p1 := p1) (p2 := p2) (p3 := p3) (p4 := p4) (p5 := p5) (p6 := p6) (p7 := p7) (Z := Z) hd.2.2.2.1 h.2.2.1.2.2.2.2.1 (j := 27) (by omega) (by omega) (x := 8) rfl
  by_cases c0 : D 140 27 = 0
  · rw [if_pos c0]
    have o1 := o.1 c0
    have h' := CQ_flag hp h (j := 27) (by omega) (by omega) c0 (x := 8) rfl
    have f := h_takeNumber (d := d) (p0 := p0) (p1 := p1) (p2 := p2) (p3 := p3) (p4 := p4) (p5 := p5) (p6 := p6) (p7 := p7) ht h' (lo := 1) (hi := 3) (by omega) (by omega)
    unfold pNum
    by_cases c2 : eNum tp len (tkB tp len q) 1 3 = 0
    · rw [if_pos c2]
      obtain ⟨Z', a1, a2, _, a3⟩ := f.1 c2
      clear f
      refine ⟨u2 Z' p1 12 (tkV tp len (tkB tp len q)), J, CQ_sc hp a1 (by omega) _, ?_⟩
      rw [e_X5_takeLump, k_X5_takeLump_0]
      simp (disch := omega) only [k_X5_takeLump_6, k_X5_takeLump_9, k_X5_takeLump_15, k_X5_takeLump_18, k_X5_takeLump_20, li_0, li_1, li_2, li_3, li_4, li_5, li_6, li_9, li_10, li_40, lm_1, lm_2, lm_3, lm_4, zs_ap, i32_add, i32_sub, i32_mul, i32_neg, i32_lt, i32_le, i32_eq, i32_nat, ckn, pka_r, pka_v, if_pos, if_neg, if_true, if_false, li_8, o1, a3, a2, zs_u2]
    · rw [if_neg c2]
      have f2 := f.2 c2
      clear f
      refine CE_eq f2 (fun Z' J' e => ?_)
      rw [e_X5_takeLump, k_X5_takeLump_0]
      simp (disch := omega) only [k_X5_takeLump_6, k_X5_takeLump_9, k_X5_takeLump_15, k_X5_takeLump_18, k_X5_takeLump_20, li_0, li_1, li_2, li_3, li_4, li_5, li_6, li_9, li_10, li_40, lm_1, lm_2, lm_3, lm_4, zs_ap, i32_add, i32_sub, i32_mul, i32_neg, i32_lt, i32_le, i32_eq, i32_nat, ckn, pka_r, pka_v, if_pos, if_neg, if_true, if_false, li_8, o1, e]
  · rw [if_neg c0]
    refine CE_mk h.1 h.2.1 hl ?_
    rw [e_X5_takeLump, k_X5_takeLump_0]
    simp (disch := omega) only [k_X5_takeLump_6, k_X5_takeLump_9, k_X5_takeLump_15, k_X5_takeLump_18, k_X5_takeLump_20, li_0, li_1, li_2, li_3, li_4, li_5, li_6, li_9, li_10, li_40, lm_1, lm_2, lm_3, lm_4, zs_ap, i32_add, i32_sub, i32_mul, i32_neg, i32_lt, i32_le, i32_eq, i32_nat, ckn, pka_r, pka_v, if_pos, if_neg, if_true, if_false, li_8, o.2 c0]
theorem h_takeFirst (ht : CT tp len p1 Z0) (hd : DW D n S) (hl : LT tp len q Z) (h : CQ len p1 c Z0 J0 D N (tkB tp len q) Z J) : CO len p1 c Z0 J0 (RP p0 p1 p2 p3 p4 p5 p6 p7) (if D 140 29 = 0 then pNum tp len (tkB tp len q) 0 (D 140 17 - 1) (fun v q' => .ok (u2 (u2 D 140 29 1) 140 22 v, N, q')) else .error (3, tkF tp len q)) (Mean (d + 4) 54 [.ref 3] (176, zs Z, J, RP p0 p1 p2 p3 p4 p5 p6 p7)) := by
  have hp : hv2 p1 := ht.2.2.2
  have hS := hd.1
  have o := h_onlyOnce (d := d + 1) (J := J) (p0 := p0) (p1 := p1) (p2 := p2) (p3 := p3) (p4 := p4) (p5 := p5) (p6 := p6) (p7 := p7) (Z := Z) hd.2.2.2.1 h.2.2.1.2.2.2.2.1 (j := 29) (by omega) (by omega) (x := 32) rfl
  by_cases c0 : D 140 29 = 0
  · rw [if_pos c0]
    have o1 := o.1 c0
    have h' := CQ_flag hp h (j := 29) (by omega) (by omega) c0 (x := 32) rfl
    have e1 : u2 Z 3 2 (fsum D + 32) p1 1 = D 140 17 := by rw [u2_ne (by omega)]; exact h.2.2.1.1.1
    have f := h_takeNumber (d := d) (p0 := p0) (p1 := p1) (p2 := p2) (p3 := p3) (p4 := p4) (p5 := p5) (p6 := p6) (p7 := p7) ht h' (lo := 0) (hi := D 140 17 - 1) (by omega) (by omega)
    unfold pNum
    by_cases c2 : eNum tp len (tkB tp len q) 0 (D 140 17 - 1) = 0
    · rw [if_pos c2]
      obtain ⟨Z', a1, a2, _, a3⟩ := f.1 c2
      clear f
      refine ⟨u2 Z' p1 14 (tkV tp len (tkB tp len q)), J, CQ_sc hp a1 (by omega) _, ?_⟩
      rw [e_X5_takeFirst, k_X5_takeFirst_0]
      simp (disch := omega) only [k_X5_takeFirst_6, k_X5_takeFirst_9, k_X5_takeFirst_23, k_X5_takeFirst_26, k_X5_takeFirst_28, li_0, li_1, li_2, li_3, li_4, li_5, li_6, li_9, li_10, li_40, lm_1, lm_2, lm_3, lm_4, zs_ap, i32_add, i32_sub, i32_mul, i32_neg, i32_lt, i32_le, i32_eq, i32_nat, ckn, pka_r, pka_v, if_pos, if_neg, if_true, if_false, li_32, o1, e1, a3, a2, zs_u2]
    · rw [if_neg c2]
      have f2 := f.2 c2
      clear f
      refine CE_eq f2 (fun Z' J' e => ?_)
      rw [e_X5_takeFirst, k_X5_takeFirst_0]
      simp (disch := omega) only [k_X5_takeFirst_6, k_X5_takeFirst_9, k_X5_takeFirst_23, k_X5_takeFirst_26, k_X5_takeFirst_28, li_0, li_1, li_2, li_3, li_4, li_5, li_6, li_9, li_10, li_40, lm_1, lm_2, lm_3, lm_4, zs_ap, i32_add, i32_sub, i32_mul, i32_neg, i32_lt, i32_le, i32_eq, i32_nat, ckn, pka_r, pka_v, if_pos, if_neg, if_true, if_false, li_32, o1, e1, e]
  · rw [if_neg c0]
    refine CE_mk h.1 h.2.1 hl ?_
    rw [e_X5_takeFirst, k_X5_takeFirst_0]
    simp (disch := omega) only [k_X5_takeFirst_6, k_X5_takeFirst_9, k_X5_takeFirst_23, k_X5_takeFirst_26, k_X5_takeFirst_28, li_0, li_1, li_2, li_3, li_4, li_5, li_6, li_9, li_10, li_40, lm_1, lm_2, lm_3, lm_4, zs_ap, i32_add, i32_sub, i32_mul, i32_neg, i32_lt, i32_le, i32_eq, i32_nat, ckn, pka_r, pka_v, if_pos, if_neg, if_true, if_false, li_32, o.2 c0]
theorem h_takePairs (ht : CT tp len p1 Z0) (hd : DW D n S) (hq : q ≤ len) (hl : LT tp len q Z) (h : CQ len p1 c Z0 J0 D N (tkB tp len q) Z J) : CO len p1 c Z0 J0 (RP p0 p1 p2 p3 p4 p5 p6 p7) (if tkIs tp len q 16 then (if D 140 25 = 0 then .ok (u2 D 140 25 1, N, tkB tp len q) else .error (3, tkF tp len q)) else .error (1, tkF tp len q)) (Mean (d + 8) 55 [.ref 3] (176, zs Z, J, RP p0 p1 p2 p3 p4 p5 p6 p7)) := by
  have hp : hv2 p1 := ht.2.2.2
  have i16 := CQ_is (d := d) (J := J) (p0 := p0) (p1 := p1) (p2 := p2) (p3 := p3) (p4 := p4) (p5 := p5) (p6 := p6) (p7 := p7) (Z := Z) ht h.1 hl hq (t := 16) (by decide) (by decide)
  have hx : CX p1 Z0 (u2 Z p1 15 1) := CX_up h.1 (by omega)
  have e32 : u2 Z p1 15 1 3 2 = fsum D := by rw [u2_ne (by omega)]; exact h.2.2.1.2.2.2.2.1
  have o := h_onlyOnce (d := d + 5) (J := J) (p0 := p0) (p1 := p1) (p2 := p2) (p3 := p3) (p4 := p4) (p5 := p5) (p6 := p6) (p7 := p7) (Z := u2 Z p1 15 1) hd.2.2.2.1 e32 (j := 25) (by omega) (by omega) (x := 64) rfl
  cases c16 : tkIs tp len q 16
  · rw [c16, bBf] at i16
    rw [if_neg Bool.false_ne_true]
    refine CE_mk h.1 h.2.1 hl ?_
    rw [e_X5_takePairs, k_X5_takePairs_0]
    simp (disch := omega) only [k_X5_takePairs_9, k_X5_takePairs_12, k_X5_takePairs_17, k_X5_takePairs_18, k_X5_takePairs_32, li_0, li_1, li_2, li_3, li_4, li_5, li_6, li_9, li_10, li_40, lm_1, lm_2, lm_3, lm_4, zs_ap, i32_add, i32_sub, i32_mul, i32_neg, i32_lt, i32_le, i32_eq, i32_nat, ckn, pka_r, pka_v, if_pos, if_neg, if_true, if_false, i16, h_refuse, true_or]
  · rw [c16, bBt] at i16
    rw [if_pos rfl]
    by_cases c0 : D 140 25 = 0
    · rw [if_pos c0]
      refine ⟨u2 (u2 Z p1 15 1) 3 2 (fsum D + 64), J, ⟨CX_u3 hx, h.2.1, CD_pairs hp h.2.2.1 c0, ?_, ?_, ?_⟩, ?_⟩
      · rw [u2_ne (by omega), u2_ne (by omega)]; exact h.2.2.2.1
      · rw [u2_ne (by omega), u2f (by omega)]; exact h.2.2.2.2.1
      · rw [u2f (by decide), u2f (by decide), u2_ne (by omega)]; exact h.2.2.2.2.2
      · rw [e_X5_takePairs, k_X5_takePairs_0]
        simp (disch := omega) only [k_X5_takePairs_9, k_X5_takePairs_12, k_X5_takePairs_17, k_X5_takePairs_18, k_X5_takePairs_32, li_0, li_1, li_2, li_3, li_4, li_5, li_6, li_9, li_10, li_40, lm_1, lm_2, lm_3, lm_4, zs_ap, i32_add, i32_sub, i32_mul, i32_neg, i32_lt, i32_le, i32_eq, i32_nat, ckn, pka_r, pka_v, if_pos, if_neg, if_true, if_false, i16, li_64, zs_u2, o.1 c0, or_true]
    · rw [if_neg c0]
      have hl' : LT tp len q (u2 Z p1 15 1) := by
        unfold LT
        rw [u2_ne (by omega)]
        exact hl
      refine CE_mk hx h.2.1 hl' ?_
      rw [e_X5_takePairs, k_X5_takePairs_0]
      simp (disch := omega) only [k_X5_takePairs_9, k_X5_takePairs_12, k_X5_takePairs_17, k_X5_takePairs_18, k_X5_takePairs_32, li_0, li_1, li_2, li_3, li_4, li_5, li_6, li_9, li_10, li_40, lm_1, lm_2, lm_3, lm_4, zs_ap, i32_add, i32_sub, i32_mul, i32_neg, i32_lt, i32_le, i32_eq, i32_nat, ckn, pka_r, pka_v, if_pos, if_neg, if_true, if_false, i16, li_64, zs_u2, o.2 c0, true_or]
theorem h_takeMode (ht : CT tp len p1 Z0) (h : CQ len p1 c Z0 J0 D N (tkB tp len q) Z J) : CO len p1 c Z0 J0 (RP p0 p1 p2 p3 p4 p5 p6 p7) (pModeM tp len D N q) (Mean (d + 8) 53 [.ref 3] (176, zs Z, J, RP p0 p1 p2 p3 p4 p5 p6 p7)) := by
  have hp : hv2 p1 := ht.2.2.2
  obtain ⟨Z1, f, l, h', e⟩ := CQ_adv (d := d + 6) (p0 := p0) (p1 := p1) (p2 := p2) (p3 := p3) (p4 := p4) (p5 := p5) (p6 := p6) (p7 := p7) ht h
  have hq := h.2.2.2.1.2
  have i12 := CQ_is (d := d) (J := J) (p0 := p0) (p1 := p1) (p2 := p2) (p3 := p3) (p4 := p4) (p5 := p5) (p6 := p6) (p7 := p7) (Z := Z1) ht h'.1 l hq (t := 12) (by decide) (by decide)
  have i13 := CQ_is (d := d) (J := J) (p0 := p0) (p1 := p1) (p2 := p2) (p3 := p3) (p4 := p4) (p5 := p5) (p6 := p6) (p7 := p7) (Z := Z1) ht h'.1 l hq (t := 13) (by decide) (by decide)
  have i14 := CQ_is (d := d) (J := J) (p0 := p0) (p1 := p1) (p2 := p2) (p3 := p3) (p4 := p4) (p5 := p5) (p6 := p6) (p7 := p7) (Z := Z1) ht h'.1 l hq (t := 14) (by decide) (by decide)
  unfold pModeM
  cases c12 : tkIs tp len (tkB tp len q) 12
  · rw [c12, bBf] at i12
    rw [if_neg Bool.false_ne_true]
    cases c13 : tkIs tp len (tkB tp len q) 13
    · rw [c13, bBf] at i13
      rw [if_neg Bool.false_ne_true]
      cases c14 : tkIs tp len (tkB tp len q) 14
      · rw [c14, bBf] at i14
        rw [if_neg Bool.false_ne_true]
        refine CE_mk h'.1 h'.2.1 l ?_
        rw [e_X5_takeMode, k_X5_takeMode_0]
        simp (disch := omega) only [k_X5_takeMode_7, k_X5_takeMode_16, k_X5_takeMode_19, k_X5_takeMode_29, k_X5_takeMode_38, k_X5_takeMode_41, k_X5_takeMode_51, k_X5_takeMode_60, k_X5_takeMode_63, k_X5_takeMode_73, k_X5_takeMode_78, li_0, li_1, li_2, li_3, li_4, li_5, li_6, li_9, li_10, li_40, lm_1, lm_2, lm_3, lm_4, zs_ap, i32_add, i32_sub, i32_mul, i32_neg, i32_lt, i32_le, i32_eq, i32_nat, ckn, pka_r, pka_v, if_pos, if_neg, if_true, if_false, e, i12, i13, i14, h_refuse, true_or]
      · rw [c14, bBt] at i14
        rw [if_pos rfl]
        refine ⟨u2 Z1 p1 13 2, J, CQ_sc hp h' (by omega) _, ?_⟩
        rw [e_X5_takeMode, k_X5_takeMode_0]
        simp (disch := omega) only [k_X5_takeMode_7, k_X5_takeMode_16, k_X5_takeMode_19, k_X5_takeMode_29, k_X5_takeMode_38, k_X5_takeMode_41, k_X5_takeMode_51, k_X5_takeMode_60, k_X5_takeMode_63, k_X5_takeMode_73, k_X5_takeMode_78, li_0, li_1, li_2, li_3, li_4, li_5, li_6, li_9, li_10, li_40, lm_1, lm_2, lm_3, lm_4, zs_ap, i32_add, i32_sub, i32_mul, i32_neg, i32_lt, i32_le, i32_eq, i32_nat, ckn, pka_r, pka_v, if_pos, if_neg, if_true, if_false, e, i12, i13, i14, zs_u2]
    · rw [c13, bBt] at i13
      rw [if_pos rfl]
      refine ⟨u2 Z1 p1 13 1, J, CQ_sc hp h' (by omega) _, ?_⟩
      rw [e_X5_takeMode, k_X5_takeMode_0]
      simp (disch := omega) only [k_X5_takeMode_7, k_X5_takeMode_16, k_X5_takeMode_19, k_X5_takeMode_29, k_X5_takeMode_38, k_X5_takeMode_41, k_X5_takeMode_51, k_X5_takeMode_60, k_X5_takeMode_63, k_X5_takeMode_73, k_X5_takeMode_78, li_0, li_1, li_2, li_3, li_4, li_5, li_6, li_9, li_10, li_40, lm_1, lm_2, lm_3, lm_4, zs_ap, i32_add, i32_sub, i32_mul, i32_neg, i32_lt, i32_le, i32_eq, i32_nat, ckn, pka_r, pka_v, if_pos, if_neg, if_true, if_false, e, i12, i13, zs_u2]
  · rw [c12, bBt] at i12
    rw [if_pos rfl]
    refine ⟨u2 Z1 p1 13 0, J, CQ_sc hp h' (by omega) _, ?_⟩
    rw [e_X5_takeMode, k_X5_takeMode_0]
    simp (disch := omega) only [k_X5_takeMode_7, k_X5_takeMode_16, k_X5_takeMode_19, k_X5_takeMode_29, k_X5_takeMode_38, k_X5_takeMode_41, k_X5_takeMode_51, k_X5_takeMode_60, k_X5_takeMode_63, k_X5_takeMode_73, k_X5_takeMode_78, li_0, li_1, li_2, li_3, li_4, li_5, li_6, li_9, li_10, li_40, lm_1, lm_2, lm_3, lm_4, zs_ap, i32_add, i32_sub, i32_mul, i32_neg, i32_lt, i32_le, i32_eq, i32_nat, ckn, pka_r, pka_v, if_pos, if_neg, if_true, if_false, e, i12, zs_u2]
theorem ta_loop (ht : CT tp len p1 Z0) {a b : Nat} (ha : (a = 13 ∧ b = 155) ∨ (a = 14 ∧ b = 156)) (hS : S ≤ 3) : ∀ (j i q : Nat) (D Z : Nat → Nat → Int), i + j = S → D 140 17 = (S : Int) → D 140 18 ≤ 6 → CQ len p1 c Z0 J0 D N q Z J → CO len p1 c Z0 J0 (RP p0 p1 p2 p3 p4 p5 p6 p7) (pEachL tp len N b j i D q) (den none (Mean (d + 3)) (some .boolean) tQ_X5_takeAmounts (2, [some (.ref 3), some (.ref (p1 + a)), some (.int (i32 (i : Int)))], [], 176, zs Z, J, RP p0 p1 p2 p3 p4 p5 p6 p7)) := by
  have hp : hv2 p1 := ht.2.2.2
  have hg : pshn (p1 + a) = some (.inl (.int, 3)) := by
    rcases ha with ⟨rfl, _⟩ | ⟨rfl, _⟩
    · exact sh13 (by omega)
    · exact sh14 (by omega)
  intro j
  induction j with
  | zero =>
    intro i q D Z hi h17 h18 h
    have e1 : Z p1 1 = (S : Int) := by rw [h.2.2.1.1.1, h17]
    refine ⟨Z, J, h, ?_⟩
    rw [k_X5_takeAmounts_2 (hv_p1 := hp)]
    simp (disch := omega) only [k_X5_takeAmounts_0, k_X5_takeAmounts_13, k_X5_takeAmounts_21, k_X5_takeAmounts_24, k_X5_takeAmounts_26, k_X5_takeAmounts_36, k_X5_takeAmounts_42, li_0, li_1, li_2, li_3, li_4, li_5, li_6, li_9, li_10, li_40, lm_1, lm_2, lm_3, lm_4, zs_ap, i32_add, i32_sub, i32_mul, i32_neg, i32_lt, i32_le, i32_eq, i32_nat, ckn, pka_r, pka_v, if_pos, if_neg, if_true, if_false, e1]
  | succ j ih =>
    intro i q D Z hi h17 h18 h
    have e1 : Z p1 1 = (S : Int) := by rw [h.2.2.1.1.1, h17]
    have f := h_takeNumber (d := d) (p0 := p0) (p1 := p1) (p2 := p2) (p3 := p3) (p4 := p4) (p5 := p5) (p6 := p6) (p7 := p7) ht h (lo := 0) (hi := 999) (by omega) (by omega)
    show CO len p1 c Z0 J0 (RP p0 p1 p2 p3 p4 p5 p6 p7) (pNum tp len q 0 999 (fun v q' => pEachL tp len N b j (i + 1) (u2 D b i v) q')) _
    unfold pNum
    by_cases c2 : eNum tp len q 0 999 = 0
    · rw [if_pos c2]
      obtain ⟨Z', a1, a2, _, a3⟩ := f.1 c2
      clear f
      have a4 := CQ_am hp h18 a1 (i := i) ha (tkV tp len q)
      have g17 : u2 D b i (tkV tp len q) 140 = D 140 := u2_ne (by omega)
      have h'' := ih (i + 1) (tkB tp len q) (u2 D b i (tkV tp len q)) _ (by omega) (by rw [g17]; exact h17) (by rw [g17]; exact h18) a4
      have e2 : den none (Mean (d + 3)) (some .boolean) tQ_X5_takeAmounts (2, [some (.ref 3), some (.ref (p1 + a)), some (.int (i32 (i : Int)))], [], 176, zs Z, J, RP p0 p1 p2 p3 p4 p5 p6 p7) = den none (Mean (d + 3)) (some .boolean) tQ_X5_takeAmounts (2, [some (.ref 3), some (.ref (p1 + a)), some (.int (i32 ((i + 1 : Nat) : Int)))], [], 176, zs (u2 Z' (p1 + a) i (tkV tp len q)), J, RP p0 p1 p2 p3 p4 p5 p6 p7) := by
        rw [k_X5_takeAmounts_2 (hv_p1 := hp)]
        simp (disch := omega) only [k_X5_takeAmounts_13, k_X5_takeAmounts_21, k_X5_takeAmounts_26 (hg_g1 := hg), k_X5_takeAmounts_36, li_0, li_1, li_2, li_3, li_4, li_5, li_6, li_9, li_10, li_40, lm_1, lm_2, lm_3, lm_4, zs_ap, i32_add, i32_sub, i32_mul, i32_neg, i32_lt, i32_le, i32_eq, i32_nat, ckn, pka_r, pka_v, if_pos, if_neg, if_true, if_false, e1, li_999, a3, a2, zs_u2, Int.toNat_natCast]
        rfl
      rw [e2]
      exact h''
    · rw [if_neg c2]
      have f2 := f.2 c2
      clear f
      refine CE_eq f2 (fun Z' J' e => ?_)
      rw [k_X5_takeAmounts_2 (hv_p1 := hp)]
      simp (disch := omega) only [k_X5_takeAmounts_0, k_X5_takeAmounts_13, k_X5_takeAmounts_21, k_X5_takeAmounts_24, k_X5_takeAmounts_26, k_X5_takeAmounts_36, k_X5_takeAmounts_42, li_0, li_1, li_2, li_3, li_4, li_5, li_6, li_9, li_10, li_40, lm_1, lm_2, lm_3, lm_4, zs_ap, i32_add, i32_sub, i32_mul, i32_neg, i32_lt, i32_le, i32_eq, i32_nat, ckn, pka_r, pka_v, if_pos, if_neg, if_true, if_false, e1, li_999, e]
theorem h_takeAmounts (ht : CT tp len p1 Z0) (hd : DW D n S) {a b : Nat} (ha : (a = 13 ∧ b = 155) ∨ (a = 14 ∧ b = 156)) (h : CQ len p1 c Z0 J0 D N (tkB tp len q) Z J) : CO len p1 c Z0 J0 (RP p0 p1 p2 p3 p4 p5 p6 p7) (pEach tp len b D N q) (Mean (d + 4) 50 [.ref 3, .ref (p1 + a)] (176, zs Z, J, RP p0 p1 p2 p3 p4 p5 p6 p7)) := by
  have hS := hd.1
  have hn := hd.2.1
  rw [e_X5_takeAmounts, k_X5_takeAmounts_0]
  unfold pEach
  rw [hS.1, Int.toNat_natCast]
  exact ta_loop ht ha hS.2.2 S 0 (tkB tp len q) D Z (by omega) hS.1 (by omega) h
end
