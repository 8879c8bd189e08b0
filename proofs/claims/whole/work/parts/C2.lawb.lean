/-! THE LAW'S WALK, case by case -/
set_option maxRecDepth 20000
abbrev lwl (i : Nat) : List (Option Value) := [some (.retAddr 0), some (.ref 0), some (.ref 140), some (.int (i32 (i : Int)))]
theorem lw_ix {i k L : Nat} (hk : k < 6) (hi : i + 6 ≤ L) (hL : L ≤ 3072) : ¬ (i32 (i : Int) + i32 (k : Int) < 0 ∨ L ≤ (i32 (i : Int) + i32 (k : Int)).toNatClampNeg) ∧ (i32 (i : Int) + i32 (k : Int)).toNatClampNeg = i + k := by
  have e : (i32 (i : Int) + i32 (k : Int)).toNatClampNeg = i + k := by
    rw [i32_add, show (i : Int) + (k : Int) = ((i + k : Nat) : Int) by omega, i32_nat (by omega), Int.toNat_natCast]
  refine ⟨?_, e⟩
  rw [e, i32_add, li_0, i32_lt (by omega) (by omega)]
  omega
section
variable {C : pC} {L : Nat} {xs : Nat → Int32} {i : Nat}
theorem lw_f {k : Nat} (hk : k < 6) (hi : i + 6 ≤ L) (hL : L ≤ 3072) {x y : Option (Option Value × pW)} {f : Nat → Option (Option Value × pW)} (h : x = if i32 (i : Int) + i32 (k : Int) < 0 ∨ L ≤ (i32 (i : Int) + i32 (k : Int)).toNatClampNeg then none else f (i32 (i : Int) + i32 (k : Int)).toNatClampNeg) (hy : y = f (i + k)) : x = y := by
  rw [h, hy, if_neg (lw_ix hk hi hL).1, (lw_ix hk hi hL).2]
theorem f_173 (hi : i + 6 ≤ L) (hL : L ≤ 3072) (st : List Value) (w : pW) : den (some (L, xs)) C (some .boolean) tQ_L_law (173, lwl i, st, w) = den (some (L, xs)) C (some .boolean) tQ_L_law (178, lwl i, .int (xs (i + 1)) :: st, w) := lw_f (k := 1) (f := fun n => den (some (L, xs)) C (some .boolean) tQ_L_law (178, lwl i, .int (xs n) :: st, w)) (by omega) hi hL ((den_steps 4 rfl).trans (den_ck rfl)) rfl
theorem f_178 (hi : i + 6 ≤ L) (hL : L ≤ 3072) (st : List Value) (w : pW) : den (some (L, xs)) C (some .boolean) tQ_L_law (178, lwl i, st, w) = den (some (L, xs)) C (some .boolean) tQ_L_law (183, lwl i, .int (xs (i + 2)) :: st, w) := lw_f (k := 2) (f := fun n => den (some (L, xs)) C (some .boolean) tQ_L_law (183, lwl i, .int (xs n) :: st, w)) (by omega) hi hL ((den_steps 4 rfl).trans (den_ck rfl)) rfl
theorem f_183 (hi : i + 6 ≤ L) (hL : L ≤ 3072) (st : List Value) (w : pW) : den (some (L, xs)) C (some .boolean) tQ_L_law (183, lwl i, st, w) = den (some (L, xs)) C (some .boolean) tQ_L_law (188, lwl i, .int (xs (i + 3)) :: st, w) := lw_f (k := 3) (f := fun n => den (some (L, xs)) C (some .boolean) tQ_L_law (188, lwl i, .int (xs n) :: st, w)) (by omega) hi hL ((den_steps 4 rfl).trans (den_ck rfl)) rfl
theorem f_188 (hi : i + 6 ≤ L) (hL : L ≤ 3072) (st : List Value) (w : pW) : den (some (L, xs)) C (some .boolean) tQ_L_law (188, lwl i, st, w) = den (some (L, xs)) C (some .boolean) tQ_L_law (193, lwl i, .int (xs (i + 4)) :: st, w) := lw_f (k := 4) (f := fun n => den (some (L, xs)) C (some .boolean) tQ_L_law (193, lwl i, .int (xs n) :: st, w)) (by omega) hi hL ((den_steps 4 rfl).trans (den_ck rfl)) rfl
theorem f_193 (hi : i + 6 ≤ L) (hL : L ≤ 3072) (st : List Value) (w : pW) : den (some (L, xs)) C (some .boolean) tQ_L_law (193, lwl i, st, w) = den (some (L, xs)) C (some .boolean) tQ_L_law (198, lwl i, .int (xs (i + 5)) :: st, w) := lw_f (k := 5) (f := fun n => den (some (L, xs)) C (some .boolean) tQ_L_law (198, lwl i, .int (xs n) :: st, w)) (by omega) hi hL ((den_steps 4 rfl).trans (den_ck rfl)) rfl
theorem f_202 (hi : i + 6 ≤ L) (hL : L ≤ 3072) (st : List Value) (w : pW) : den (some (L, xs)) C (some .boolean) tQ_L_law (202, lwl i, st, w) = den (some (L, xs)) C (some .boolean) tQ_L_law (207, lwl i, .int (xs (i + 1)) :: st, w) := lw_f (k := 1) (f := fun n => den (some (L, xs)) C (some .boolean) tQ_L_law (207, lwl i, .int (xs n) :: st, w)) (by omega) hi hL ((den_steps 4 rfl).trans (den_ck rfl)) rfl
theorem f_207 (hi : i + 6 ≤ L) (hL : L ≤ 3072) (st : List Value) (w : pW) : den (some (L, xs)) C (some .boolean) tQ_L_law (207, lwl i, st, w) = den (some (L, xs)) C (some .boolean) tQ_L_law (212, lwl i, .int (xs (i + 2)) :: st, w) := lw_f (k := 2) (f := fun n => den (some (L, xs)) C (some .boolean) tQ_L_law (212, lwl i, .int (xs n) :: st, w)) (by omega) hi hL ((den_steps 4 rfl).trans (den_ck rfl)) rfl
theorem f_212 (hi : i + 6 ≤ L) (hL : L ≤ 3072) (st : List Value) (w : pW) : den (some (L, xs)) C (some .boolean) tQ_L_law (212, lwl i, st, w) = den (some (L, xs)) C (some .boolean) tQ_L_law (217, lwl i, .int (xs (i + 3)) :: st, w) := lw_f (k := 3) (f := fun n => den (some (L, xs)) C (some .boolean) tQ_L_law (217, lwl i, .int (xs n) :: st, w)) (by omega) hi hL ((den_steps 4 rfl).trans (den_ck rfl)) rfl
theorem f_217 (hi : i + 6 ≤ L) (hL : L ≤ 3072) (st : List Value) (w : pW) : den (some (L, xs)) C (some .boolean) tQ_L_law (217, lwl i, st, w) = den (some (L, xs)) C (some .boolean) tQ_L_law (222, lwl i, .int (xs (i + 4)) :: st, w) := lw_f (k := 4) (f := fun n => den (some (L, xs)) C (some .boolean) tQ_L_law (222, lwl i, .int (xs n) :: st, w)) (by omega) hi hL ((den_steps 4 rfl).trans (den_ck rfl)) rfl
theorem f_222 (hi : i + 6 ≤ L) (hL : L ≤ 3072) (st : List Value) (w : pW) : den (some (L, xs)) C (some .boolean) tQ_L_law (222, lwl i, st, w) = den (some (L, xs)) C (some .boolean) tQ_L_law (227, lwl i, .int (xs (i + 5)) :: st, w) := lw_f (k := 5) (f := fun n => den (some (L, xs)) C (some .boolean) tQ_L_law (227, lwl i, .int (xs n) :: st, w)) (by omega) hi hL ((den_steps 4 rfl).trans (den_ck rfl)) rfl
theorem lw_0 {I I1 : Nat → Nat → Int32} {J J1 : Nat → Nat → Int64} {R R1 : Nat → Nat → Option Nat} {w2 : pW} (hi : i + 6 ≤ L) (hL : L ≤ 3072) {v : Int32} (h1 : C 106 [.ref 0, .int (xs (i + 1)), .int (xs (i + 2)), .int (xs (i + 3)), .int (xs (i + 4)), .int (xs (i + 5))] (176, I, J, R) = some (some (.int v), (176, I1, J1, R1))) (h2 : C 163 [.ref 140, .int (xs (i + 1)), .int (xs (i + 2)), .int (xs (i + 3)), .int (xs (i + 4)), .int (xs (i + 5))] (176, I1, J1, R1) = some (some (.int v), w2)) : den (some (L, xs)) C (some .boolean) tQ_L_law (172, lwl i, [], 176, I, J, R) = den (some (L, xs)) C (some .boolean) tQ_L_law (1107, lwl i, [], w2) := by
  refine Eq.trans (b := den (some (L, xs)) C (some .boolean) tQ_L_law (173, lwl i, [.ref 0], 176, I, J, R)) (den_steps 1 rfl) ?_
  refine (f_173 hi hL _ (176, I, J, R)).trans ?_
  refine (f_178 hi hL _ (176, I, J, R)).trans ?_
  refine (f_183 hi hL _ (176, I, J, R)).trans ?_
  refine (f_188 hi hL _ (176, I, J, R)).trans ?_
  refine (f_193 hi hL _ (176, I, J, R)).trans ?_
  refine Eq.trans (b := den (some (L, xs)) C (some .boolean) tQ_L_law (201, lwl i, [.int v], 176, I1, J1, R1)) (den_call (o := C 106 [.ref 0, .int (xs (i + 1)), .int (xs (i + 2)), .int (xs (i + 3)), .int (xs (i + 4)), .int (xs (i + 5))] (176, I, J, R)) (pc := 201) (L := lwl i) (st := []) rfl h1) ?_
  refine Eq.trans (b := den (some (L, xs)) C (some .boolean) tQ_L_law (202, lwl i, [.ref 140, .int v], 176, I1, J1, R1)) (den_steps 1 rfl) ?_
  refine (f_202 hi hL _ (176, I1, J1, R1)).trans ?_
  refine (f_207 hi hL _ (176, I1, J1, R1)).trans ?_
  refine (f_212 hi hL _ (176, I1, J1, R1)).trans ?_
  refine (f_217 hi hL _ (176, I1, J1, R1)).trans ?_
  refine (f_222 hi hL _ (176, I1, J1, R1)).trans ?_
  refine Eq.trans (b := den (some (L, xs)) C (some .boolean) tQ_L_law (230, lwl i, [.int v, .int v], w2)) (den_call (o := C 163 [.ref 140, .int (xs (i + 1)), .int (xs (i + 2)), .int (xs (i + 3)), .int (xs (i + 4)), .int (xs (i + 5))] (176, I1, J1, R1)) (pc := 230) (L := lwl i) (st := [.int v]) rfl h2) ?_
  exact Eq.trans (den_br (c := v = v) (f1 := (1107, lwl i, [], w2)) (f2 := (233, lwl i, [], w2)) rfl) (if_pos rfl)
theorem f_236 (hi : i + 6 ≤ L) (hL : L ≤ 3072) (st : List Value) (w : pW) : den (some (L, xs)) C (some .boolean) tQ_L_law (236, lwl i, st, w) = den (some (L, xs)) C (some .boolean) tQ_L_law (241, lwl i, .int (xs (i + 1)) :: st, w) := lw_f (k := 1) (f := fun n => den (some (L, xs)) C (some .boolean) tQ_L_law (241, lwl i, .int (xs n) :: st, w)) (by omega) hi hL ((den_steps 4 rfl).trans (den_ck rfl)) rfl
theorem f_245 (hi : i + 6 ≤ L) (hL : L ≤ 3072) (st : List Value) (w : pW) : den (some (L, xs)) C (some .boolean) tQ_L_law (245, lwl i, st, w) = den (some (L, xs)) C (some .boolean) tQ_L_law (250, lwl i, .int (xs (i + 1)) :: st, w) := lw_f (k := 1) (f := fun n => den (some (L, xs)) C (some .boolean) tQ_L_law (250, lwl i, .int (xs n) :: st, w)) (by omega) hi hL ((den_steps 4 rfl).trans (den_ck rfl)) rfl
theorem lw_1 {I I1 : Nat → Nat → Int32} {J J1 : Nat → Nat → Int64} {R R1 : Nat → Nat → Option Nat} {w2 : pW} (hi : i + 6 ≤ L) (hL : L ≤ 3072) {v : Int32} (h1 : C 107 [.ref 0, .int (xs (i + 1))] (176, I, J, R) = some (some (.int v), (176, I1, J1, R1))) (h2 : C 165 [.ref 140, .int (xs (i + 1))] (176, I1, J1, R1) = some (some (.int v), w2)) : den (some (L, xs)) C (some .boolean) tQ_L_law (235, lwl i, [], 176, I, J, R) = den (some (L, xs)) C (some .boolean) tQ_L_law (1107, lwl i, [], w2) := by
  refine Eq.trans (b := den (some (L, xs)) C (some .boolean) tQ_L_law (236, lwl i, [.ref 0], 176, I, J, R)) (den_steps 1 rfl) ?_
  refine (f_236 hi hL _ (176, I, J, R)).trans ?_
  refine Eq.trans (b := den (some (L, xs)) C (some .boolean) tQ_L_law (244, lwl i, [.int v], 176, I1, J1, R1)) (den_call (o := C 107 [.ref 0, .int (xs (i + 1))] (176, I, J, R)) (pc := 244) (L := lwl i) (st := []) rfl h1) ?_
  refine Eq.trans (b := den (some (L, xs)) C (some .boolean) tQ_L_law (245, lwl i, [.ref 140, .int v], 176, I1, J1, R1)) (den_steps 1 rfl) ?_
  refine (f_245 hi hL _ (176, I1, J1, R1)).trans ?_
  refine Eq.trans (b := den (some (L, xs)) C (some .boolean) tQ_L_law (253, lwl i, [.int v, .int v], w2)) (den_call (o := C 165 [.ref 140, .int (xs (i + 1))] (176, I1, J1, R1)) (pc := 253) (L := lwl i) (st := [.int v]) rfl h2) ?_
  exact Eq.trans (den_br (c := v = v) (f1 := (1107, lwl i, [], w2)) (f2 := (256, lwl i, [], w2)) rfl) (if_pos rfl)
theorem lw_2 {I I1 : Nat → Nat → Int32} {J J1 : Nat → Nat → Int64} {R R1 : Nat → Nat → Option Nat} {w2 : pW} (hi : i + 6 ≤ L) (hL : L ≤ 3072) {v : Int32} (h1 : C 108 [.ref 0] (176, I, J, R) = some (some (.int v), (176, I1, J1, R1))) (h2 : C 166 [.ref 140] (176, I1, J1, R1) = some (some (.int v), w2)) : den (some (L, xs)) C (some .boolean) tQ_L_law (258, lwl i, [], 176, I, J, R) = den (some (L, xs)) C (some .boolean) tQ_L_law (1107, lwl i, [], w2) := by
  refine Eq.trans (b := den (some (L, xs)) C (some .boolean) tQ_L_law (259, lwl i, [.ref 0], 176, I, J, R)) (den_steps 1 rfl) ?_
  refine Eq.trans (b := den (some (L, xs)) C (some .boolean) tQ_L_law (262, lwl i, [.int v], 176, I1, J1, R1)) (den_call (o := C 108 [.ref 0] (176, I, J, R)) (pc := 262) (L := lwl i) (st := []) rfl h1) ?_
  refine Eq.trans (b := den (some (L, xs)) C (some .boolean) tQ_L_law (263, lwl i, [.ref 140, .int v], 176, I1, J1, R1)) (den_steps 1 rfl) ?_
  refine Eq.trans (b := den (some (L, xs)) C (some .boolean) tQ_L_law (266, lwl i, [.int v, .int v], w2)) (den_call (o := C 166 [.ref 140] (176, I1, J1, R1)) (pc := 266) (L := lwl i) (st := [.int v]) rfl h2) ?_
  exact Eq.trans (den_br (c := v = v) (f1 := (1107, lwl i, [], w2)) (f2 := (269, lwl i, [], w2)) rfl) (if_pos rfl)
theorem f_272 (hi : i + 6 ≤ L) (hL : L ≤ 3072) (st : List Value) (w : pW) : den (some (L, xs)) C (some .boolean) tQ_L_law (272, lwl i, st, w) = den (some (L, xs)) C (some .boolean) tQ_L_law (277, lwl i, .int (xs (i + 1)) :: st, w) := lw_f (k := 1) (f := fun n => den (some (L, xs)) C (some .boolean) tQ_L_law (277, lwl i, .int (xs n) :: st, w)) (by omega) hi hL ((den_steps 4 rfl).trans (den_ck rfl)) rfl
theorem f_281 (hi : i + 6 ≤ L) (hL : L ≤ 3072) (st : List Value) (w : pW) : den (some (L, xs)) C (some .boolean) tQ_L_law (281, lwl i, st, w) = den (some (L, xs)) C (some .boolean) tQ_L_law (286, lwl i, .int (xs (i + 1)) :: st, w) := lw_f (k := 1) (f := fun n => den (some (L, xs)) C (some .boolean) tQ_L_law (286, lwl i, .int (xs n) :: st, w)) (by omega) hi hL ((den_steps 4 rfl).trans (den_ck rfl)) rfl
theorem lw_3 {I I1 : Nat → Nat → Int32} {J J1 : Nat → Nat → Int64} {R R1 : Nat → Nat → Option Nat} {w2 : pW} (hi : i + 6 ≤ L) (hL : L ≤ 3072) {v : Int32} (h1 : C 109 [.ref 0, .int (xs (i + 1))] (176, I, J, R) = some (some (.int v), (176, I1, J1, R1))) (h2 : C 167 [.ref 140, .int (xs (i + 1))] (176, I1, J1, R1) = some (some (.int v), w2)) : den (some (L, xs)) C (some .boolean) tQ_L_law (271, lwl i, [], 176, I, J, R) = den (some (L, xs)) C (some .boolean) tQ_L_law (1107, lwl i, [], w2) := by
  refine Eq.trans (b := den (some (L, xs)) C (some .boolean) tQ_L_law (272, lwl i, [.ref 0], 176, I, J, R)) (den_steps 1 rfl) ?_
  refine (f_272 hi hL _ (176, I, J, R)).trans ?_
  refine Eq.trans (b := den (some (L, xs)) C (some .boolean) tQ_L_law (280, lwl i, [.int v], 176, I1, J1, R1)) (den_call (o := C 109 [.ref 0, .int (xs (i + 1))] (176, I, J, R)) (pc := 280) (L := lwl i) (st := []) rfl h1) ?_
  refine Eq.trans (b := den (some (L, xs)) C (some .boolean) tQ_L_law (281, lwl i, [.ref 140, .int v], 176, I1, J1, R1)) (den_steps 1 rfl) ?_
  refine (f_281 hi hL _ (176, I1, J1, R1)).trans ?_
  refine Eq.trans (b := den (some (L, xs)) C (some .boolean) tQ_L_law (289, lwl i, [.int v, .int v], w2)) (den_call (o := C 167 [.ref 140, .int (xs (i + 1))] (176, I1, J1, R1)) (pc := 289) (L := lwl i) (st := [.int v]) rfl h2) ?_
  exact Eq.trans (den_br (c := v = v) (f1 := (1107, lwl i, [], w2)) (f2 := (292, lwl i, [], w2)) rfl) (if_pos rfl)
theorem f_295 (hi : i + 6 ≤ L) (hL : L ≤ 3072) (st : List Value) (w : pW) : den (some (L, xs)) C (some .boolean) tQ_L_law (295, lwl i, st, w) = den (some (L, xs)) C (some .boolean) tQ_L_law (300, lwl i, .int (xs (i + 1)) :: st, w) := lw_f (k := 1) (f := fun n => den (some (L, xs)) C (some .boolean) tQ_L_law (300, lwl i, .int (xs n) :: st, w)) (by omega) hi hL ((den_steps 4 rfl).trans (den_ck rfl)) rfl
theorem f_304 (hi : i + 6 ≤ L) (hL : L ≤ 3072) (st : List Value) (w : pW) : den (some (L, xs)) C (some .boolean) tQ_L_law (304, lwl i, st, w) = den (some (L, xs)) C (some .boolean) tQ_L_law (309, lwl i, .int (xs (i + 1)) :: st, w) := lw_f (k := 1) (f := fun n => den (some (L, xs)) C (some .boolean) tQ_L_law (309, lwl i, .int (xs n) :: st, w)) (by omega) hi hL ((den_steps 4 rfl).trans (den_ck rfl)) rfl
theorem lw_4 {I I1 : Nat → Nat → Int32} {J J1 : Nat → Nat → Int64} {R R1 : Nat → Nat → Option Nat} {w2 : pW} (hi : i + 6 ≤ L) (hL : L ≤ 3072) {v : Int32} (h1 : C 110 [.ref 0, .int (xs (i + 1))] (176, I, J, R) = some (some (.int v), (176, I1, J1, R1))) (h2 : C 168 [.ref 140, .int (xs (i + 1))] (176, I1, J1, R1) = some (some (.int v), w2)) : den (some (L, xs)) C (some .boolean) tQ_L_law (294, lwl i, [], 176, I, J, R) = den (some (L, xs)) C (some .boolean) tQ_L_law (1107, lwl i, [], w2) := by
  refine Eq.trans (b := den (some (L, xs)) C (some .boolean) tQ_L_law (295, lwl i, [.ref 0], 176, I, J, R)) (den_steps 1 rfl) ?_
  refine (f_295 hi hL _ (176, I, J, R)).trans ?_
  refine Eq.trans (b := den (some (L, xs)) C (some .boolean) tQ_L_law (303, lwl i, [.int v], 176, I1, J1, R1)) (den_call (o := C 110 [.ref 0, .int (xs (i + 1))] (176, I, J, R)) (pc := 303) (L := lwl i) (st := []) rfl h1) ?_
  refine Eq.trans (b := den (some (L, xs)) C (some .boolean) tQ_L_law (304, lwl i, [.ref 140, .int v], 176, I1, J1, R1)) (den_steps 1 rfl) ?_
  refine (f_304 hi hL _ (176, I1, J1, R1)).trans ?_
  refine Eq.trans (b := den (some (L, xs)) C (some .boolean) tQ_L_law (312, lwl i, [.int v, .int v], w2)) (den_call (o := C 168 [.ref 140, .int (xs (i + 1))] (176, I1, J1, R1)) (pc := 312) (L := lwl i) (st := [.int v]) rfl h2) ?_
  exact Eq.trans (den_br (c := v = v) (f1 := (1107, lwl i, [], w2)) (f2 := (315, lwl i, [], w2)) rfl) (if_pos rfl)
theorem f_318 (hi : i + 6 ≤ L) (hL : L ≤ 3072) (st : List Value) (w : pW) : den (some (L, xs)) C (some .boolean) tQ_L_law (318, lwl i, st, w) = den (some (L, xs)) C (some .boolean) tQ_L_law (323, lwl i, .int (xs (i + 1)) :: st, w) := lw_f (k := 1) (f := fun n => den (some (L, xs)) C (some .boolean) tQ_L_law (323, lwl i, .int (xs n) :: st, w)) (by omega) hi hL ((den_steps 4 rfl).trans (den_ck rfl)) rfl
theorem f_323 (hi : i + 6 ≤ L) (hL : L ≤ 3072) (st : List Value) (w : pW) : den (some (L, xs)) C (some .boolean) tQ_L_law (323, lwl i, st, w) = den (some (L, xs)) C (some .boolean) tQ_L_law (328, lwl i, .int (xs (i + 2)) :: st, w) := lw_f (k := 2) (f := fun n => den (some (L, xs)) C (some .boolean) tQ_L_law (328, lwl i, .int (xs n) :: st, w)) (by omega) hi hL ((den_steps 4 rfl).trans (den_ck rfl)) rfl
theorem f_332 (hi : i + 6 ≤ L) (hL : L ≤ 3072) (st : List Value) (w : pW) : den (some (L, xs)) C (some .boolean) tQ_L_law (332, lwl i, st, w) = den (some (L, xs)) C (some .boolean) tQ_L_law (337, lwl i, .int (xs (i + 1)) :: st, w) := lw_f (k := 1) (f := fun n => den (some (L, xs)) C (some .boolean) tQ_L_law (337, lwl i, .int (xs n) :: st, w)) (by omega) hi hL ((den_steps 4 rfl).trans (den_ck rfl)) rfl
theorem f_337 (hi : i + 6 ≤ L) (hL : L ≤ 3072) (st : List Value) (w : pW) : den (some (L, xs)) C (some .boolean) tQ_L_law (337, lwl i, st, w) = den (some (L, xs)) C (some .boolean) tQ_L_law (342, lwl i, .int (xs (i + 2)) :: st, w) := lw_f (k := 2) (f := fun n => den (some (L, xs)) C (some .boolean) tQ_L_law (342, lwl i, .int (xs n) :: st, w)) (by omega) hi hL ((den_steps 4 rfl).trans (den_ck rfl)) rfl
theorem lw_5 {I I1 : Nat → Nat → Int32} {J J1 : Nat → Nat → Int64} {R R1 : Nat → Nat → Option Nat} {w2 : pW} (hi : i + 6 ≤ L) (hL : L ≤ 3072) {v : Int32} (h1 : C 111 [.ref 0, .int (xs (i + 1)), .int (xs (i + 2))] (176, I, J, R) = some (some (.int v), (176, I1, J1, R1))) (h2 : C 169 [.ref 140, .int (xs (i + 1)), .int (xs (i + 2))] (176, I1, J1, R1) = some (some (.int v), w2)) : den (some (L, xs)) C (some .boolean) tQ_L_law (317, lwl i, [], 176, I, J, R) = den (some (L, xs)) C (some .boolean) tQ_L_law (1107, lwl i, [], w2) := by
  refine Eq.trans (b := den (some (L, xs)) C (some .boolean) tQ_L_law (318, lwl i, [.ref 0], 176, I, J, R)) (den_steps 1 rfl) ?_
  refine (f_318 hi hL _ (176, I, J, R)).trans ?_
  refine (f_323 hi hL _ (176, I, J, R)).trans ?_
  refine Eq.trans (b := den (some (L, xs)) C (some .boolean) tQ_L_law (331, lwl i, [.int v], 176, I1, J1, R1)) (den_call (o := C 111 [.ref 0, .int (xs (i + 1)), .int (xs (i + 2))] (176, I, J, R)) (pc := 331) (L := lwl i) (st := []) rfl h1) ?_
  refine Eq.trans (b := den (some (L, xs)) C (some .boolean) tQ_L_law (332, lwl i, [.ref 140, .int v], 176, I1, J1, R1)) (den_steps 1 rfl) ?_
  refine (f_332 hi hL _ (176, I1, J1, R1)).trans ?_
  refine (f_337 hi hL _ (176, I1, J1, R1)).trans ?_
  refine Eq.trans (b := den (some (L, xs)) C (some .boolean) tQ_L_law (345, lwl i, [.int v, .int v], w2)) (den_call (o := C 169 [.ref 140, .int (xs (i + 1)), .int (xs (i + 2))] (176, I1, J1, R1)) (pc := 345) (L := lwl i) (st := [.int v]) rfl h2) ?_
  exact Eq.trans (den_br (c := v = v) (f1 := (1107, lwl i, [], w2)) (f2 := (348, lwl i, [], w2)) rfl) (if_pos rfl)
theorem f_351 (hi : i + 6 ≤ L) (hL : L ≤ 3072) (st : List Value) (w : pW) : den (some (L, xs)) C (some .boolean) tQ_L_law (351, lwl i, st, w) = den (some (L, xs)) C (some .boolean) tQ_L_law (356, lwl i, .int (xs (i + 1)) :: st, w) := lw_f (k := 1) (f := fun n => den (some (L, xs)) C (some .boolean) tQ_L_law (356, lwl i, .int (xs n) :: st, w)) (by omega) hi hL ((den_steps 4 rfl).trans (den_ck rfl)) rfl
theorem f_360 (hi : i + 6 ≤ L) (hL : L ≤ 3072) (st : List Value) (w : pW) : den (some (L, xs)) C (some .boolean) tQ_L_law (360, lwl i, st, w) = den (some (L, xs)) C (some .boolean) tQ_L_law (365, lwl i, .int (xs (i + 1)) :: st, w) := lw_f (k := 1) (f := fun n => den (some (L, xs)) C (some .boolean) tQ_L_law (365, lwl i, .int (xs n) :: st, w)) (by omega) hi hL ((den_steps 4 rfl).trans (den_ck rfl)) rfl
theorem lw_6 {I I1 : Nat → Nat → Int32} {J J1 : Nat → Nat → Int64} {R R1 : Nat → Nat → Option Nat} {w2 : pW} (hi : i + 6 ≤ L) (hL : L ≤ 3072) {v : Int32} (h1 : C 112 [.ref 0, .int (xs (i + 1))] (176, I, J, R) = some (some (.int v), (176, I1, J1, R1))) (h2 : C 176 [.ref 140, .int (xs (i + 1))] (176, I1, J1, R1) = some (some (.int v), w2)) : den (some (L, xs)) C (some .boolean) tQ_L_law (350, lwl i, [], 176, I, J, R) = den (some (L, xs)) C (some .boolean) tQ_L_law (1107, lwl i, [], w2) := by
  refine Eq.trans (b := den (some (L, xs)) C (some .boolean) tQ_L_law (351, lwl i, [.ref 0], 176, I, J, R)) (den_steps 1 rfl) ?_
  refine (f_351 hi hL _ (176, I, J, R)).trans ?_
  refine Eq.trans (b := den (some (L, xs)) C (some .boolean) tQ_L_law (359, lwl i, [.int v], 176, I1, J1, R1)) (den_call (o := C 112 [.ref 0, .int (xs (i + 1))] (176, I, J, R)) (pc := 359) (L := lwl i) (st := []) rfl h1) ?_
  refine Eq.trans (b := den (some (L, xs)) C (some .boolean) tQ_L_law (360, lwl i, [.ref 140, .int v], 176, I1, J1, R1)) (den_steps 1 rfl) ?_
  refine (f_360 hi hL _ (176, I1, J1, R1)).trans ?_
  refine Eq.trans (b := den (some (L, xs)) C (some .boolean) tQ_L_law (368, lwl i, [.int v, .int v], w2)) (den_call (o := C 176 [.ref 140, .int (xs (i + 1))] (176, I1, J1, R1)) (pc := 368) (L := lwl i) (st := [.int v]) rfl h2) ?_
  exact Eq.trans (den_br (c := v = v) (f1 := (1107, lwl i, [], w2)) (f2 := (371, lwl i, [], w2)) rfl) (if_pos rfl)
theorem f_374 (hi : i + 6 ≤ L) (hL : L ≤ 3072) (st : List Value) (w : pW) : den (some (L, xs)) C (some .boolean) tQ_L_law (374, lwl i, st, w) = den (some (L, xs)) C (some .boolean) tQ_L_law (379, lwl i, .int (xs (i + 1)) :: st, w) := lw_f (k := 1) (f := fun n => den (some (L, xs)) C (some .boolean) tQ_L_law (379, lwl i, .int (xs n) :: st, w)) (by omega) hi hL ((den_steps 4 rfl).trans (den_ck rfl)) rfl
theorem f_379 (hi : i + 6 ≤ L) (hL : L ≤ 3072) (st : List Value) (w : pW) : den (some (L, xs)) C (some .boolean) tQ_L_law (379, lwl i, st, w) = den (some (L, xs)) C (some .boolean) tQ_L_law (384, lwl i, .int (xs (i + 2)) :: st, w) := lw_f (k := 2) (f := fun n => den (some (L, xs)) C (some .boolean) tQ_L_law (384, lwl i, .int (xs n) :: st, w)) (by omega) hi hL ((den_steps 4 rfl).trans (den_ck rfl)) rfl
theorem f_388 (hi : i + 6 ≤ L) (hL : L ≤ 3072) (st : List Value) (w : pW) : den (some (L, xs)) C (some .boolean) tQ_L_law (388, lwl i, st, w) = den (some (L, xs)) C (some .boolean) tQ_L_law (393, lwl i, .int (xs (i + 1)) :: st, w) := lw_f (k := 1) (f := fun n => den (some (L, xs)) C (some .boolean) tQ_L_law (393, lwl i, .int (xs n) :: st, w)) (by omega) hi hL ((den_steps 4 rfl).trans (den_ck rfl)) rfl
theorem f_393 (hi : i + 6 ≤ L) (hL : L ≤ 3072) (st : List Value) (w : pW) : den (some (L, xs)) C (some .boolean) tQ_L_law (393, lwl i, st, w) = den (some (L, xs)) C (some .boolean) tQ_L_law (398, lwl i, .int (xs (i + 2)) :: st, w) := lw_f (k := 2) (f := fun n => den (some (L, xs)) C (some .boolean) tQ_L_law (398, lwl i, .int (xs n) :: st, w)) (by omega) hi hL ((den_steps 4 rfl).trans (den_ck rfl)) rfl
theorem lw_7 {I I1 : Nat → Nat → Int32} {J J1 : Nat → Nat → Int64} {R R1 : Nat → Nat → Option Nat} {w2 : pW} (hi : i + 6 ≤ L) (hL : L ≤ 3072) {v : Int32} (h1 : C 113 [.ref 0, .int (xs (i + 1)), .int (xs (i + 2))] (176, I, J, R) = some (some (.int v), (176, I1, J1, R1))) (h2 : C 177 [.ref 140, .int (xs (i + 1)), .int (xs (i + 2))] (176, I1, J1, R1) = some (some (.int v), w2)) : den (some (L, xs)) C (some .boolean) tQ_L_law (373, lwl i, [], 176, I, J, R) = den (some (L, xs)) C (some .boolean) tQ_L_law (1107, lwl i, [], w2) := by
  refine Eq.trans (b := den (some (L, xs)) C (some .boolean) tQ_L_law (374, lwl i, [.ref 0], 176, I, J, R)) (den_steps 1 rfl) ?_
  refine (f_374 hi hL _ (176, I, J, R)).trans ?_
  refine (f_379 hi hL _ (176, I, J, R)).trans ?_
  refine Eq.trans (b := den (some (L, xs)) C (some .boolean) tQ_L_law (387, lwl i, [.int v], 176, I1, J1, R1)) (den_call (o := C 113 [.ref 0, .int (xs (i + 1)), .int (xs (i + 2))] (176, I, J, R)) (pc := 387) (L := lwl i) (st := []) rfl h1) ?_
  refine Eq.trans (b := den (some (L, xs)) C (some .boolean) tQ_L_law (388, lwl i, [.ref 140, .int v], 176, I1, J1, R1)) (den_steps 1 rfl) ?_
  refine (f_388 hi hL _ (176, I1, J1, R1)).trans ?_
  refine (f_393 hi hL _ (176, I1, J1, R1)).trans ?_
  refine Eq.trans (b := den (some (L, xs)) C (some .boolean) tQ_L_law (401, lwl i, [.int v, .int v], w2)) (den_call (o := C 177 [.ref 140, .int (xs (i + 1)), .int (xs (i + 2))] (176, I1, J1, R1)) (pc := 401) (L := lwl i) (st := [.int v]) rfl h2) ?_
  exact Eq.trans (den_br (c := v = v) (f1 := (1107, lwl i, [], w2)) (f2 := (404, lwl i, [], w2)) rfl) (if_pos rfl)
theorem f_407 (hi : i + 6 ≤ L) (hL : L ≤ 3072) (st : List Value) (w : pW) : den (some (L, xs)) C (some .boolean) tQ_L_law (407, lwl i, st, w) = den (some (L, xs)) C (some .boolean) tQ_L_law (412, lwl i, .int (xs (i + 1)) :: st, w) := lw_f (k := 1) (f := fun n => den (some (L, xs)) C (some .boolean) tQ_L_law (412, lwl i, .int (xs n) :: st, w)) (by omega) hi hL ((den_steps 4 rfl).trans (den_ck rfl)) rfl
theorem f_412 (hi : i + 6 ≤ L) (hL : L ≤ 3072) (st : List Value) (w : pW) : den (some (L, xs)) C (some .boolean) tQ_L_law (412, lwl i, st, w) = den (some (L, xs)) C (some .boolean) tQ_L_law (417, lwl i, .int (xs (i + 2)) :: st, w) := lw_f (k := 2) (f := fun n => den (some (L, xs)) C (some .boolean) tQ_L_law (417, lwl i, .int (xs n) :: st, w)) (by omega) hi hL ((den_steps 4 rfl).trans (den_ck rfl)) rfl
theorem f_421 (hi : i + 6 ≤ L) (hL : L ≤ 3072) (st : List Value) (w : pW) : den (some (L, xs)) C (some .boolean) tQ_L_law (421, lwl i, st, w) = den (some (L, xs)) C (some .boolean) tQ_L_law (426, lwl i, .int (xs (i + 1)) :: st, w) := lw_f (k := 1) (f := fun n => den (some (L, xs)) C (some .boolean) tQ_L_law (426, lwl i, .int (xs n) :: st, w)) (by omega) hi hL ((den_steps 4 rfl).trans (den_ck rfl)) rfl
theorem f_426 (hi : i + 6 ≤ L) (hL : L ≤ 3072) (st : List Value) (w : pW) : den (some (L, xs)) C (some .boolean) tQ_L_law (426, lwl i, st, w) = den (some (L, xs)) C (some .boolean) tQ_L_law (431, lwl i, .int (xs (i + 2)) :: st, w) := lw_f (k := 2) (f := fun n => den (some (L, xs)) C (some .boolean) tQ_L_law (431, lwl i, .int (xs n) :: st, w)) (by omega) hi hL ((den_steps 4 rfl).trans (den_ck rfl)) rfl
theorem lw_8 {I I1 : Nat → Nat → Int32} {J J1 : Nat → Nat → Int64} {R R1 : Nat → Nat → Option Nat} {w2 : pW} (hi : i + 6 ≤ L) (hL : L ≤ 3072) {v : Int32} (h1 : C 114 [.ref 0, .int (xs (i + 1)), .int (xs (i + 2))] (176, I, J, R) = some (some (.int v), (176, I1, J1, R1))) (h2 : C 178 [.ref 140, .int (xs (i + 1)), .int (xs (i + 2))] (176, I1, J1, R1) = some (some (.int v), w2)) : den (some (L, xs)) C (some .boolean) tQ_L_law (406, lwl i, [], 176, I, J, R) = den (some (L, xs)) C (some .boolean) tQ_L_law (1107, lwl i, [], w2) := by
  refine Eq.trans (b := den (some (L, xs)) C (some .boolean) tQ_L_law (407, lwl i, [.ref 0], 176, I, J, R)) (den_steps 1 rfl) ?_
  refine (f_407 hi hL _ (176, I, J, R)).trans ?_
  refine (f_412 hi hL _ (176, I, J, R)).trans ?_
  refine Eq.trans (b := den (some (L, xs)) C (some .boolean) tQ_L_law (420, lwl i, [.int v], 176, I1, J1, R1)) (den_call (o := C 114 [.ref 0, .int (xs (i + 1)), .int (xs (i + 2))] (176, I, J, R)) (pc := 420) (L := lwl i) (st := []) rfl h1) ?_
  refine Eq.trans (b := den (some (L, xs)) C (some .boolean) tQ_L_law (421, lwl i, [.ref 140, .int v], 176, I1, J1, R1)) (den_steps 1 rfl) ?_
  refine (f_421 hi hL _ (176, I1, J1, R1)).trans ?_
  refine (f_426 hi hL _ (176, I1, J1, R1)).trans ?_
  refine Eq.trans (b := den (some (L, xs)) C (some .boolean) tQ_L_law (434, lwl i, [.int v, .int v], w2)) (den_call (o := C 178 [.ref 140, .int (xs (i + 1)), .int (xs (i + 2))] (176, I1, J1, R1)) (pc := 434) (L := lwl i) (st := [.int v]) rfl h2) ?_
  exact Eq.trans (den_br (c := v = v) (f1 := (1107, lwl i, [], w2)) (f2 := (437, lwl i, [], w2)) rfl) (if_pos rfl)
theorem f_440 (hi : i + 6 ≤ L) (hL : L ≤ 3072) (st : List Value) (w : pW) : den (some (L, xs)) C (some .boolean) tQ_L_law (440, lwl i, st, w) = den (some (L, xs)) C (some .boolean) tQ_L_law (445, lwl i, .int (xs (i + 1)) :: st, w) := lw_f (k := 1) (f := fun n => den (some (L, xs)) C (some .boolean) tQ_L_law (445, lwl i, .int (xs n) :: st, w)) (by omega) hi hL ((den_steps 4 rfl).trans (den_ck rfl)) rfl
theorem f_449 (hi : i + 6 ≤ L) (hL : L ≤ 3072) (st : List Value) (w : pW) : den (some (L, xs)) C (some .boolean) tQ_L_law (449, lwl i, st, w) = den (some (L, xs)) C (some .boolean) tQ_L_law (454, lwl i, .int (xs (i + 1)) :: st, w) := lw_f (k := 1) (f := fun n => den (some (L, xs)) C (some .boolean) tQ_L_law (454, lwl i, .int (xs n) :: st, w)) (by omega) hi hL ((den_steps 4 rfl).trans (den_ck rfl)) rfl
theorem lw_9 {I I1 : Nat → Nat → Int32} {J J1 : Nat → Nat → Int64} {R R1 : Nat → Nat → Option Nat} {w2 : pW} (hi : i + 6 ≤ L) (hL : L ≤ 3072) {v : Int32} (h1 : C 115 [.ref 0, .int (xs (i + 1))] (176, I, J, R) = some (some (.int v), (176, I1, J1, R1))) (h2 : C 179 [.ref 140, .int (xs (i + 1))] (176, I1, J1, R1) = some (some (.int v), w2)) : den (some (L, xs)) C (some .boolean) tQ_L_law (439, lwl i, [], 176, I, J, R) = den (some (L, xs)) C (some .boolean) tQ_L_law (1107, lwl i, [], w2) := by
  refine Eq.trans (b := den (some (L, xs)) C (some .boolean) tQ_L_law (440, lwl i, [.ref 0], 176, I, J, R)) (den_steps 1 rfl) ?_
  refine (f_440 hi hL _ (176, I, J, R)).trans ?_
  refine Eq.trans (b := den (some (L, xs)) C (some .boolean) tQ_L_law (448, lwl i, [.int v], 176, I1, J1, R1)) (den_call (o := C 115 [.ref 0, .int (xs (i + 1))] (176, I, J, R)) (pc := 448) (L := lwl i) (st := []) rfl h1) ?_
  refine Eq.trans (b := den (some (L, xs)) C (some .boolean) tQ_L_law (449, lwl i, [.ref 140, .int v], 176, I1, J1, R1)) (den_steps 1 rfl) ?_
  refine (f_449 hi hL _ (176, I1, J1, R1)).trans ?_
  refine Eq.trans (b := den (some (L, xs)) C (some .boolean) tQ_L_law (457, lwl i, [.int v, .int v], w2)) (den_call (o := C 179 [.ref 140, .int (xs (i + 1))] (176, I1, J1, R1)) (pc := 457) (L := lwl i) (st := [.int v]) rfl h2) ?_
  exact Eq.trans (den_br (c := v = v) (f1 := (1107, lwl i, [], w2)) (f2 := (460, lwl i, [], w2)) rfl) (if_pos rfl)
theorem f_463 (hi : i + 6 ≤ L) (hL : L ≤ 3072) (st : List Value) (w : pW) : den (some (L, xs)) C (some .boolean) tQ_L_law (463, lwl i, st, w) = den (some (L, xs)) C (some .boolean) tQ_L_law (468, lwl i, .int (xs (i + 1)) :: st, w) := lw_f (k := 1) (f := fun n => den (some (L, xs)) C (some .boolean) tQ_L_law (468, lwl i, .int (xs n) :: st, w)) (by omega) hi hL ((den_steps 4 rfl).trans (den_ck rfl)) rfl
theorem f_468 (hi : i + 6 ≤ L) (hL : L ≤ 3072) (st : List Value) (w : pW) : den (some (L, xs)) C (some .boolean) tQ_L_law (468, lwl i, st, w) = den (some (L, xs)) C (some .boolean) tQ_L_law (473, lwl i, .int (xs (i + 2)) :: st, w) := lw_f (k := 2) (f := fun n => den (some (L, xs)) C (some .boolean) tQ_L_law (473, lwl i, .int (xs n) :: st, w)) (by omega) hi hL ((den_steps 4 rfl).trans (den_ck rfl)) rfl
theorem f_473 (hi : i + 6 ≤ L) (hL : L ≤ 3072) (st : List Value) (w : pW) : den (some (L, xs)) C (some .boolean) tQ_L_law (473, lwl i, st, w) = den (some (L, xs)) C (some .boolean) tQ_L_law (478, lwl i, .int (xs (i + 3)) :: st, w) := lw_f (k := 3) (f := fun n => den (some (L, xs)) C (some .boolean) tQ_L_law (478, lwl i, .int (xs n) :: st, w)) (by omega) hi hL ((den_steps 4 rfl).trans (den_ck rfl)) rfl
theorem f_482 (hi : i + 6 ≤ L) (hL : L ≤ 3072) (st : List Value) (w : pW) : den (some (L, xs)) C (some .boolean) tQ_L_law (482, lwl i, st, w) = den (some (L, xs)) C (some .boolean) tQ_L_law (487, lwl i, .int (xs (i + 1)) :: st, w) := lw_f (k := 1) (f := fun n => den (some (L, xs)) C (some .boolean) tQ_L_law (487, lwl i, .int (xs n) :: st, w)) (by omega) hi hL ((den_steps 4 rfl).trans (den_ck rfl)) rfl
theorem f_487 (hi : i + 6 ≤ L) (hL : L ≤ 3072) (st : List Value) (w : pW) : den (some (L, xs)) C (some .boolean) tQ_L_law (487, lwl i, st, w) = den (some (L, xs)) C (some .boolean) tQ_L_law (492, lwl i, .int (xs (i + 2)) :: st, w) := lw_f (k := 2) (f := fun n => den (some (L, xs)) C (some .boolean) tQ_L_law (492, lwl i, .int (xs n) :: st, w)) (by omega) hi hL ((den_steps 4 rfl).trans (den_ck rfl)) rfl
theorem f_492 (hi : i + 6 ≤ L) (hL : L ≤ 3072) (st : List Value) (w : pW) : den (some (L, xs)) C (some .boolean) tQ_L_law (492, lwl i, st, w) = den (some (L, xs)) C (some .boolean) tQ_L_law (497, lwl i, .int (xs (i + 3)) :: st, w) := lw_f (k := 3) (f := fun n => den (some (L, xs)) C (some .boolean) tQ_L_law (497, lwl i, .int (xs n) :: st, w)) (by omega) hi hL ((den_steps 4 rfl).trans (den_ck rfl)) rfl
theorem lw_10 {I I1 : Nat → Nat → Int32} {J J1 : Nat → Nat → Int64} {R R1 : Nat → Nat → Option Nat} {w2 : pW} (hi : i + 6 ≤ L) (hL : L ≤ 3072) {v : Int32} (h1 : C 116 [.ref 0, .int (xs (i + 1)), .int (xs (i + 2)), .int (xs (i + 3))] (176, I, J, R) = some (some (.int v), (176, I1, J1, R1))) (h2 : C 181 [.ref 140, .int (xs (i + 1)), .int (xs (i + 2)), .int (xs (i + 3))] (176, I1, J1, R1) = some (some (.int v), w2)) : den (some (L, xs)) C (some .boolean) tQ_L_law (462, lwl i, [], 176, I, J, R) = den (some (L, xs)) C (some .boolean) tQ_L_law (1107, lwl i, [], w2) := by
  refine Eq.trans (b := den (some (L, xs)) C (some .boolean) tQ_L_law (463, lwl i, [.ref 0], 176, I, J, R)) (den_steps 1 rfl) ?_
  refine (f_463 hi hL _ (176, I, J, R)).trans ?_
  refine (f_468 hi hL _ (176, I, J, R)).trans ?_
  refine (f_473 hi hL _ (176, I, J, R)).trans ?_
  refine Eq.trans (b := den (some (L, xs)) C (some .boolean) tQ_L_law (481, lwl i, [.int v], 176, I1, J1, R1)) (den_call (o := C 116 [.ref 0, .int (xs (i + 1)), .int (xs (i + 2)), .int (xs (i + 3))] (176, I, J, R)) (pc := 481) (L := lwl i) (st := []) rfl h1) ?_
  refine Eq.trans (b := den (some (L, xs)) C (some .boolean) tQ_L_law (482, lwl i, [.ref 140, .int v], 176, I1, J1, R1)) (den_steps 1 rfl) ?_
  refine (f_482 hi hL _ (176, I1, J1, R1)).trans ?_
  refine (f_487 hi hL _ (176, I1, J1, R1)).trans ?_
  refine (f_492 hi hL _ (176, I1, J1, R1)).trans ?_
  refine Eq.trans (b := den (some (L, xs)) C (some .boolean) tQ_L_law (500, lwl i, [.int v, .int v], w2)) (den_call (o := C 181 [.ref 140, .int (xs (i + 1)), .int (xs (i + 2)), .int (xs (i + 3))] (176, I1, J1, R1)) (pc := 500) (L := lwl i) (st := [.int v]) rfl h2) ?_
  exact Eq.trans (den_br (c := v = v) (f1 := (1107, lwl i, [], w2)) (f2 := (503, lwl i, [], w2)) rfl) (if_pos rfl)
theorem f_506 (hi : i + 6 ≤ L) (hL : L ≤ 3072) (st : List Value) (w : pW) : den (some (L, xs)) C (some .boolean) tQ_L_law (506, lwl i, st, w) = den (some (L, xs)) C (some .boolean) tQ_L_law (511, lwl i, .int (xs (i + 1)) :: st, w) := lw_f (k := 1) (f := fun n => den (some (L, xs)) C (some .boolean) tQ_L_law (511, lwl i, .int (xs n) :: st, w)) (by omega) hi hL ((den_steps 4 rfl).trans (den_ck rfl)) rfl
theorem f_511 (hi : i + 6 ≤ L) (hL : L ≤ 3072) (st : List Value) (w : pW) : den (some (L, xs)) C (some .boolean) tQ_L_law (511, lwl i, st, w) = den (some (L, xs)) C (some .boolean) tQ_L_law (516, lwl i, .int (xs (i + 2)) :: st, w) := lw_f (k := 2) (f := fun n => den (some (L, xs)) C (some .boolean) tQ_L_law (516, lwl i, .int (xs n) :: st, w)) (by omega) hi hL ((den_steps 4 rfl).trans (den_ck rfl)) rfl
theorem f_520 (hi : i + 6 ≤ L) (hL : L ≤ 3072) (st : List Value) (w : pW) : den (some (L, xs)) C (some .boolean) tQ_L_law (520, lwl i, st, w) = den (some (L, xs)) C (some .boolean) tQ_L_law (525, lwl i, .int (xs (i + 1)) :: st, w) := lw_f (k := 1) (f := fun n => den (some (L, xs)) C (some .boolean) tQ_L_law (525, lwl i, .int (xs n) :: st, w)) (by omega) hi hL ((den_steps 4 rfl).trans (den_ck rfl)) rfl
theorem f_525 (hi : i + 6 ≤ L) (hL : L ≤ 3072) (st : List Value) (w : pW) : den (some (L, xs)) C (some .boolean) tQ_L_law (525, lwl i, st, w) = den (some (L, xs)) C (some .boolean) tQ_L_law (530, lwl i, .int (xs (i + 2)) :: st, w) := lw_f (k := 2) (f := fun n => den (some (L, xs)) C (some .boolean) tQ_L_law (530, lwl i, .int (xs n) :: st, w)) (by omega) hi hL ((den_steps 4 rfl).trans (den_ck rfl)) rfl
theorem lw_11 {I I1 : Nat → Nat → Int32} {J J1 : Nat → Nat → Int64} {R R1 : Nat → Nat → Option Nat} {w2 : pW} (hi : i + 6 ≤ L) (hL : L ≤ 3072) {v : Int32} (h1 : C 117 [.ref 0, .int (xs (i + 1)), .int (xs (i + 2))] (176, I, J, R) = some (some (.int v), (176, I1, J1, R1))) (h2 : C 188 [.ref 140, .int (xs (i + 1)), .int (xs (i + 2))] (176, I1, J1, R1) = some (some (.int v), w2)) : den (some (L, xs)) C (some .boolean) tQ_L_law (505, lwl i, [], 176, I, J, R) = den (some (L, xs)) C (some .boolean) tQ_L_law (1107, lwl i, [], w2) := by
  refine Eq.trans (b := den (some (L, xs)) C (some .boolean) tQ_L_law (506, lwl i, [.ref 0], 176, I, J, R)) (den_steps 1 rfl) ?_
  refine (f_506 hi hL _ (176, I, J, R)).trans ?_
  refine (f_511 hi hL _ (176, I, J, R)).trans ?_
  refine Eq.trans (b := den (some (L, xs)) C (some .boolean) tQ_L_law (519, lwl i, [.int v], 176, I1, J1, R1)) (den_call (o := C 117 [.ref 0, .int (xs (i + 1)), .int (xs (i + 2))] (176, I, J, R)) (pc := 519) (L := lwl i) (st := []) rfl h1) ?_
  refine Eq.trans (b := den (some (L, xs)) C (some .boolean) tQ_L_law (520, lwl i, [.ref 140, .int v], 176, I1, J1, R1)) (den_steps 1 rfl) ?_
  refine (f_520 hi hL _ (176, I1, J1, R1)).trans ?_
  refine (f_525 hi hL _ (176, I1, J1, R1)).trans ?_
  refine Eq.trans (b := den (some (L, xs)) C (some .boolean) tQ_L_law (533, lwl i, [.int v, .int v], w2)) (den_call (o := C 188 [.ref 140, .int (xs (i + 1)), .int (xs (i + 2))] (176, I1, J1, R1)) (pc := 533) (L := lwl i) (st := [.int v]) rfl h2) ?_
  exact Eq.trans (den_br (c := v = v) (f1 := (1107, lwl i, [], w2)) (f2 := (536, lwl i, [], w2)) rfl) (if_pos rfl)
theorem f_539 (hi : i + 6 ≤ L) (hL : L ≤ 3072) (st : List Value) (w : pW) : den (some (L, xs)) C (some .boolean) tQ_L_law (539, lwl i, st, w) = den (some (L, xs)) C (some .boolean) tQ_L_law (544, lwl i, .int (xs (i + 1)) :: st, w) := lw_f (k := 1) (f := fun n => den (some (L, xs)) C (some .boolean) tQ_L_law (544, lwl i, .int (xs n) :: st, w)) (by omega) hi hL ((den_steps 4 rfl).trans (den_ck rfl)) rfl
theorem f_544 (hi : i + 6 ≤ L) (hL : L ≤ 3072) (st : List Value) (w : pW) : den (some (L, xs)) C (some .boolean) tQ_L_law (544, lwl i, st, w) = den (some (L, xs)) C (some .boolean) tQ_L_law (549, lwl i, .int (xs (i + 2)) :: st, w) := lw_f (k := 2) (f := fun n => den (some (L, xs)) C (some .boolean) tQ_L_law (549, lwl i, .int (xs n) :: st, w)) (by omega) hi hL ((den_steps 4 rfl).trans (den_ck rfl)) rfl
theorem f_553 (hi : i + 6 ≤ L) (hL : L ≤ 3072) (st : List Value) (w : pW) : den (some (L, xs)) C (some .boolean) tQ_L_law (553, lwl i, st, w) = den (some (L, xs)) C (some .boolean) tQ_L_law (558, lwl i, .int (xs (i + 1)) :: st, w) := lw_f (k := 1) (f := fun n => den (some (L, xs)) C (some .boolean) tQ_L_law (558, lwl i, .int (xs n) :: st, w)) (by omega) hi hL ((den_steps 4 rfl).trans (den_ck rfl)) rfl
theorem f_558 (hi : i + 6 ≤ L) (hL : L ≤ 3072) (st : List Value) (w : pW) : den (some (L, xs)) C (some .boolean) tQ_L_law (558, lwl i, st, w) = den (some (L, xs)) C (some .boolean) tQ_L_law (563, lwl i, .int (xs (i + 2)) :: st, w) := lw_f (k := 2) (f := fun n => den (some (L, xs)) C (some .boolean) tQ_L_law (563, lwl i, .int (xs n) :: st, w)) (by omega) hi hL ((den_steps 4 rfl).trans (den_ck rfl)) rfl
theorem lw_12 {I I1 : Nat → Nat → Int32} {J J1 : Nat → Nat → Int64} {R R1 : Nat → Nat → Option Nat} {w2 : pW} (hi : i + 6 ≤ L) (hL : L ≤ 3072) {v : Int32} (h1 : C 118 [.ref 0, .int (xs (i + 1)), .int (xs (i + 2))] (176, I, J, R) = some (some (.int v), (176, I1, J1, R1))) (h2 : C 202 [.ref 140, .int (xs (i + 1)), .int (xs (i + 2))] (176, I1, J1, R1) = some (some (.int v), w2)) : den (some (L, xs)) C (some .boolean) tQ_L_law (538, lwl i, [], 176, I, J, R) = den (some (L, xs)) C (some .boolean) tQ_L_law (1107, lwl i, [], w2) := by
  refine Eq.trans (b := den (some (L, xs)) C (some .boolean) tQ_L_law (539, lwl i, [.ref 0], 176, I, J, R)) (den_steps 1 rfl) ?_
  refine (f_539 hi hL _ (176, I, J, R)).trans ?_
  refine (f_544 hi hL _ (176, I, J, R)).trans ?_
  refine Eq.trans (b := den (some (L, xs)) C (some .boolean) tQ_L_law (552, lwl i, [.int v], 176, I1, J1, R1)) (den_call (o := C 118 [.ref 0, .int (xs (i + 1)), .int (xs (i + 2))] (176, I, J, R)) (pc := 552) (L := lwl i) (st := []) rfl h1) ?_
  refine Eq.trans (b := den (some (L, xs)) C (some .boolean) tQ_L_law (553, lwl i, [.ref 140, .int v], 176, I1, J1, R1)) (den_steps 1 rfl) ?_
  refine (f_553 hi hL _ (176, I1, J1, R1)).trans ?_
  refine (f_558 hi hL _ (176, I1, J1, R1)).trans ?_
  refine Eq.trans (b := den (some (L, xs)) C (some .boolean) tQ_L_law (566, lwl i, [.int v, .int v], w2)) (den_call (o := C 202 [.ref 140, .int (xs (i + 1)), .int (xs (i + 2))] (176, I1, J1, R1)) (pc := 566) (L := lwl i) (st := [.int v]) rfl h2) ?_
  exact Eq.trans (den_br (c := v = v) (f1 := (1107, lwl i, [], w2)) (f2 := (569, lwl i, [], w2)) rfl) (if_pos rfl)
theorem f_572 (hi : i + 6 ≤ L) (hL : L ≤ 3072) (st : List Value) (w : pW) : den (some (L, xs)) C (some .boolean) tQ_L_law (572, lwl i, st, w) = den (some (L, xs)) C (some .boolean) tQ_L_law (577, lwl i, .int (xs (i + 1)) :: st, w) := lw_f (k := 1) (f := fun n => den (some (L, xs)) C (some .boolean) tQ_L_law (577, lwl i, .int (xs n) :: st, w)) (by omega) hi hL ((den_steps 4 rfl).trans (den_ck rfl)) rfl
theorem f_577 (hi : i + 6 ≤ L) (hL : L ≤ 3072) (st : List Value) (w : pW) : den (some (L, xs)) C (some .boolean) tQ_L_law (577, lwl i, st, w) = den (some (L, xs)) C (some .boolean) tQ_L_law (582, lwl i, .int (xs (i + 2)) :: st, w) := lw_f (k := 2) (f := fun n => den (some (L, xs)) C (some .boolean) tQ_L_law (582, lwl i, .int (xs n) :: st, w)) (by omega) hi hL ((den_steps 4 rfl).trans (den_ck rfl)) rfl
theorem f_586 (hi : i + 6 ≤ L) (hL : L ≤ 3072) (st : List Value) (w : pW) : den (some (L, xs)) C (some .boolean) tQ_L_law (586, lwl i, st, w) = den (some (L, xs)) C (some .boolean) tQ_L_law (591, lwl i, .int (xs (i + 1)) :: st, w) := lw_f (k := 1) (f := fun n => den (some (L, xs)) C (some .boolean) tQ_L_law (591, lwl i, .int (xs n) :: st, w)) (by omega) hi hL ((den_steps 4 rfl).trans (den_ck rfl)) rfl
theorem f_591 (hi : i + 6 ≤ L) (hL : L ≤ 3072) (st : List Value) (w : pW) : den (some (L, xs)) C (some .boolean) tQ_L_law (591, lwl i, st, w) = den (some (L, xs)) C (some .boolean) tQ_L_law (596, lwl i, .int (xs (i + 2)) :: st, w) := lw_f (k := 2) (f := fun n => den (some (L, xs)) C (some .boolean) tQ_L_law (596, lwl i, .int (xs n) :: st, w)) (by omega) hi hL ((den_steps 4 rfl).trans (den_ck rfl)) rfl
theorem lw_13 {I I1 : Nat → Nat → Int32} {J J1 : Nat → Nat → Int64} {R R1 : Nat → Nat → Option Nat} {w2 : pW} (hi : i + 6 ≤ L) (hL : L ≤ 3072) {v : Int32} (h1 : C 119 [.ref 0, .int (xs (i + 1)), .int (xs (i + 2))] (176, I, J, R) = some (some (.int v), (176, I1, J1, R1))) (h2 : C 206 [.ref 140, .int (xs (i + 1)), .int (xs (i + 2))] (176, I1, J1, R1) = some (some (.int v), w2)) : den (some (L, xs)) C (some .boolean) tQ_L_law (571, lwl i, [], 176, I, J, R) = den (some (L, xs)) C (some .boolean) tQ_L_law (1107, lwl i, [], w2) := by
  refine Eq.trans (b := den (some (L, xs)) C (some .boolean) tQ_L_law (572, lwl i, [.ref 0], 176, I, J, R)) (den_steps 1 rfl) ?_
  refine (f_572 hi hL _ (176, I, J, R)).trans ?_
  refine (f_577 hi hL _ (176, I, J, R)).trans ?_
  refine Eq.trans (b := den (some (L, xs)) C (some .boolean) tQ_L_law (585, lwl i, [.int v], 176, I1, J1, R1)) (den_call (o := C 119 [.ref 0, .int (xs (i + 1)), .int (xs (i + 2))] (176, I, J, R)) (pc := 585) (L := lwl i) (st := []) rfl h1) ?_
  refine Eq.trans (b := den (some (L, xs)) C (some .boolean) tQ_L_law (586, lwl i, [.ref 140, .int v], 176, I1, J1, R1)) (den_steps 1 rfl) ?_
  refine (f_586 hi hL _ (176, I1, J1, R1)).trans ?_
  refine (f_591 hi hL _ (176, I1, J1, R1)).trans ?_
  refine Eq.trans (b := den (some (L, xs)) C (some .boolean) tQ_L_law (599, lwl i, [.int v, .int v], w2)) (den_call (o := C 206 [.ref 140, .int (xs (i + 1)), .int (xs (i + 2))] (176, I1, J1, R1)) (pc := 599) (L := lwl i) (st := [.int v]) rfl h2) ?_
  exact Eq.trans (den_br (c := v = v) (f1 := (1107, lwl i, [], w2)) (f2 := (602, lwl i, [], w2)) rfl) (if_pos rfl)
theorem f_605 (hi : i + 6 ≤ L) (hL : L ≤ 3072) (st : List Value) (w : pW) : den (some (L, xs)) C (some .boolean) tQ_L_law (605, lwl i, st, w) = den (some (L, xs)) C (some .boolean) tQ_L_law (610, lwl i, .int (xs (i + 1)) :: st, w) := lw_f (k := 1) (f := fun n => den (some (L, xs)) C (some .boolean) tQ_L_law (610, lwl i, .int (xs n) :: st, w)) (by omega) hi hL ((den_steps 4 rfl).trans (den_ck rfl)) rfl
theorem f_614 (hi : i + 6 ≤ L) (hL : L ≤ 3072) (st : List Value) (w : pW) : den (some (L, xs)) C (some .boolean) tQ_L_law (614, lwl i, st, w) = den (some (L, xs)) C (some .boolean) tQ_L_law (619, lwl i, .int (xs (i + 1)) :: st, w) := lw_f (k := 1) (f := fun n => den (some (L, xs)) C (some .boolean) tQ_L_law (619, lwl i, .int (xs n) :: st, w)) (by omega) hi hL ((den_steps 4 rfl).trans (den_ck rfl)) rfl
theorem lw_14 {I I1 : Nat → Nat → Int32} {J J1 : Nat → Nat → Int64} {R R1 : Nat → Nat → Option Nat} {w2 : pW} (hi : i + 6 ≤ L) (hL : L ≤ 3072) {v : Int32} (h1 : C 120 [.ref 0, .int (xs (i + 1))] (176, I, J, R) = some (some (.int v), (176, I1, J1, R1))) (h2 : C 207 [.ref 140, .int (xs (i + 1))] (176, I1, J1, R1) = some (some (.int v), w2)) : den (some (L, xs)) C (some .boolean) tQ_L_law (604, lwl i, [], 176, I, J, R) = den (some (L, xs)) C (some .boolean) tQ_L_law (1107, lwl i, [], w2) := by
  refine Eq.trans (b := den (some (L, xs)) C (some .boolean) tQ_L_law (605, lwl i, [.ref 0], 176, I, J, R)) (den_steps 1 rfl) ?_
  refine (f_605 hi hL _ (176, I, J, R)).trans ?_
  refine Eq.trans (b := den (some (L, xs)) C (some .boolean) tQ_L_law (613, lwl i, [.int v], 176, I1, J1, R1)) (den_call (o := C 120 [.ref 0, .int (xs (i + 1))] (176, I, J, R)) (pc := 613) (L := lwl i) (st := []) rfl h1) ?_
  refine Eq.trans (b := den (some (L, xs)) C (some .boolean) tQ_L_law (614, lwl i, [.ref 140, .int v], 176, I1, J1, R1)) (den_steps 1 rfl) ?_
  refine (f_614 hi hL _ (176, I1, J1, R1)).trans ?_
  refine Eq.trans (b := den (some (L, xs)) C (some .boolean) tQ_L_law (622, lwl i, [.int v, .int v], w2)) (den_call (o := C 207 [.ref 140, .int (xs (i + 1))] (176, I1, J1, R1)) (pc := 622) (L := lwl i) (st := [.int v]) rfl h2) ?_
  exact Eq.trans (den_br (c := v = v) (f1 := (1107, lwl i, [], w2)) (f2 := (625, lwl i, [], w2)) rfl) (if_pos rfl)
theorem f_628 (hi : i + 6 ≤ L) (hL : L ≤ 3072) (st : List Value) (w : pW) : den (some (L, xs)) C (some .boolean) tQ_L_law (628, lwl i, st, w) = den (some (L, xs)) C (some .boolean) tQ_L_law (633, lwl i, .int (xs (i + 1)) :: st, w) := lw_f (k := 1) (f := fun n => den (some (L, xs)) C (some .boolean) tQ_L_law (633, lwl i, .int (xs n) :: st, w)) (by omega) hi hL ((den_steps 4 rfl).trans (den_ck rfl)) rfl
theorem f_633 (hi : i + 6 ≤ L) (hL : L ≤ 3072) (st : List Value) (w : pW) : den (some (L, xs)) C (some .boolean) tQ_L_law (633, lwl i, st, w) = den (some (L, xs)) C (some .boolean) tQ_L_law (638, lwl i, .int (xs (i + 2)) :: st, w) := lw_f (k := 2) (f := fun n => den (some (L, xs)) C (some .boolean) tQ_L_law (638, lwl i, .int (xs n) :: st, w)) (by omega) hi hL ((den_steps 4 rfl).trans (den_ck rfl)) rfl
theorem f_642 (hi : i + 6 ≤ L) (hL : L ≤ 3072) (st : List Value) (w : pW) : den (some (L, xs)) C (some .boolean) tQ_L_law (642, lwl i, st, w) = den (some (L, xs)) C (some .boolean) tQ_L_law (647, lwl i, .int (xs (i + 1)) :: st, w) := lw_f (k := 1) (f := fun n => den (some (L, xs)) C (some .boolean) tQ_L_law (647, lwl i, .int (xs n) :: st, w)) (by omega) hi hL ((den_steps 4 rfl).trans (den_ck rfl)) rfl
theorem f_647 (hi : i + 6 ≤ L) (hL : L ≤ 3072) (st : List Value) (w : pW) : den (some (L, xs)) C (some .boolean) tQ_L_law (647, lwl i, st, w) = den (some (L, xs)) C (some .boolean) tQ_L_law (652, lwl i, .int (xs (i + 2)) :: st, w) := lw_f (k := 2) (f := fun n => den (some (L, xs)) C (some .boolean) tQ_L_law (652, lwl i, .int (xs n) :: st, w)) (by omega) hi hL ((den_steps 4 rfl).trans (den_ck rfl)) rfl
theorem lw_15 {I I1 : Nat → Nat → Int32} {J J1 : Nat → Nat → Int64} {R R1 : Nat → Nat → Option Nat} {w2 : pW} (hi : i + 6 ≤ L) (hL : L ≤ 3072) {v : Int64} (h1 : C 121 [.ref 0, .int (xs (i + 1)), .int (xs (i + 2))] (176, I, J, R) = some (some (.long v), (176, I1, J1, R1))) (h2 : C 208 [.ref 140, .int (xs (i + 1)), .int (xs (i + 2))] (176, I1, J1, R1) = some (some (.long v), w2)) : den (some (L, xs)) C (some .boolean) tQ_L_law (627, lwl i, [], 176, I, J, R) = den (some (L, xs)) C (some .boolean) tQ_L_law (1107, lwl i, [], w2) := by
  refine Eq.trans (b := den (some (L, xs)) C (some .boolean) tQ_L_law (628, lwl i, [.ref 0], 176, I, J, R)) (den_steps 1 rfl) ?_
  refine (f_628 hi hL _ (176, I, J, R)).trans ?_
  refine (f_633 hi hL _ (176, I, J, R)).trans ?_
  refine Eq.trans (b := den (some (L, xs)) C (some .boolean) tQ_L_law (641, lwl i, [.long v], 176, I1, J1, R1)) (den_call (o := C 121 [.ref 0, .int (xs (i + 1)), .int (xs (i + 2))] (176, I, J, R)) (pc := 641) (L := lwl i) (st := []) rfl h1) ?_
  refine Eq.trans (b := den (some (L, xs)) C (some .boolean) tQ_L_law (642, lwl i, [.ref 140, .long v], 176, I1, J1, R1)) (den_steps 1 rfl) ?_
  refine (f_642 hi hL _ (176, I1, J1, R1)).trans ?_
  refine (f_647 hi hL _ (176, I1, J1, R1)).trans ?_
  refine Eq.trans (b := den (some (L, xs)) C (some .boolean) tQ_L_law (655, lwl i, [.long v, .long v], w2)) (den_call (o := C 208 [.ref 140, .int (xs (i + 1)), .int (xs (i + 2))] (176, I1, J1, R1)) (pc := 655) (L := lwl i) (st := [.long v]) rfl h2) ?_
  refine Eq.trans (b := den (some (L, xs)) C (some .boolean) tQ_L_law (656, lwl i, [.int (lg_cmp v v)], w2)) (den_steps 1 rfl) ?_
  refine Eq.trans (den_br (c := lg_cmp v v = 0) (f1 := (1107, lwl i, [], w2)) (f2 := (659, lwl i, [], w2)) rfl) (if_pos (cmp_z.mpr rfl))
theorem f_662 (hi : i + 6 ≤ L) (hL : L ≤ 3072) (st : List Value) (w : pW) : den (some (L, xs)) C (some .boolean) tQ_L_law (662, lwl i, st, w) = den (some (L, xs)) C (some .boolean) tQ_L_law (667, lwl i, .int (xs (i + 1)) :: st, w) := lw_f (k := 1) (f := fun n => den (some (L, xs)) C (some .boolean) tQ_L_law (667, lwl i, .int (xs n) :: st, w)) (by omega) hi hL ((den_steps 4 rfl).trans (den_ck rfl)) rfl
theorem f_671 (hi : i + 6 ≤ L) (hL : L ≤ 3072) (st : List Value) (w : pW) : den (some (L, xs)) C (some .boolean) tQ_L_law (671, lwl i, st, w) = den (some (L, xs)) C (some .boolean) tQ_L_law (676, lwl i, .int (xs (i + 1)) :: st, w) := lw_f (k := 1) (f := fun n => den (some (L, xs)) C (some .boolean) tQ_L_law (676, lwl i, .int (xs n) :: st, w)) (by omega) hi hL ((den_steps 4 rfl).trans (den_ck rfl)) rfl
theorem lw_16 {I I1 : Nat → Nat → Int32} {J J1 : Nat → Nat → Int64} {R R1 : Nat → Nat → Option Nat} {w2 : pW} (hi : i + 6 ≤ L) (hL : L ≤ 3072) {v : Int32} (h1 : C 122 [.ref 0, .int (xs (i + 1))] (176, I, J, R) = some (some (.int v), (176, I1, J1, R1))) (h2 : C 209 [.ref 140, .int (xs (i + 1))] (176, I1, J1, R1) = some (some (.int v), w2)) : den (some (L, xs)) C (some .boolean) tQ_L_law (661, lwl i, [], 176, I, J, R) = den (some (L, xs)) C (some .boolean) tQ_L_law (1107, lwl i, [], w2) := by
  refine Eq.trans (b := den (some (L, xs)) C (some .boolean) tQ_L_law (662, lwl i, [.ref 0], 176, I, J, R)) (den_steps 1 rfl) ?_
  refine (f_662 hi hL _ (176, I, J, R)).trans ?_
  refine Eq.trans (b := den (some (L, xs)) C (some .boolean) tQ_L_law (670, lwl i, [.int v], 176, I1, J1, R1)) (den_call (o := C 122 [.ref 0, .int (xs (i + 1))] (176, I, J, R)) (pc := 670) (L := lwl i) (st := []) rfl h1) ?_
  refine Eq.trans (b := den (some (L, xs)) C (some .boolean) tQ_L_law (671, lwl i, [.ref 140, .int v], 176, I1, J1, R1)) (den_steps 1 rfl) ?_
  refine (f_671 hi hL _ (176, I1, J1, R1)).trans ?_
  refine Eq.trans (b := den (some (L, xs)) C (some .boolean) tQ_L_law (679, lwl i, [.int v, .int v], w2)) (den_call (o := C 209 [.ref 140, .int (xs (i + 1))] (176, I1, J1, R1)) (pc := 679) (L := lwl i) (st := [.int v]) rfl h2) ?_
  exact Eq.trans (den_br (c := v = v) (f1 := (1107, lwl i, [], w2)) (f2 := (682, lwl i, [], w2)) rfl) (if_pos rfl)
theorem lw_17 {I I1 : Nat → Nat → Int32} {J J1 : Nat → Nat → Int64} {R R1 : Nat → Nat → Option Nat} {w2 : pW} (hi : i + 6 ≤ L) (hL : L ≤ 3072) {v : Int32} (h1 : C 123 [.ref 0] (176, I, J, R) = some (some (.int v), (176, I1, J1, R1))) (h2 : C 211 [.ref 140] (176, I1, J1, R1) = some (some (.int v), w2)) : den (some (L, xs)) C (some .boolean) tQ_L_law (684, lwl i, [], 176, I, J, R) = den (some (L, xs)) C (some .boolean) tQ_L_law (1107, lwl i, [], w2) := by
  refine Eq.trans (b := den (some (L, xs)) C (some .boolean) tQ_L_law (685, lwl i, [.ref 0], 176, I, J, R)) (den_steps 1 rfl) ?_
  refine Eq.trans (b := den (some (L, xs)) C (some .boolean) tQ_L_law (688, lwl i, [.int v], 176, I1, J1, R1)) (den_call (o := C 123 [.ref 0] (176, I, J, R)) (pc := 688) (L := lwl i) (st := []) rfl h1) ?_
  refine Eq.trans (b := den (some (L, xs)) C (some .boolean) tQ_L_law (689, lwl i, [.ref 140, .int v], 176, I1, J1, R1)) (den_steps 1 rfl) ?_
  refine Eq.trans (b := den (some (L, xs)) C (some .boolean) tQ_L_law (692, lwl i, [.int v, .int v], w2)) (den_call (o := C 211 [.ref 140] (176, I1, J1, R1)) (pc := 692) (L := lwl i) (st := [.int v]) rfl h2) ?_
  exact Eq.trans (den_br (c := v = v) (f1 := (1107, lwl i, [], w2)) (f2 := (695, lwl i, [], w2)) rfl) (if_pos rfl)
theorem lw_18 {I I1 : Nat → Nat → Int32} {J J1 : Nat → Nat → Int64} {R R1 : Nat → Nat → Option Nat} {w2 : pW} (hi : i + 6 ≤ L) (hL : L ≤ 3072) {v : Int32} (h1 : C 124 [.ref 0] (176, I, J, R) = some (some (.int v), (176, I1, J1, R1))) (h2 : C 213 [.ref 140] (176, I1, J1, R1) = some (some (.int v), w2)) : den (some (L, xs)) C (some .boolean) tQ_L_law (697, lwl i, [], 176, I, J, R) = den (some (L, xs)) C (some .boolean) tQ_L_law (1107, lwl i, [], w2) := by
  refine Eq.trans (b := den (some (L, xs)) C (some .boolean) tQ_L_law (698, lwl i, [.ref 0], 176, I, J, R)) (den_steps 1 rfl) ?_
  refine Eq.trans (b := den (some (L, xs)) C (some .boolean) tQ_L_law (701, lwl i, [.int v], 176, I1, J1, R1)) (den_call (o := C 124 [.ref 0] (176, I, J, R)) (pc := 701) (L := lwl i) (st := []) rfl h1) ?_
  refine Eq.trans (b := den (some (L, xs)) C (some .boolean) tQ_L_law (702, lwl i, [.ref 140, .int v], 176, I1, J1, R1)) (den_steps 1 rfl) ?_
  refine Eq.trans (b := den (some (L, xs)) C (some .boolean) tQ_L_law (705, lwl i, [.int v, .int v], w2)) (den_call (o := C 213 [.ref 140] (176, I1, J1, R1)) (pc := 705) (L := lwl i) (st := [.int v]) rfl h2) ?_
  exact Eq.trans (den_br (c := v = v) (f1 := (1107, lwl i, [], w2)) (f2 := (708, lwl i, [], w2)) rfl) (if_pos rfl)
theorem f_711 (hi : i + 6 ≤ L) (hL : L ≤ 3072) (st : List Value) (w : pW) : den (some (L, xs)) C (some .boolean) tQ_L_law (711, lwl i, st, w) = den (some (L, xs)) C (some .boolean) tQ_L_law (716, lwl i, .int (xs (i + 1)) :: st, w) := lw_f (k := 1) (f := fun n => den (some (L, xs)) C (some .boolean) tQ_L_law (716, lwl i, .int (xs n) :: st, w)) (by omega) hi hL ((den_steps 4 rfl).trans (den_ck rfl)) rfl
theorem f_716 (hi : i + 6 ≤ L) (hL : L ≤ 3072) (st : List Value) (w : pW) : den (some (L, xs)) C (some .boolean) tQ_L_law (716, lwl i, st, w) = den (some (L, xs)) C (some .boolean) tQ_L_law (721, lwl i, .int (xs (i + 2)) :: st, w) := lw_f (k := 2) (f := fun n => den (some (L, xs)) C (some .boolean) tQ_L_law (721, lwl i, .int (xs n) :: st, w)) (by omega) hi hL ((den_steps 4 rfl).trans (den_ck rfl)) rfl
theorem f_725 (hi : i + 6 ≤ L) (hL : L ≤ 3072) (st : List Value) (w : pW) : den (some (L, xs)) C (some .boolean) tQ_L_law (725, lwl i, st, w) = den (some (L, xs)) C (some .boolean) tQ_L_law (730, lwl i, .int (xs (i + 1)) :: st, w) := lw_f (k := 1) (f := fun n => den (some (L, xs)) C (some .boolean) tQ_L_law (730, lwl i, .int (xs n) :: st, w)) (by omega) hi hL ((den_steps 4 rfl).trans (den_ck rfl)) rfl
theorem f_730 (hi : i + 6 ≤ L) (hL : L ≤ 3072) (st : List Value) (w : pW) : den (some (L, xs)) C (some .boolean) tQ_L_law (730, lwl i, st, w) = den (some (L, xs)) C (some .boolean) tQ_L_law (735, lwl i, .int (xs (i + 2)) :: st, w) := lw_f (k := 2) (f := fun n => den (some (L, xs)) C (some .boolean) tQ_L_law (735, lwl i, .int (xs n) :: st, w)) (by omega) hi hL ((den_steps 4 rfl).trans (den_ck rfl)) rfl
theorem lw_19 {I I1 : Nat → Nat → Int32} {J J1 : Nat → Nat → Int64} {R R1 : Nat → Nat → Option Nat} {w2 : pW} (hi : i + 6 ≤ L) (hL : L ≤ 3072) {v : Int32} (h1 : C 125 [.ref 0, .int (xs (i + 1)), .int (xs (i + 2))] (176, I, J, R) = some (some (.int v), (176, I1, J1, R1))) (h2 : C 215 [.ref 140, .int (xs (i + 1)), .int (xs (i + 2))] (176, I1, J1, R1) = some (some (.int v), w2)) : den (some (L, xs)) C (some .boolean) tQ_L_law (710, lwl i, [], 176, I, J, R) = den (some (L, xs)) C (some .boolean) tQ_L_law (1107, lwl i, [], w2) := by
  refine Eq.trans (b := den (some (L, xs)) C (some .boolean) tQ_L_law (711, lwl i, [.ref 0], 176, I, J, R)) (den_steps 1 rfl) ?_
  refine (f_711 hi hL _ (176, I, J, R)).trans ?_
  refine (f_716 hi hL _ (176, I, J, R)).trans ?_
  refine Eq.trans (b := den (some (L, xs)) C (some .boolean) tQ_L_law (724, lwl i, [.int v], 176, I1, J1, R1)) (den_call (o := C 125 [.ref 0, .int (xs (i + 1)), .int (xs (i + 2))] (176, I, J, R)) (pc := 724) (L := lwl i) (st := []) rfl h1) ?_
  refine Eq.trans (b := den (some (L, xs)) C (some .boolean) tQ_L_law (725, lwl i, [.ref 140, .int v], 176, I1, J1, R1)) (den_steps 1 rfl) ?_
  refine (f_725 hi hL _ (176, I1, J1, R1)).trans ?_
  refine (f_730 hi hL _ (176, I1, J1, R1)).trans ?_
  refine Eq.trans (b := den (some (L, xs)) C (some .boolean) tQ_L_law (738, lwl i, [.int v, .int v], w2)) (den_call (o := C 215 [.ref 140, .int (xs (i + 1)), .int (xs (i + 2))] (176, I1, J1, R1)) (pc := 738) (L := lwl i) (st := [.int v]) rfl h2) ?_
  exact Eq.trans (den_br (c := v = v) (f1 := (1107, lwl i, [], w2)) (f2 := (741, lwl i, [], w2)) rfl) (if_pos rfl)
theorem f_744 (hi : i + 6 ≤ L) (hL : L ≤ 3072) (st : List Value) (w : pW) : den (some (L, xs)) C (some .boolean) tQ_L_law (744, lwl i, st, w) = den (some (L, xs)) C (some .boolean) tQ_L_law (749, lwl i, .int (xs (i + 1)) :: st, w) := lw_f (k := 1) (f := fun n => den (some (L, xs)) C (some .boolean) tQ_L_law (749, lwl i, .int (xs n) :: st, w)) (by omega) hi hL ((den_steps 4 rfl).trans (den_ck rfl)) rfl
theorem f_753 (hi : i + 6 ≤ L) (hL : L ≤ 3072) (st : List Value) (w : pW) : den (some (L, xs)) C (some .boolean) tQ_L_law (753, lwl i, st, w) = den (some (L, xs)) C (some .boolean) tQ_L_law (758, lwl i, .int (xs (i + 1)) :: st, w) := lw_f (k := 1) (f := fun n => den (some (L, xs)) C (some .boolean) tQ_L_law (758, lwl i, .int (xs n) :: st, w)) (by omega) hi hL ((den_steps 4 rfl).trans (den_ck rfl)) rfl
theorem lw_20 {I I1 : Nat → Nat → Int32} {J J1 : Nat → Nat → Int64} {R R1 : Nat → Nat → Option Nat} {w2 : pW} (hi : i + 6 ≤ L) (hL : L ≤ 3072) {v : Int32} (h1 : C 126 [.ref 0, .int (xs (i + 1))] (176, I, J, R) = some (some (.int v), (176, I1, J1, R1))) (h2 : C 216 [.ref 140, .int (xs (i + 1))] (176, I1, J1, R1) = some (some (.int v), w2)) : den (some (L, xs)) C (some .boolean) tQ_L_law (743, lwl i, [], 176, I, J, R) = den (some (L, xs)) C (some .boolean) tQ_L_law (1107, lwl i, [], w2) := by
  refine Eq.trans (b := den (some (L, xs)) C (some .boolean) tQ_L_law (744, lwl i, [.ref 0], 176, I, J, R)) (den_steps 1 rfl) ?_
  refine (f_744 hi hL _ (176, I, J, R)).trans ?_
  refine Eq.trans (b := den (some (L, xs)) C (some .boolean) tQ_L_law (752, lwl i, [.int v], 176, I1, J1, R1)) (den_call (o := C 126 [.ref 0, .int (xs (i + 1))] (176, I, J, R)) (pc := 752) (L := lwl i) (st := []) rfl h1) ?_
  refine Eq.trans (b := den (some (L, xs)) C (some .boolean) tQ_L_law (753, lwl i, [.ref 140, .int v], 176, I1, J1, R1)) (den_steps 1 rfl) ?_
  refine (f_753 hi hL _ (176, I1, J1, R1)).trans ?_
  refine Eq.trans (b := den (some (L, xs)) C (some .boolean) tQ_L_law (761, lwl i, [.int v, .int v], w2)) (den_call (o := C 216 [.ref 140, .int (xs (i + 1))] (176, I1, J1, R1)) (pc := 761) (L := lwl i) (st := [.int v]) rfl h2) ?_
  exact Eq.trans (den_br (c := v = v) (f1 := (1107, lwl i, [], w2)) (f2 := (764, lwl i, [], w2)) rfl) (if_pos rfl)
theorem f_767 (hi : i + 6 ≤ L) (hL : L ≤ 3072) (st : List Value) (w : pW) : den (some (L, xs)) C (some .boolean) tQ_L_law (767, lwl i, st, w) = den (some (L, xs)) C (some .boolean) tQ_L_law (772, lwl i, .int (xs (i + 1)) :: st, w) := lw_f (k := 1) (f := fun n => den (some (L, xs)) C (some .boolean) tQ_L_law (772, lwl i, .int (xs n) :: st, w)) (by omega) hi hL ((den_steps 4 rfl).trans (den_ck rfl)) rfl
theorem f_772 (hi : i + 6 ≤ L) (hL : L ≤ 3072) (st : List Value) (w : pW) : den (some (L, xs)) C (some .boolean) tQ_L_law (772, lwl i, st, w) = den (some (L, xs)) C (some .boolean) tQ_L_law (777, lwl i, .int (xs (i + 2)) :: st, w) := lw_f (k := 2) (f := fun n => den (some (L, xs)) C (some .boolean) tQ_L_law (777, lwl i, .int (xs n) :: st, w)) (by omega) hi hL ((den_steps 4 rfl).trans (den_ck rfl)) rfl
theorem f_781 (hi : i + 6 ≤ L) (hL : L ≤ 3072) (st : List Value) (w : pW) : den (some (L, xs)) C (some .boolean) tQ_L_law (781, lwl i, st, w) = den (some (L, xs)) C (some .boolean) tQ_L_law (786, lwl i, .int (xs (i + 1)) :: st, w) := lw_f (k := 1) (f := fun n => den (some (L, xs)) C (some .boolean) tQ_L_law (786, lwl i, .int (xs n) :: st, w)) (by omega) hi hL ((den_steps 4 rfl).trans (den_ck rfl)) rfl
theorem f_786 (hi : i + 6 ≤ L) (hL : L ≤ 3072) (st : List Value) (w : pW) : den (some (L, xs)) C (some .boolean) tQ_L_law (786, lwl i, st, w) = den (some (L, xs)) C (some .boolean) tQ_L_law (791, lwl i, .int (xs (i + 2)) :: st, w) := lw_f (k := 2) (f := fun n => den (some (L, xs)) C (some .boolean) tQ_L_law (791, lwl i, .int (xs n) :: st, w)) (by omega) hi hL ((den_steps 4 rfl).trans (den_ck rfl)) rfl
theorem lw_21 {I I1 : Nat → Nat → Int32} {J J1 : Nat → Nat → Int64} {R R1 : Nat → Nat → Option Nat} {w2 : pW} (hi : i + 6 ≤ L) (hL : L ≤ 3072) {v : Int32} (h1 : C 127 [.ref 0, .int (xs (i + 1)), .int (xs (i + 2))] (176, I, J, R) = some (some (.int v), (176, I1, J1, R1))) (h2 : C 217 [.ref 140, .int (xs (i + 1)), .int (xs (i + 2))] (176, I1, J1, R1) = some (some (.int v), w2)) : den (some (L, xs)) C (some .boolean) tQ_L_law (766, lwl i, [], 176, I, J, R) = den (some (L, xs)) C (some .boolean) tQ_L_law (1107, lwl i, [], w2) := by
  refine Eq.trans (b := den (some (L, xs)) C (some .boolean) tQ_L_law (767, lwl i, [.ref 0], 176, I, J, R)) (den_steps 1 rfl) ?_
  refine (f_767 hi hL _ (176, I, J, R)).trans ?_
  refine (f_772 hi hL _ (176, I, J, R)).trans ?_
  refine Eq.trans (b := den (some (L, xs)) C (some .boolean) tQ_L_law (780, lwl i, [.int v], 176, I1, J1, R1)) (den_call (o := C 127 [.ref 0, .int (xs (i + 1)), .int (xs (i + 2))] (176, I, J, R)) (pc := 780) (L := lwl i) (st := []) rfl h1) ?_
  refine Eq.trans (b := den (some (L, xs)) C (some .boolean) tQ_L_law (781, lwl i, [.ref 140, .int v], 176, I1, J1, R1)) (den_steps 1 rfl) ?_
  refine (f_781 hi hL _ (176, I1, J1, R1)).trans ?_
  refine (f_786 hi hL _ (176, I1, J1, R1)).trans ?_
  refine Eq.trans (b := den (some (L, xs)) C (some .boolean) tQ_L_law (794, lwl i, [.int v, .int v], w2)) (den_call (o := C 217 [.ref 140, .int (xs (i + 1)), .int (xs (i + 2))] (176, I1, J1, R1)) (pc := 794) (L := lwl i) (st := [.int v]) rfl h2) ?_
  exact Eq.trans (den_br (c := v = v) (f1 := (1107, lwl i, [], w2)) (f2 := (797, lwl i, [], w2)) rfl) (if_pos rfl)
theorem f_800 (hi : i + 6 ≤ L) (hL : L ≤ 3072) (st : List Value) (w : pW) : den (some (L, xs)) C (some .boolean) tQ_L_law (800, lwl i, st, w) = den (some (L, xs)) C (some .boolean) tQ_L_law (805, lwl i, .int (xs (i + 1)) :: st, w) := lw_f (k := 1) (f := fun n => den (some (L, xs)) C (some .boolean) tQ_L_law (805, lwl i, .int (xs n) :: st, w)) (by omega) hi hL ((den_steps 4 rfl).trans (den_ck rfl)) rfl
theorem f_809 (hi : i + 6 ≤ L) (hL : L ≤ 3072) (st : List Value) (w : pW) : den (some (L, xs)) C (some .boolean) tQ_L_law (809, lwl i, st, w) = den (some (L, xs)) C (some .boolean) tQ_L_law (814, lwl i, .int (xs (i + 1)) :: st, w) := lw_f (k := 1) (f := fun n => den (some (L, xs)) C (some .boolean) tQ_L_law (814, lwl i, .int (xs n) :: st, w)) (by omega) hi hL ((den_steps 4 rfl).trans (den_ck rfl)) rfl
theorem lw_22 {I I1 : Nat → Nat → Int32} {J J1 : Nat → Nat → Int64} {R R1 : Nat → Nat → Option Nat} {w2 : pW} (hi : i + 6 ≤ L) (hL : L ≤ 3072) {v : Int32} (h1 : C 128 [.ref 0, .int (xs (i + 1))] (176, I, J, R) = some (some (.int v), (176, I1, J1, R1))) (h2 : C 218 [.ref 140, .int (xs (i + 1))] (176, I1, J1, R1) = some (some (.int v), w2)) : den (some (L, xs)) C (some .boolean) tQ_L_law (799, lwl i, [], 176, I, J, R) = den (some (L, xs)) C (some .boolean) tQ_L_law (1107, lwl i, [], w2) := by
  refine Eq.trans (b := den (some (L, xs)) C (some .boolean) tQ_L_law (800, lwl i, [.ref 0], 176, I, J, R)) (den_steps 1 rfl) ?_
  refine (f_800 hi hL _ (176, I, J, R)).trans ?_
  refine Eq.trans (b := den (some (L, xs)) C (some .boolean) tQ_L_law (808, lwl i, [.int v], 176, I1, J1, R1)) (den_call (o := C 128 [.ref 0, .int (xs (i + 1))] (176, I, J, R)) (pc := 808) (L := lwl i) (st := []) rfl h1) ?_
  refine Eq.trans (b := den (some (L, xs)) C (some .boolean) tQ_L_law (809, lwl i, [.ref 140, .int v], 176, I1, J1, R1)) (den_steps 1 rfl) ?_
  refine (f_809 hi hL _ (176, I1, J1, R1)).trans ?_
  refine Eq.trans (b := den (some (L, xs)) C (some .boolean) tQ_L_law (817, lwl i, [.int v, .int v], w2)) (den_call (o := C 218 [.ref 140, .int (xs (i + 1))] (176, I1, J1, R1)) (pc := 817) (L := lwl i) (st := [.int v]) rfl h2) ?_
  exact Eq.trans (den_br (c := v = v) (f1 := (1107, lwl i, [], w2)) (f2 := (820, lwl i, [], w2)) rfl) (if_pos rfl)
theorem f_823 (hi : i + 6 ≤ L) (hL : L ≤ 3072) (st : List Value) (w : pW) : den (some (L, xs)) C (some .boolean) tQ_L_law (823, lwl i, st, w) = den (some (L, xs)) C (some .boolean) tQ_L_law (828, lwl i, .int (xs (i + 1)) :: st, w) := lw_f (k := 1) (f := fun n => den (some (L, xs)) C (some .boolean) tQ_L_law (828, lwl i, .int (xs n) :: st, w)) (by omega) hi hL ((den_steps 4 rfl).trans (den_ck rfl)) rfl
theorem f_828 (hi : i + 6 ≤ L) (hL : L ≤ 3072) (st : List Value) (w : pW) : den (some (L, xs)) C (some .boolean) tQ_L_law (828, lwl i, st, w) = den (some (L, xs)) C (some .boolean) tQ_L_law (833, lwl i, .int (xs (i + 2)) :: st, w) := lw_f (k := 2) (f := fun n => den (some (L, xs)) C (some .boolean) tQ_L_law (833, lwl i, .int (xs n) :: st, w)) (by omega) hi hL ((den_steps 4 rfl).trans (den_ck rfl)) rfl
theorem f_833 (hi : i + 6 ≤ L) (hL : L ≤ 3072) (st : List Value) (w : pW) : den (some (L, xs)) C (some .boolean) tQ_L_law (833, lwl i, st, w) = den (some (L, xs)) C (some .boolean) tQ_L_law (838, lwl i, .int (xs (i + 3)) :: st, w) := lw_f (k := 3) (f := fun n => den (some (L, xs)) C (some .boolean) tQ_L_law (838, lwl i, .int (xs n) :: st, w)) (by omega) hi hL ((den_steps 4 rfl).trans (den_ck rfl)) rfl
theorem f_842 (hi : i + 6 ≤ L) (hL : L ≤ 3072) (st : List Value) (w : pW) : den (some (L, xs)) C (some .boolean) tQ_L_law (842, lwl i, st, w) = den (some (L, xs)) C (some .boolean) tQ_L_law (847, lwl i, .int (xs (i + 1)) :: st, w) := lw_f (k := 1) (f := fun n => den (some (L, xs)) C (some .boolean) tQ_L_law (847, lwl i, .int (xs n) :: st, w)) (by omega) hi hL ((den_steps 4 rfl).trans (den_ck rfl)) rfl
theorem f_847 (hi : i + 6 ≤ L) (hL : L ≤ 3072) (st : List Value) (w : pW) : den (some (L, xs)) C (some .boolean) tQ_L_law (847, lwl i, st, w) = den (some (L, xs)) C (some .boolean) tQ_L_law (852, lwl i, .int (xs (i + 2)) :: st, w) := lw_f (k := 2) (f := fun n => den (some (L, xs)) C (some .boolean) tQ_L_law (852, lwl i, .int (xs n) :: st, w)) (by omega) hi hL ((den_steps 4 rfl).trans (den_ck rfl)) rfl
theorem f_852 (hi : i + 6 ≤ L) (hL : L ≤ 3072) (st : List Value) (w : pW) : den (some (L, xs)) C (some .boolean) tQ_L_law (852, lwl i, st, w) = den (some (L, xs)) C (some .boolean) tQ_L_law (857, lwl i, .int (xs (i + 3)) :: st, w) := lw_f (k := 3) (f := fun n => den (some (L, xs)) C (some .boolean) tQ_L_law (857, lwl i, .int (xs n) :: st, w)) (by omega) hi hL ((den_steps 4 rfl).trans (den_ck rfl)) rfl
theorem lw_23 {I I1 : Nat → Nat → Int32} {J J1 : Nat → Nat → Int64} {R R1 : Nat → Nat → Option Nat} {w2 : pW} (hi : i + 6 ≤ L) (hL : L ≤ 3072) {v : Int32} (h1 : C 129 [.ref 0, .int (xs (i + 1)), .int (xs (i + 2)), .int (xs (i + 3))] (176, I, J, R) = some (some (.int v), (176, I1, J1, R1))) (h2 : C 219 [.ref 140, .int (xs (i + 1)), .int (xs (i + 2)), .int (xs (i + 3))] (176, I1, J1, R1) = some (some (.int v), w2)) : den (some (L, xs)) C (some .boolean) tQ_L_law (822, lwl i, [], 176, I, J, R) = den (some (L, xs)) C (some .boolean) tQ_L_law (1107, lwl i, [], w2) := by
  refine Eq.trans (b := den (some (L, xs)) C (some .boolean) tQ_L_law (823, lwl i, [.ref 0], 176, I, J, R)) (den_steps 1 rfl) ?_
  refine (f_823 hi hL _ (176, I, J, R)).trans ?_
  refine (f_828 hi hL _ (176, I, J, R)).trans ?_
  refine (f_833 hi hL _ (176, I, J, R)).trans ?_
  refine Eq.trans (b := den (some (L, xs)) C (some .boolean) tQ_L_law (841, lwl i, [.int v], 176, I1, J1, R1)) (den_call (o := C 129 [.ref 0, .int (xs (i + 1)), .int (xs (i + 2)), .int (xs (i + 3))] (176, I, J, R)) (pc := 841) (L := lwl i) (st := []) rfl h1) ?_
  refine Eq.trans (b := den (some (L, xs)) C (some .boolean) tQ_L_law (842, lwl i, [.ref 140, .int v], 176, I1, J1, R1)) (den_steps 1 rfl) ?_
  refine (f_842 hi hL _ (176, I1, J1, R1)).trans ?_
  refine (f_847 hi hL _ (176, I1, J1, R1)).trans ?_
  refine (f_852 hi hL _ (176, I1, J1, R1)).trans ?_
  refine Eq.trans (b := den (some (L, xs)) C (some .boolean) tQ_L_law (860, lwl i, [.int v, .int v], w2)) (den_call (o := C 219 [.ref 140, .int (xs (i + 1)), .int (xs (i + 2)), .int (xs (i + 3))] (176, I1, J1, R1)) (pc := 860) (L := lwl i) (st := [.int v]) rfl h2) ?_
  exact Eq.trans (den_br (c := v = v) (f1 := (1107, lwl i, [], w2)) (f2 := (863, lwl i, [], w2)) rfl) (if_pos rfl)
theorem f_866 (hi : i + 6 ≤ L) (hL : L ≤ 3072) (st : List Value) (w : pW) : den (some (L, xs)) C (some .boolean) tQ_L_law (866, lwl i, st, w) = den (some (L, xs)) C (some .boolean) tQ_L_law (871, lwl i, .int (xs (i + 1)) :: st, w) := lw_f (k := 1) (f := fun n => den (some (L, xs)) C (some .boolean) tQ_L_law (871, lwl i, .int (xs n) :: st, w)) (by omega) hi hL ((den_steps 4 rfl).trans (den_ck rfl)) rfl
theorem f_875 (hi : i + 6 ≤ L) (hL : L ≤ 3072) (st : List Value) (w : pW) : den (some (L, xs)) C (some .boolean) tQ_L_law (875, lwl i, st, w) = den (some (L, xs)) C (some .boolean) tQ_L_law (880, lwl i, .int (xs (i + 1)) :: st, w) := lw_f (k := 1) (f := fun n => den (some (L, xs)) C (some .boolean) tQ_L_law (880, lwl i, .int (xs n) :: st, w)) (by omega) hi hL ((den_steps 4 rfl).trans (den_ck rfl)) rfl
theorem lw_24 {I I1 : Nat → Nat → Int32} {J J1 : Nat → Nat → Int64} {R R1 : Nat → Nat → Option Nat} {w2 : pW} (hi : i + 6 ≤ L) (hL : L ≤ 3072) {v : Int32} (h1 : C 130 [.ref 0, .int (xs (i + 1))] (176, I, J, R) = some (some (.int v), (176, I1, J1, R1))) (h2 : C 222 [.ref 140, .int (xs (i + 1))] (176, I1, J1, R1) = some (some (.int v), w2)) : den (some (L, xs)) C (some .boolean) tQ_L_law (865, lwl i, [], 176, I, J, R) = den (some (L, xs)) C (some .boolean) tQ_L_law (1107, lwl i, [], w2) := by
  refine Eq.trans (b := den (some (L, xs)) C (some .boolean) tQ_L_law (866, lwl i, [.ref 0], 176, I, J, R)) (den_steps 1 rfl) ?_
  refine (f_866 hi hL _ (176, I, J, R)).trans ?_
  refine Eq.trans (b := den (some (L, xs)) C (some .boolean) tQ_L_law (874, lwl i, [.int v], 176, I1, J1, R1)) (den_call (o := C 130 [.ref 0, .int (xs (i + 1))] (176, I, J, R)) (pc := 874) (L := lwl i) (st := []) rfl h1) ?_
  refine Eq.trans (b := den (some (L, xs)) C (some .boolean) tQ_L_law (875, lwl i, [.ref 140, .int v], 176, I1, J1, R1)) (den_steps 1 rfl) ?_
  refine (f_875 hi hL _ (176, I1, J1, R1)).trans ?_
  refine Eq.trans (b := den (some (L, xs)) C (some .boolean) tQ_L_law (883, lwl i, [.int v, .int v], w2)) (den_call (o := C 222 [.ref 140, .int (xs (i + 1))] (176, I1, J1, R1)) (pc := 883) (L := lwl i) (st := [.int v]) rfl h2) ?_
  exact Eq.trans (den_br (c := v = v) (f1 := (1107, lwl i, [], w2)) (f2 := (886, lwl i, [], w2)) rfl) (if_pos rfl)
theorem f_889 (hi : i + 6 ≤ L) (hL : L ≤ 3072) (st : List Value) (w : pW) : den (some (L, xs)) C (some .boolean) tQ_L_law (889, lwl i, st, w) = den (some (L, xs)) C (some .boolean) tQ_L_law (894, lwl i, .int (xs (i + 1)) :: st, w) := lw_f (k := 1) (f := fun n => den (some (L, xs)) C (some .boolean) tQ_L_law (894, lwl i, .int (xs n) :: st, w)) (by omega) hi hL ((den_steps 4 rfl).trans (den_ck rfl)) rfl
theorem f_898 (hi : i + 6 ≤ L) (hL : L ≤ 3072) (st : List Value) (w : pW) : den (some (L, xs)) C (some .boolean) tQ_L_law (898, lwl i, st, w) = den (some (L, xs)) C (some .boolean) tQ_L_law (903, lwl i, .int (xs (i + 1)) :: st, w) := lw_f (k := 1) (f := fun n => den (some (L, xs)) C (some .boolean) tQ_L_law (903, lwl i, .int (xs n) :: st, w)) (by omega) hi hL ((den_steps 4 rfl).trans (den_ck rfl)) rfl
theorem lw_25 {I I1 : Nat → Nat → Int32} {J J1 : Nat → Nat → Int64} {R R1 : Nat → Nat → Option Nat} {w2 : pW} (hi : i + 6 ≤ L) (hL : L ≤ 3072) {v : Int32} (h1 : C 131 [.ref 0, .int (xs (i + 1))] (176, I, J, R) = some (some (.int v), (176, I1, J1, R1))) (h2 : C 223 [.ref 140, .int (xs (i + 1))] (176, I1, J1, R1) = some (some (.int v), w2)) : den (some (L, xs)) C (some .boolean) tQ_L_law (888, lwl i, [], 176, I, J, R) = den (some (L, xs)) C (some .boolean) tQ_L_law (1107, lwl i, [], w2) := by
  refine Eq.trans (b := den (some (L, xs)) C (some .boolean) tQ_L_law (889, lwl i, [.ref 0], 176, I, J, R)) (den_steps 1 rfl) ?_
  refine (f_889 hi hL _ (176, I, J, R)).trans ?_
  refine Eq.trans (b := den (some (L, xs)) C (some .boolean) tQ_L_law (897, lwl i, [.int v], 176, I1, J1, R1)) (den_call (o := C 131 [.ref 0, .int (xs (i + 1))] (176, I, J, R)) (pc := 897) (L := lwl i) (st := []) rfl h1) ?_
  refine Eq.trans (b := den (some (L, xs)) C (some .boolean) tQ_L_law (898, lwl i, [.ref 140, .int v], 176, I1, J1, R1)) (den_steps 1 rfl) ?_
  refine (f_898 hi hL _ (176, I1, J1, R1)).trans ?_
  refine Eq.trans (b := den (some (L, xs)) C (some .boolean) tQ_L_law (906, lwl i, [.int v, .int v], w2)) (den_call (o := C 223 [.ref 140, .int (xs (i + 1))] (176, I1, J1, R1)) (pc := 906) (L := lwl i) (st := [.int v]) rfl h2) ?_
  exact Eq.trans (den_br (c := v = v) (f1 := (1107, lwl i, [], w2)) (f2 := (909, lwl i, [], w2)) rfl) (if_pos rfl)
theorem f_912 (hi : i + 6 ≤ L) (hL : L ≤ 3072) (st : List Value) (w : pW) : den (some (L, xs)) C (some .boolean) tQ_L_law (912, lwl i, st, w) = den (some (L, xs)) C (some .boolean) tQ_L_law (917, lwl i, .int (xs (i + 1)) :: st, w) := lw_f (k := 1) (f := fun n => den (some (L, xs)) C (some .boolean) tQ_L_law (917, lwl i, .int (xs n) :: st, w)) (by omega) hi hL ((den_steps 4 rfl).trans (den_ck rfl)) rfl
theorem f_917 (hi : i + 6 ≤ L) (hL : L ≤ 3072) (st : List Value) (w : pW) : den (some (L, xs)) C (some .boolean) tQ_L_law (917, lwl i, st, w) = den (some (L, xs)) C (some .boolean) tQ_L_law (922, lwl i, .int (xs (i + 2)) :: st, w) := lw_f (k := 2) (f := fun n => den (some (L, xs)) C (some .boolean) tQ_L_law (922, lwl i, .int (xs n) :: st, w)) (by omega) hi hL ((den_steps 4 rfl).trans (den_ck rfl)) rfl
theorem f_922 (hi : i + 6 ≤ L) (hL : L ≤ 3072) (st : List Value) (w : pW) : den (some (L, xs)) C (some .boolean) tQ_L_law (922, lwl i, st, w) = den (some (L, xs)) C (some .boolean) tQ_L_law (927, lwl i, .int (xs (i + 3)) :: st, w) := lw_f (k := 3) (f := fun n => den (some (L, xs)) C (some .boolean) tQ_L_law (927, lwl i, .int (xs n) :: st, w)) (by omega) hi hL ((den_steps 4 rfl).trans (den_ck rfl)) rfl
theorem f_927 (hi : i + 6 ≤ L) (hL : L ≤ 3072) (st : List Value) (w : pW) : den (some (L, xs)) C (some .boolean) tQ_L_law (927, lwl i, st, w) = den (some (L, xs)) C (some .boolean) tQ_L_law (932, lwl i, .int (xs (i + 4)) :: st, w) := lw_f (k := 4) (f := fun n => den (some (L, xs)) C (some .boolean) tQ_L_law (932, lwl i, .int (xs n) :: st, w)) (by omega) hi hL ((den_steps 4 rfl).trans (den_ck rfl)) rfl
theorem f_932 (hi : i + 6 ≤ L) (hL : L ≤ 3072) (st : List Value) (w : pW) : den (some (L, xs)) C (some .boolean) tQ_L_law (932, lwl i, st, w) = den (some (L, xs)) C (some .boolean) tQ_L_law (937, lwl i, .int (xs (i + 5)) :: st, w) := lw_f (k := 5) (f := fun n => den (some (L, xs)) C (some .boolean) tQ_L_law (937, lwl i, .int (xs n) :: st, w)) (by omega) hi hL ((den_steps 4 rfl).trans (den_ck rfl)) rfl
theorem f_941 (hi : i + 6 ≤ L) (hL : L ≤ 3072) (st : List Value) (w : pW) : den (some (L, xs)) C (some .boolean) tQ_L_law (941, lwl i, st, w) = den (some (L, xs)) C (some .boolean) tQ_L_law (946, lwl i, .int (xs (i + 1)) :: st, w) := lw_f (k := 1) (f := fun n => den (some (L, xs)) C (some .boolean) tQ_L_law (946, lwl i, .int (xs n) :: st, w)) (by omega) hi hL ((den_steps 4 rfl).trans (den_ck rfl)) rfl
theorem f_946 (hi : i + 6 ≤ L) (hL : L ≤ 3072) (st : List Value) (w : pW) : den (some (L, xs)) C (some .boolean) tQ_L_law (946, lwl i, st, w) = den (some (L, xs)) C (some .boolean) tQ_L_law (951, lwl i, .int (xs (i + 2)) :: st, w) := lw_f (k := 2) (f := fun n => den (some (L, xs)) C (some .boolean) tQ_L_law (951, lwl i, .int (xs n) :: st, w)) (by omega) hi hL ((den_steps 4 rfl).trans (den_ck rfl)) rfl
theorem f_951 (hi : i + 6 ≤ L) (hL : L ≤ 3072) (st : List Value) (w : pW) : den (some (L, xs)) C (some .boolean) tQ_L_law (951, lwl i, st, w) = den (some (L, xs)) C (some .boolean) tQ_L_law (956, lwl i, .int (xs (i + 3)) :: st, w) := lw_f (k := 3) (f := fun n => den (some (L, xs)) C (some .boolean) tQ_L_law (956, lwl i, .int (xs n) :: st, w)) (by omega) hi hL ((den_steps 4 rfl).trans (den_ck rfl)) rfl
theorem f_956 (hi : i + 6 ≤ L) (hL : L ≤ 3072) (st : List Value) (w : pW) : den (some (L, xs)) C (some .boolean) tQ_L_law (956, lwl i, st, w) = den (some (L, xs)) C (some .boolean) tQ_L_law (961, lwl i, .int (xs (i + 4)) :: st, w) := lw_f (k := 4) (f := fun n => den (some (L, xs)) C (some .boolean) tQ_L_law (961, lwl i, .int (xs n) :: st, w)) (by omega) hi hL ((den_steps 4 rfl).trans (den_ck rfl)) rfl
theorem f_961 (hi : i + 6 ≤ L) (hL : L ≤ 3072) (st : List Value) (w : pW) : den (some (L, xs)) C (some .boolean) tQ_L_law (961, lwl i, st, w) = den (some (L, xs)) C (some .boolean) tQ_L_law (966, lwl i, .int (xs (i + 5)) :: st, w) := lw_f (k := 5) (f := fun n => den (some (L, xs)) C (some .boolean) tQ_L_law (966, lwl i, .int (xs n) :: st, w)) (by omega) hi hL ((den_steps 4 rfl).trans (den_ck rfl)) rfl
theorem lw_26 {I I1 : Nat → Nat → Int32} {J J1 : Nat → Nat → Int64} {R R1 : Nat → Nat → Option Nat} {w2 : pW} (hi : i + 6 ≤ L) (hL : L ≤ 3072) {v : Int32} (h1 : C 132 [.ref 0, .int (xs (i + 1)), .int (xs (i + 2)), .int (xs (i + 3)), .int (xs (i + 4)), .int (xs (i + 5))] (176, I, J, R) = some (some (.int v), (176, I1, J1, R1))) (h2 : C 225 [.ref 140, .int (xs (i + 1)), .int (xs (i + 2)), .int (xs (i + 3)), .int (xs (i + 4)), .int (xs (i + 5))] (176, I1, J1, R1) = some (some (.int v), w2)) : den (some (L, xs)) C (some .boolean) tQ_L_law (911, lwl i, [], 176, I, J, R) = den (some (L, xs)) C (some .boolean) tQ_L_law (1107, lwl i, [], w2) := by
  refine Eq.trans (b := den (some (L, xs)) C (some .boolean) tQ_L_law (912, lwl i, [.ref 0], 176, I, J, R)) (den_steps 1 rfl) ?_
  refine (f_912 hi hL _ (176, I, J, R)).trans ?_
  refine (f_917 hi hL _ (176, I, J, R)).trans ?_
  refine (f_922 hi hL _ (176, I, J, R)).trans ?_
  refine (f_927 hi hL _ (176, I, J, R)).trans ?_
  refine (f_932 hi hL _ (176, I, J, R)).trans ?_
  refine Eq.trans (b := den (some (L, xs)) C (some .boolean) tQ_L_law (940, lwl i, [.int v], 176, I1, J1, R1)) (den_call (o := C 132 [.ref 0, .int (xs (i + 1)), .int (xs (i + 2)), .int (xs (i + 3)), .int (xs (i + 4)), .int (xs (i + 5))] (176, I, J, R)) (pc := 940) (L := lwl i) (st := []) rfl h1) ?_
  refine Eq.trans (b := den (some (L, xs)) C (some .boolean) tQ_L_law (941, lwl i, [.ref 140, .int v], 176, I1, J1, R1)) (den_steps 1 rfl) ?_
  refine (f_941 hi hL _ (176, I1, J1, R1)).trans ?_
  refine (f_946 hi hL _ (176, I1, J1, R1)).trans ?_
  refine (f_951 hi hL _ (176, I1, J1, R1)).trans ?_
  refine (f_956 hi hL _ (176, I1, J1, R1)).trans ?_
  refine (f_961 hi hL _ (176, I1, J1, R1)).trans ?_
  refine Eq.trans (b := den (some (L, xs)) C (some .boolean) tQ_L_law (969, lwl i, [.int v, .int v], w2)) (den_call (o := C 225 [.ref 140, .int (xs (i + 1)), .int (xs (i + 2)), .int (xs (i + 3)), .int (xs (i + 4)), .int (xs (i + 5))] (176, I1, J1, R1)) (pc := 969) (L := lwl i) (st := [.int v]) rfl h2) ?_
  exact Eq.trans (den_br (c := v = v) (f1 := (1107, lwl i, [], w2)) (f2 := (972, lwl i, [], w2)) rfl) (if_pos rfl)
theorem f_975 (hi : i + 6 ≤ L) (hL : L ≤ 3072) (st : List Value) (w : pW) : den (some (L, xs)) C (some .boolean) tQ_L_law (975, lwl i, st, w) = den (some (L, xs)) C (some .boolean) tQ_L_law (980, lwl i, .int (xs (i + 1)) :: st, w) := lw_f (k := 1) (f := fun n => den (some (L, xs)) C (some .boolean) tQ_L_law (980, lwl i, .int (xs n) :: st, w)) (by omega) hi hL ((den_steps 4 rfl).trans (den_ck rfl)) rfl
theorem f_980 (hi : i + 6 ≤ L) (hL : L ≤ 3072) (st : List Value) (w : pW) : den (some (L, xs)) C (some .boolean) tQ_L_law (980, lwl i, st, w) = den (some (L, xs)) C (some .boolean) tQ_L_law (985, lwl i, .int (xs (i + 2)) :: st, w) := lw_f (k := 2) (f := fun n => den (some (L, xs)) C (some .boolean) tQ_L_law (985, lwl i, .int (xs n) :: st, w)) (by omega) hi hL ((den_steps 4 rfl).trans (den_ck rfl)) rfl
theorem f_985 (hi : i + 6 ≤ L) (hL : L ≤ 3072) (st : List Value) (w : pW) : den (some (L, xs)) C (some .boolean) tQ_L_law (985, lwl i, st, w) = den (some (L, xs)) C (some .boolean) tQ_L_law (990, lwl i, .int (xs (i + 3)) :: st, w) := lw_f (k := 3) (f := fun n => den (some (L, xs)) C (some .boolean) tQ_L_law (990, lwl i, .int (xs n) :: st, w)) (by omega) hi hL ((den_steps 4 rfl).trans (den_ck rfl)) rfl
theorem f_994 (hi : i + 6 ≤ L) (hL : L ≤ 3072) (st : List Value) (w : pW) : den (some (L, xs)) C (some .boolean) tQ_L_law (994, lwl i, st, w) = den (some (L, xs)) C (some .boolean) tQ_L_law (999, lwl i, .int (xs (i + 1)) :: st, w) := lw_f (k := 1) (f := fun n => den (some (L, xs)) C (some .boolean) tQ_L_law (999, lwl i, .int (xs n) :: st, w)) (by omega) hi hL ((den_steps 4 rfl).trans (den_ck rfl)) rfl
theorem f_999 (hi : i + 6 ≤ L) (hL : L ≤ 3072) (st : List Value) (w : pW) : den (some (L, xs)) C (some .boolean) tQ_L_law (999, lwl i, st, w) = den (some (L, xs)) C (some .boolean) tQ_L_law (1004, lwl i, .int (xs (i + 2)) :: st, w) := lw_f (k := 2) (f := fun n => den (some (L, xs)) C (some .boolean) tQ_L_law (1004, lwl i, .int (xs n) :: st, w)) (by omega) hi hL ((den_steps 4 rfl).trans (den_ck rfl)) rfl
theorem f_1004 (hi : i + 6 ≤ L) (hL : L ≤ 3072) (st : List Value) (w : pW) : den (some (L, xs)) C (some .boolean) tQ_L_law (1004, lwl i, st, w) = den (some (L, xs)) C (some .boolean) tQ_L_law (1009, lwl i, .int (xs (i + 3)) :: st, w) := lw_f (k := 3) (f := fun n => den (some (L, xs)) C (some .boolean) tQ_L_law (1009, lwl i, .int (xs n) :: st, w)) (by omega) hi hL ((den_steps 4 rfl).trans (den_ck rfl)) rfl
theorem lw_27 {I I1 : Nat → Nat → Int32} {J J1 : Nat → Nat → Int64} {R R1 : Nat → Nat → Option Nat} {w2 : pW} (hi : i + 6 ≤ L) (hL : L ≤ 3072) {v : Int32} (h1 : C 133 [.ref 0, .int (xs (i + 1)), .int (xs (i + 2)), .int (xs (i + 3))] (176, I, J, R) = some (some (.int v), (176, I1, J1, R1))) (h2 : C 226 [.ref 140, .int (xs (i + 1)), .int (xs (i + 2)), .int (xs (i + 3))] (176, I1, J1, R1) = some (some (.int v), w2)) : den (some (L, xs)) C (some .boolean) tQ_L_law (974, lwl i, [], 176, I, J, R) = den (some (L, xs)) C (some .boolean) tQ_L_law (1107, lwl i, [], w2) := by
  refine Eq.trans (b := den (some (L, xs)) C (some .boolean) tQ_L_law (975, lwl i, [.ref 0], 176, I, J, R)) (den_steps 1 rfl) ?_
  refine (f_975 hi hL _ (176, I, J, R)).trans ?_
  refine (f_980 hi hL _ (176, I, J, R)).trans ?_
  refine (f_985 hi hL _ (176, I, J, R)).trans ?_
  refine Eq.trans (b := den (some (L, xs)) C (some .boolean) tQ_L_law (993, lwl i, [.int v], 176, I1, J1, R1)) (den_call (o := C 133 [.ref 0, .int (xs (i + 1)), .int (xs (i + 2)), .int (xs (i + 3))] (176, I, J, R)) (pc := 993) (L := lwl i) (st := []) rfl h1) ?_
  refine Eq.trans (b := den (some (L, xs)) C (some .boolean) tQ_L_law (994, lwl i, [.ref 140, .int v], 176, I1, J1, R1)) (den_steps 1 rfl) ?_
  refine (f_994 hi hL _ (176, I1, J1, R1)).trans ?_
  refine (f_999 hi hL _ (176, I1, J1, R1)).trans ?_
  refine (f_1004 hi hL _ (176, I1, J1, R1)).trans ?_
  refine Eq.trans (b := den (some (L, xs)) C (some .boolean) tQ_L_law (1012, lwl i, [.int v, .int v], w2)) (den_call (o := C 226 [.ref 140, .int (xs (i + 1)), .int (xs (i + 2)), .int (xs (i + 3))] (176, I1, J1, R1)) (pc := 1012) (L := lwl i) (st := [.int v]) rfl h2) ?_
  exact Eq.trans (den_br (c := v = v) (f1 := (1107, lwl i, [], w2)) (f2 := (1015, lwl i, [], w2)) rfl) (if_pos rfl)
theorem f_1018 (hi : i + 6 ≤ L) (hL : L ≤ 3072) (st : List Value) (w : pW) : den (some (L, xs)) C (some .boolean) tQ_L_law (1018, lwl i, st, w) = den (some (L, xs)) C (some .boolean) tQ_L_law (1023, lwl i, .int (xs (i + 1)) :: st, w) := lw_f (k := 1) (f := fun n => den (some (L, xs)) C (some .boolean) tQ_L_law (1023, lwl i, .int (xs n) :: st, w)) (by omega) hi hL ((den_steps 4 rfl).trans (den_ck rfl)) rfl
theorem f_1023 (hi : i + 6 ≤ L) (hL : L ≤ 3072) (st : List Value) (w : pW) : den (some (L, xs)) C (some .boolean) tQ_L_law (1023, lwl i, st, w) = den (some (L, xs)) C (some .boolean) tQ_L_law (1028, lwl i, .int (xs (i + 2)) :: st, w) := lw_f (k := 2) (f := fun n => den (some (L, xs)) C (some .boolean) tQ_L_law (1028, lwl i, .int (xs n) :: st, w)) (by omega) hi hL ((den_steps 4 rfl).trans (den_ck rfl)) rfl
theorem f_1032 (hi : i + 6 ≤ L) (hL : L ≤ 3072) (st : List Value) (w : pW) : den (some (L, xs)) C (some .boolean) tQ_L_law (1032, lwl i, st, w) = den (some (L, xs)) C (some .boolean) tQ_L_law (1037, lwl i, .int (xs (i + 1)) :: st, w) := lw_f (k := 1) (f := fun n => den (some (L, xs)) C (some .boolean) tQ_L_law (1037, lwl i, .int (xs n) :: st, w)) (by omega) hi hL ((den_steps 4 rfl).trans (den_ck rfl)) rfl
theorem f_1037 (hi : i + 6 ≤ L) (hL : L ≤ 3072) (st : List Value) (w : pW) : den (some (L, xs)) C (some .boolean) tQ_L_law (1037, lwl i, st, w) = den (some (L, xs)) C (some .boolean) tQ_L_law (1042, lwl i, .int (xs (i + 2)) :: st, w) := lw_f (k := 2) (f := fun n => den (some (L, xs)) C (some .boolean) tQ_L_law (1042, lwl i, .int (xs n) :: st, w)) (by omega) hi hL ((den_steps 4 rfl).trans (den_ck rfl)) rfl
theorem lw_28 {I I1 : Nat → Nat → Int32} {J J1 : Nat → Nat → Int64} {R R1 : Nat → Nat → Option Nat} {w2 : pW} (hi : i + 6 ≤ L) (hL : L ≤ 3072) {v : Int64} (h1 : C 134 [.ref 0, .int (xs (i + 1)), .int (xs (i + 2))] (176, I, J, R) = some (some (.long v), (176, I1, J1, R1))) (h2 : C 230 [.ref 140, .int (xs (i + 1)), .int (xs (i + 2))] (176, I1, J1, R1) = some (some (.long v), w2)) : den (some (L, xs)) C (some .boolean) tQ_L_law (1017, lwl i, [], 176, I, J, R) = den (some (L, xs)) C (some .boolean) tQ_L_law (1107, lwl i, [], w2) := by
  refine Eq.trans (b := den (some (L, xs)) C (some .boolean) tQ_L_law (1018, lwl i, [.ref 0], 176, I, J, R)) (den_steps 1 rfl) ?_
  refine (f_1018 hi hL _ (176, I, J, R)).trans ?_
  refine (f_1023 hi hL _ (176, I, J, R)).trans ?_
  refine Eq.trans (b := den (some (L, xs)) C (some .boolean) tQ_L_law (1031, lwl i, [.long v], 176, I1, J1, R1)) (den_call (o := C 134 [.ref 0, .int (xs (i + 1)), .int (xs (i + 2))] (176, I, J, R)) (pc := 1031) (L := lwl i) (st := []) rfl h1) ?_
  refine Eq.trans (b := den (some (L, xs)) C (some .boolean) tQ_L_law (1032, lwl i, [.ref 140, .long v], 176, I1, J1, R1)) (den_steps 1 rfl) ?_
  refine (f_1032 hi hL _ (176, I1, J1, R1)).trans ?_
  refine (f_1037 hi hL _ (176, I1, J1, R1)).trans ?_
  refine Eq.trans (b := den (some (L, xs)) C (some .boolean) tQ_L_law (1045, lwl i, [.long v, .long v], w2)) (den_call (o := C 230 [.ref 140, .int (xs (i + 1)), .int (xs (i + 2))] (176, I1, J1, R1)) (pc := 1045) (L := lwl i) (st := [.long v]) rfl h2) ?_
  refine Eq.trans (b := den (some (L, xs)) C (some .boolean) tQ_L_law (1046, lwl i, [.int (lg_cmp v v)], w2)) (den_steps 1 rfl) ?_
  refine Eq.trans (den_br (c := lg_cmp v v = 0) (f1 := (1107, lwl i, [], w2)) (f2 := (1049, lwl i, [], w2)) rfl) (if_pos (cmp_z.mpr rfl))
theorem f_1052 (hi : i + 6 ≤ L) (hL : L ≤ 3072) (st : List Value) (w : pW) : den (some (L, xs)) C (some .boolean) tQ_L_law (1052, lwl i, st, w) = den (some (L, xs)) C (some .boolean) tQ_L_law (1057, lwl i, .int (xs (i + 1)) :: st, w) := lw_f (k := 1) (f := fun n => den (some (L, xs)) C (some .boolean) tQ_L_law (1057, lwl i, .int (xs n) :: st, w)) (by omega) hi hL ((den_steps 4 rfl).trans (den_ck rfl)) rfl
theorem f_1057 (hi : i + 6 ≤ L) (hL : L ≤ 3072) (st : List Value) (w : pW) : den (some (L, xs)) C (some .boolean) tQ_L_law (1057, lwl i, st, w) = den (some (L, xs)) C (some .boolean) tQ_L_law (1062, lwl i, .int (xs (i + 2)) :: st, w) := lw_f (k := 2) (f := fun n => den (some (L, xs)) C (some .boolean) tQ_L_law (1062, lwl i, .int (xs n) :: st, w)) (by omega) hi hL ((den_steps 4 rfl).trans (den_ck rfl)) rfl
theorem f_1066 (hi : i + 6 ≤ L) (hL : L ≤ 3072) (st : List Value) (w : pW) : den (some (L, xs)) C (some .boolean) tQ_L_law (1066, lwl i, st, w) = den (some (L, xs)) C (some .boolean) tQ_L_law (1071, lwl i, .int (xs (i + 1)) :: st, w) := lw_f (k := 1) (f := fun n => den (some (L, xs)) C (some .boolean) tQ_L_law (1071, lwl i, .int (xs n) :: st, w)) (by omega) hi hL ((den_steps 4 rfl).trans (den_ck rfl)) rfl
theorem f_1071 (hi : i + 6 ≤ L) (hL : L ≤ 3072) (st : List Value) (w : pW) : den (some (L, xs)) C (some .boolean) tQ_L_law (1071, lwl i, st, w) = den (some (L, xs)) C (some .boolean) tQ_L_law (1076, lwl i, .int (xs (i + 2)) :: st, w) := lw_f (k := 2) (f := fun n => den (some (L, xs)) C (some .boolean) tQ_L_law (1076, lwl i, .int (xs n) :: st, w)) (by omega) hi hL ((den_steps 4 rfl).trans (den_ck rfl)) rfl
theorem lw_29 {I I1 : Nat → Nat → Int32} {J J1 : Nat → Nat → Int64} {R R1 : Nat → Nat → Option Nat} {w2 : pW} (hi : i + 6 ≤ L) (hL : L ≤ 3072) {v : Int32} (h1 : C 135 [.ref 0, .int (xs (i + 1)), .int (xs (i + 2))] (176, I, J, R) = some (some (.int v), (176, I1, J1, R1))) (h2 : C 231 [.ref 140, .int (xs (i + 1)), .int (xs (i + 2))] (176, I1, J1, R1) = some (some (.int v), w2)) : den (some (L, xs)) C (some .boolean) tQ_L_law (1051, lwl i, [], 176, I, J, R) = den (some (L, xs)) C (some .boolean) tQ_L_law (1107, lwl i, [], w2) := by
  refine Eq.trans (b := den (some (L, xs)) C (some .boolean) tQ_L_law (1052, lwl i, [.ref 0], 176, I, J, R)) (den_steps 1 rfl) ?_
  refine (f_1052 hi hL _ (176, I, J, R)).trans ?_
  refine (f_1057 hi hL _ (176, I, J, R)).trans ?_
  refine Eq.trans (b := den (some (L, xs)) C (some .boolean) tQ_L_law (1065, lwl i, [.int v], 176, I1, J1, R1)) (den_call (o := C 135 [.ref 0, .int (xs (i + 1)), .int (xs (i + 2))] (176, I, J, R)) (pc := 1065) (L := lwl i) (st := []) rfl h1) ?_
  refine Eq.trans (b := den (some (L, xs)) C (some .boolean) tQ_L_law (1066, lwl i, [.ref 140, .int v], 176, I1, J1, R1)) (den_steps 1 rfl) ?_
  refine (f_1066 hi hL _ (176, I1, J1, R1)).trans ?_
  refine (f_1071 hi hL _ (176, I1, J1, R1)).trans ?_
  refine Eq.trans (b := den (some (L, xs)) C (some .boolean) tQ_L_law (1079, lwl i, [.int v, .int v], w2)) (den_call (o := C 231 [.ref 140, .int (xs (i + 1)), .int (xs (i + 2))] (176, I1, J1, R1)) (pc := 1079) (L := lwl i) (st := [.int v]) rfl h2) ?_
  exact Eq.trans (den_br (c := v = v) (f1 := (1107, lwl i, [], w2)) (f2 := (1082, lwl i, [], w2)) rfl) (if_pos rfl)
theorem f_1085 (hi : i + 6 ≤ L) (hL : L ≤ 3072) (st : List Value) (w : pW) : den (some (L, xs)) C (some .boolean) tQ_L_law (1085, lwl i, st, w) = den (some (L, xs)) C (some .boolean) tQ_L_law (1090, lwl i, .int (xs (i + 1)) :: st, w) := lw_f (k := 1) (f := fun n => den (some (L, xs)) C (some .boolean) tQ_L_law (1090, lwl i, .int (xs n) :: st, w)) (by omega) hi hL ((den_steps 4 rfl).trans (den_ck rfl)) rfl
theorem f_1094 (hi : i + 6 ≤ L) (hL : L ≤ 3072) (st : List Value) (w : pW) : den (some (L, xs)) C (some .boolean) tQ_L_law (1094, lwl i, st, w) = den (some (L, xs)) C (some .boolean) tQ_L_law (1099, lwl i, .int (xs (i + 1)) :: st, w) := lw_f (k := 1) (f := fun n => den (some (L, xs)) C (some .boolean) tQ_L_law (1099, lwl i, .int (xs n) :: st, w)) (by omega) hi hL ((den_steps 4 rfl).trans (den_ck rfl)) rfl
theorem lw_30 {I I1 : Nat → Nat → Int32} {J J1 : Nat → Nat → Int64} {R R1 : Nat → Nat → Option Nat} {w2 : pW} (hi : i + 6 ≤ L) (hL : L ≤ 3072) {v : Int32} (h1 : C 136 [.ref 0, .int (xs (i + 1))] (176, I, J, R) = some (some (.int v), (176, I1, J1, R1))) (h2 : C 232 [.ref 140, .int (xs (i + 1))] (176, I1, J1, R1) = some (some (.int v), w2)) : den (some (L, xs)) C (some .boolean) tQ_L_law (1084, lwl i, [], 176, I, J, R) = den (some (L, xs)) C (some .boolean) tQ_L_law (1107, lwl i, [], w2) := by
  refine Eq.trans (b := den (some (L, xs)) C (some .boolean) tQ_L_law (1085, lwl i, [.ref 0], 176, I, J, R)) (den_steps 1 rfl) ?_
  refine (f_1085 hi hL _ (176, I, J, R)).trans ?_
  refine Eq.trans (b := den (some (L, xs)) C (some .boolean) tQ_L_law (1093, lwl i, [.int v], 176, I1, J1, R1)) (den_call (o := C 136 [.ref 0, .int (xs (i + 1))] (176, I, J, R)) (pc := 1093) (L := lwl i) (st := []) rfl h1) ?_
  refine Eq.trans (b := den (some (L, xs)) C (some .boolean) tQ_L_law (1094, lwl i, [.ref 140, .int v], 176, I1, J1, R1)) (den_steps 1 rfl) ?_
  refine (f_1094 hi hL _ (176, I1, J1, R1)).trans ?_
  refine Eq.trans (b := den (some (L, xs)) C (some .boolean) tQ_L_law (1102, lwl i, [.int v, .int v], w2)) (den_call (o := C 232 [.ref 140, .int (xs (i + 1))] (176, I1, J1, R1)) (pc := 1102) (L := lwl i) (st := [.int v]) rfl h2) ?_
  exact Eq.trans (den_br (c := v = v) (f1 := (1107, lwl i, [], w2)) (f2 := (1105, lwl i, [], w2)) rfl) (if_pos rfl)
theorem lw_step (w : pW) : den (some (L, xs)) C (some .boolean) tQ_L_law (1107, lwl i, [], w) = den (some (L, xs)) C (some .boolean) tQ_L_law (18, lwl (i + 6), [], w) := by
  refine Eq.trans (b := den (some (L, xs)) C (some .boolean) tQ_L_law (18, [some (.retAddr 0), some (.ref 0), some (.ref 140), some (.int (i32 (i : Int) + 6))], [], w)) (den_steps 2 rfl) ?_
  rw [show i32 (i : Int) + 6 = i32 ((i + 6 : Nat) : Int) from by rw [li_6, i32_add]; rfl]
theorem lw_head (hL : L ≤ 3072) (hi : i + 6 ≤ L) (w : pW) : den (some (L, xs)) C (some .boolean) tQ_L_law (18, lwl i, [], w) = den (some (L, xs)) C (some .boolean) tQ_L_law (33, lwl i, [.int (xs i &&& 31)], w) := by
  have e : (i32 (i : Int)).toNatClampNeg = i := by rw [i32_nat (by omega), Int.toNat_natCast]
  refine Eq.trans (b := if Int32.ofNat L - 6 < i32 (i : Int) then den (some (L, xs)) C (some .boolean) tQ_L_law (1113, lwl i, [], w) else den (some (L, xs)) C (some .boolean) tQ_L_law (27, lwl i, [], w)) ((den_steps 5 rfl).trans (den_br rfl)) ?_
  have eL : Int32.ofNat L - 6 = i32 ((L : Int) - 6) := by
    rw [li_6, show Int32.ofNat L = i32 (L : Int) from rfl, i32_sub]
  rw [eL, if_neg (show ¬ (i32 ((L : Int) - 6) < i32 (i : Int)) by rw [i32_lt (by omega) (by omega)]; omega)]
  refine Eq.trans (b := if i32 (i : Int) < 0 ∨ L ≤ (i32 (i : Int)).toNatClampNeg then none else den (some (L, xs)) C (some .boolean) tQ_L_law (30, lwl i, [.int (xs (i32 (i : Int)).toNatClampNeg)], w)) ((den_steps 2 rfl).trans (den_ck rfl)) ?_
  rw [if_neg (show ¬ (i32 (i : Int) < 0 ∨ L ≤ (i32 (i : Int)).toNatClampNeg) by rw [e, li_0, i32_lt (by omega) (by omega)]; omega), e]
  exact den_steps 2 rfl
theorem lw_end (hL : L ≤ 3072) (hi : L < i + 6) (hi2 : i ≤ 4000) (w : pW) : den (some (L, xs)) C (some .boolean) tQ_L_law (18, lwl i, [], w) = some (some (.int 1), w) := by
  refine Eq.trans (b := if Int32.ofNat L - 6 < i32 (i : Int) then den (some (L, xs)) C (some .boolean) tQ_L_law (1113, lwl i, [], w) else den (some (L, xs)) C (some .boolean) tQ_L_law (27, lwl i, [], w)) ((den_steps 5 rfl).trans (den_br rfl)) ?_
  have eL : Int32.ofNat L - 6 = i32 ((L : Int) - 6) := by
    rw [li_6, show Int32.ofNat L = i32 (L : Int) from rfl, i32_sub]
  rw [eL, if_pos (show i32 ((L : Int) - 6) < i32 (i : Int) by rw [i32_lt (by omega) (by omega)]; omega)]
  exact (den_steps 1 rfl).trans (den_ret rfl)
theorem lw_c0 {x : Int32} (hx : x = 0) (w : pW) : den (some (L, xs)) C (some .boolean) tQ_L_law (33, lwl i, [.int x], w) = den (some (L, xs)) C (some .boolean) tQ_L_law (172, lwl i, [], w) := by
  subst hx
  exact den_steps 1 rfl
theorem lw_c1 {x : Int32} (hx : x = 1) (w : pW) : den (some (L, xs)) C (some .boolean) tQ_L_law (33, lwl i, [.int x], w) = den (some (L, xs)) C (some .boolean) tQ_L_law (235, lwl i, [], w) := by
  subst hx
  exact den_steps 1 rfl
theorem lw_c2 {x : Int32} (hx : x = 2) (w : pW) : den (some (L, xs)) C (some .boolean) tQ_L_law (33, lwl i, [.int x], w) = den (some (L, xs)) C (some .boolean) tQ_L_law (258, lwl i, [], w) := by
  subst hx
  exact den_steps 1 rfl
theorem lw_c3 {x : Int32} (hx : x = 3) (w : pW) : den (some (L, xs)) C (some .boolean) tQ_L_law (33, lwl i, [.int x], w) = den (some (L, xs)) C (some .boolean) tQ_L_law (271, lwl i, [], w) := by
  subst hx
  exact den_steps 1 rfl
theorem lw_c4 {x : Int32} (hx : x = 4) (w : pW) : den (some (L, xs)) C (some .boolean) tQ_L_law (33, lwl i, [.int x], w) = den (some (L, xs)) C (some .boolean) tQ_L_law (294, lwl i, [], w) := by
  subst hx
  exact den_steps 1 rfl
theorem lw_c5 {x : Int32} (hx : x = 5) (w : pW) : den (some (L, xs)) C (some .boolean) tQ_L_law (33, lwl i, [.int x], w) = den (some (L, xs)) C (some .boolean) tQ_L_law (317, lwl i, [], w) := by
  subst hx
  exact den_steps 1 rfl
theorem lw_c6 {x : Int32} (hx : x = 6) (w : pW) : den (some (L, xs)) C (some .boolean) tQ_L_law (33, lwl i, [.int x], w) = den (some (L, xs)) C (some .boolean) tQ_L_law (350, lwl i, [], w) := by
  subst hx
  exact den_steps 1 rfl
theorem lw_c7 {x : Int32} (hx : x = 7) (w : pW) : den (some (L, xs)) C (some .boolean) tQ_L_law (33, lwl i, [.int x], w) = den (some (L, xs)) C (some .boolean) tQ_L_law (373, lwl i, [], w) := by
  subst hx
  exact den_steps 1 rfl
theorem lw_c8 {x : Int32} (hx : x = 8) (w : pW) : den (some (L, xs)) C (some .boolean) tQ_L_law (33, lwl i, [.int x], w) = den (some (L, xs)) C (some .boolean) tQ_L_law (406, lwl i, [], w) := by
  subst hx
  exact den_steps 1 rfl
theorem lw_c9 {x : Int32} (hx : x = 9) (w : pW) : den (some (L, xs)) C (some .boolean) tQ_L_law (33, lwl i, [.int x], w) = den (some (L, xs)) C (some .boolean) tQ_L_law (439, lwl i, [], w) := by
  subst hx
  exact den_steps 1 rfl
theorem lw_c10 {x : Int32} (hx : x = 10) (w : pW) : den (some (L, xs)) C (some .boolean) tQ_L_law (33, lwl i, [.int x], w) = den (some (L, xs)) C (some .boolean) tQ_L_law (462, lwl i, [], w) := by
  subst hx
  exact den_steps 1 rfl
theorem lw_c11 {x : Int32} (hx : x = 11) (w : pW) : den (some (L, xs)) C (some .boolean) tQ_L_law (33, lwl i, [.int x], w) = den (some (L, xs)) C (some .boolean) tQ_L_law (505, lwl i, [], w) := by
  subst hx
  exact den_steps 1 rfl
theorem lw_c12 {x : Int32} (hx : x = 12) (w : pW) : den (some (L, xs)) C (some .boolean) tQ_L_law (33, lwl i, [.int x], w) = den (some (L, xs)) C (some .boolean) tQ_L_law (538, lwl i, [], w) := by
  subst hx
  exact den_steps 1 rfl
theorem lw_c13 {x : Int32} (hx : x = 13) (w : pW) : den (some (L, xs)) C (some .boolean) tQ_L_law (33, lwl i, [.int x], w) = den (some (L, xs)) C (some .boolean) tQ_L_law (571, lwl i, [], w) := by
  subst hx
  exact den_steps 1 rfl
theorem lw_c14 {x : Int32} (hx : x = 14) (w : pW) : den (some (L, xs)) C (some .boolean) tQ_L_law (33, lwl i, [.int x], w) = den (some (L, xs)) C (some .boolean) tQ_L_law (604, lwl i, [], w) := by
  subst hx
  exact den_steps 1 rfl
theorem lw_c15 {x : Int32} (hx : x = 15) (w : pW) : den (some (L, xs)) C (some .boolean) tQ_L_law (33, lwl i, [.int x], w) = den (some (L, xs)) C (some .boolean) tQ_L_law (627, lwl i, [], w) := by
  subst hx
  exact den_steps 1 rfl
theorem lw_c16 {x : Int32} (hx : x = 16) (w : pW) : den (some (L, xs)) C (some .boolean) tQ_L_law (33, lwl i, [.int x], w) = den (some (L, xs)) C (some .boolean) tQ_L_law (661, lwl i, [], w) := by
  subst hx
  exact den_steps 1 rfl
theorem lw_c17 {x : Int32} (hx : x = 17) (w : pW) : den (some (L, xs)) C (some .boolean) tQ_L_law (33, lwl i, [.int x], w) = den (some (L, xs)) C (some .boolean) tQ_L_law (684, lwl i, [], w) := by
  subst hx
  exact den_steps 1 rfl
theorem lw_c18 {x : Int32} (hx : x = 18) (w : pW) : den (some (L, xs)) C (some .boolean) tQ_L_law (33, lwl i, [.int x], w) = den (some (L, xs)) C (some .boolean) tQ_L_law (697, lwl i, [], w) := by
  subst hx
  exact den_steps 1 rfl
theorem lw_c19 {x : Int32} (hx : x = 19) (w : pW) : den (some (L, xs)) C (some .boolean) tQ_L_law (33, lwl i, [.int x], w) = den (some (L, xs)) C (some .boolean) tQ_L_law (710, lwl i, [], w) := by
  subst hx
  exact den_steps 1 rfl
theorem lw_c20 {x : Int32} (hx : x = 20) (w : pW) : den (some (L, xs)) C (some .boolean) tQ_L_law (33, lwl i, [.int x], w) = den (some (L, xs)) C (some .boolean) tQ_L_law (743, lwl i, [], w) := by
  subst hx
  exact den_steps 1 rfl
theorem lw_c21 {x : Int32} (hx : x = 21) (w : pW) : den (some (L, xs)) C (some .boolean) tQ_L_law (33, lwl i, [.int x], w) = den (some (L, xs)) C (some .boolean) tQ_L_law (766, lwl i, [], w) := by
  subst hx
  exact den_steps 1 rfl
theorem lw_c22 {x : Int32} (hx : x = 22) (w : pW) : den (some (L, xs)) C (some .boolean) tQ_L_law (33, lwl i, [.int x], w) = den (some (L, xs)) C (some .boolean) tQ_L_law (799, lwl i, [], w) := by
  subst hx
  exact den_steps 1 rfl
theorem lw_c23 {x : Int32} (hx : x = 23) (w : pW) : den (some (L, xs)) C (some .boolean) tQ_L_law (33, lwl i, [.int x], w) = den (some (L, xs)) C (some .boolean) tQ_L_law (822, lwl i, [], w) := by
  subst hx
  exact den_steps 1 rfl
theorem lw_c24 {x : Int32} (hx : x = 24) (w : pW) : den (some (L, xs)) C (some .boolean) tQ_L_law (33, lwl i, [.int x], w) = den (some (L, xs)) C (some .boolean) tQ_L_law (865, lwl i, [], w) := by
  subst hx
  exact den_steps 1 rfl
theorem lw_c25 {x : Int32} (hx : x = 25) (w : pW) : den (some (L, xs)) C (some .boolean) tQ_L_law (33, lwl i, [.int x], w) = den (some (L, xs)) C (some .boolean) tQ_L_law (888, lwl i, [], w) := by
  subst hx
  exact den_steps 1 rfl
theorem lw_c26 {x : Int32} (hx : x = 26) (w : pW) : den (some (L, xs)) C (some .boolean) tQ_L_law (33, lwl i, [.int x], w) = den (some (L, xs)) C (some .boolean) tQ_L_law (911, lwl i, [], w) := by
  subst hx
  exact den_steps 1 rfl
theorem lw_c27 {x : Int32} (hx : x = 27) (w : pW) : den (some (L, xs)) C (some .boolean) tQ_L_law (33, lwl i, [.int x], w) = den (some (L, xs)) C (some .boolean) tQ_L_law (974, lwl i, [], w) := by
  subst hx
  exact den_steps 1 rfl
theorem lw_c28 {x : Int32} (hx : x = 28) (w : pW) : den (some (L, xs)) C (some .boolean) tQ_L_law (33, lwl i, [.int x], w) = den (some (L, xs)) C (some .boolean) tQ_L_law (1017, lwl i, [], w) := by
  subst hx
  exact den_steps 1 rfl
theorem lw_c29 {x : Int32} (hx : x = 29) (w : pW) : den (some (L, xs)) C (some .boolean) tQ_L_law (33, lwl i, [.int x], w) = den (some (L, xs)) C (some .boolean) tQ_L_law (1051, lwl i, [], w) := by
  subst hx
  exact den_steps 1 rfl
theorem lw_c30 {x : Int32} (hx : x = 30) (w : pW) : den (some (L, xs)) C (some .boolean) tQ_L_law (33, lwl i, [.int x], w) = den (some (L, xs)) C (some .boolean) tQ_L_law (1084, lwl i, [], w) := by
  subst hx
  exact den_steps 1 rfl
theorem lw_cd {x : Int32} (hx : x = 31) (w : pW) : den (some (L, xs)) C (some .boolean) tQ_L_law (33, lwl i, [.int x], w) = den (some (L, xs)) C (some .boolean) tQ_L_law (1107, lwl i, [], w) := by
  subst hx
  exact den_steps 1 rfl
end
