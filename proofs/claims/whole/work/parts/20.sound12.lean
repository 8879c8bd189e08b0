/-! THE PURE MACHINE IS SOUND, 12: ends -/
def isL (x : pR) : Prop := ∀ q, x ≠ some (.inr q)
theorem isL.no : isL none := fun q h => by cases h
theorem isL.go {pc : Nat} {L : List (Option Value)} {st : List Value} {w : pW} : isL (pgo pc L st w) := fun q h => by unfold pgo at h; cases h
theorem isL.cd {b : Bool} {x : pR} (h : isL x) : isL (bif b then x else none) := by cases b; exact isL.no; exact h
theorem isL.cn {b : Bool} {x : pR} (h : isL x) : isL (bif b then none else x) := by cases b; exact h; exact isL.no
theorem isL.it {c : Prop} [Decidable c] {x y : pR} (hx : isL x) (hy : isL y) : isL (if c then x else y) := by by_cases h : c; rw [if_pos h]; exact hx; rw [if_neg h]; exact hy
section
variable {pc : Nat} {L : List (Option Value)} {st : List Value} {w : pW} {sc : pX} {C : pC} {rt : Option FieldType}
theorem isL_plo {kd k : Nat} : isL (plo kd pc L k st w) := by unfold plo; split <;> first | exact isL.go | exact isL.no
theorem isL_psi {k : Nat} : isL (psi pc L k st w) := by unfold psi; split <;> first | exact isL.cd isL.go | exact isL.no
theorem isL_psa {k : Nat} : isL (psa pc L k st w) := by unfold psa; split <;> first | exact isL.cd isL.go | exact isL.no
theorem isL_psl {k : Nat} : isL (psl pc L k st w) := by unfold psl; split <;> first | exact isL.cd isL.go | exact isL.no
theorem isL_pii {f : Int32 → Int32 → Int32} : isL (pii f pc L st w) := by unfold pii; split <;> first | exact isL.go | exact isL.no
theorem isL_pll {f : Int64 → Int64 → Int64} : isL (pll f pc L st w) := by unfold pll; split <;> first | exact isL.go | exact isL.no
theorem isL_pli {f : Int64 → Int32 → Int64} : isL (pli f pc L st w) := by unfold pli; split <;> first | exact isL.go | exact isL.no
theorem isL_pdv {f : Int32 → Int32 → Int32} : isL (pdv f pc L st w) := by unfold pdv; split <;> first | exact isL.it isL.no isL.go | exact isL.no
theorem isL_pgf {c k : Nat} {v : Value} : isL (pgf pc L st w c k v) := by
  unfold pgf
  split
  · split
    · refine isL.cd ?_
      split <;> exact isL.go
    · exact isL.no
  · exact isL.no
theorem isL_ppf {c k : Nat} {v : Value} : isL (ppf pc L st w c k v) := by
  unfold ppf
  split
  · split
    · refine isL.cd ?_
      split <;> first | exact isL.go | exact isL.no | exact isL.it isL.go isL.no
    · exact isL.no
  · exact isL.no
theorem isL_pial : isL (pial sc pc L st w) := by
  unfold pial
  split
  · split <;> first | exact isL.it isL.no isL.go | exact isL.no
  · split <;> first | exact isL.it isL.no isL.go | exact isL.no
  · exact isL.no
theorem isL_pbal : isL (pbal pc L st w) := by
  unfold pbal
  split
  · split <;> first | exact isL.it isL.no isL.go | exact isL.no
  · exact isL.no
theorem isL_plal : isL (plal pc L st w) := by
  unfold plal
  split
  · split <;> first | exact isL.it isL.no isL.go | exact isL.no
  · exact isL.no
theorem isL_paal : isL (paal pc L st w) := by
  unfold paal
  split
  · split <;> first | exact isL.it isL.no isL.go | exact isL.no
  · exact isL.no
theorem isL_pias : isL (pias pc L st w) := by
  unfold pias
  split
  · split <;> first | exact isL.it isL.no isL.go | exact isL.no
  · exact isL.no
theorem isL_pbas : isL (pbas pc L st w) := by
  unfold pbas
  split
  · split <;> first | exact isL.it isL.no isL.go | exact isL.no
  · exact isL.no
theorem isL_plas : isL (plas pc L st w) := by
  unfold plas
  split
  · split <;> first | exact isL.it isL.no isL.go | exact isL.no
  · exact isL.no
theorem isL_palen : isL (palen sc pc L st w) := by
  unfold palen
  split
  · split <;> first | exact isL.go | exact isL.no
  · split <;> first | exact isL.go | exact isL.no
  · exact isL.no
theorem isL_pnar {t : ArrayType} : isL (pnar t pc L st w) := by
  unfold pnar
  split
  · split <;> first | exact isL.cd isL.go | exact isL.no
  · exact isL.no
theorem isL_pmna {v : Value} : isL (pmna v pc L st w) := by
  unfold pmna
  split
  · split <;> first | exact isL.cd isL.go | exact isL.no
  · exact isL.no
theorem isL_pnob {c : Nat} : isL (pnob c pc L st w) := by
  unfold pnob
  split <;> first | exact isL.cd isL.go | exact isL.no
theorem isL_pcl {chk : Bool} {a b : Nat} : isL (pcl C chk a b pc L st w) := by
  unfold pcl
  refine isL.cd ?_
  unfold pkc
  split <;> first | exact isL.go | exact isL.no
theorem pstep_ret {i : Instr} {len a b q : Nat} {v : Value} {r : Option Value} {w' : pW} (h : pstep sc C rt (i, len, a, b, q, v) pc L st w = some (.inr (r, w'))) : w' = w ∧ ((i = .ireturn ∧ ∃ x, st = [.int x] ∧ r = some (.int x) ∧ (rt = some .int ∨ (rt = some .boolean ∧ (x = 0 ∨ x = 1)))) ∨ (i = .lreturn ∧ ∃ x, st = [.long x] ∧ r = some (.long x) ∧ rt = some .long) ∨ (i = .areturn ∧ ∃ x n, st = [.ref x] ∧ r = some (.ref x) ∧ rt = some (.object n)) ∨ (i = .return_ ∧ st = [] ∧ r = none ∧ rt = none)) := by
  cases i with
  | iconst _ => exact absurd h (isL.go _)
  | bipush _ => exact absurd h (isL.go _)
  | sipush _ => exact absurd h (isL.go _)
  | lconst _ => exact absurd h (isL.go _)
  | ldc _ => exact absurd h (isL.go _)
  | ldc_w _ => exact absurd h (isL.go _)
  | ldc2_w _ => exact absurd h (isL.go _)
  | iload_n _ => exact absurd h (isL_plo _)
  | iload _ => exact absurd h (isL_plo _)
  | lload_n _ => exact absurd h (isL_plo _)
  | lload _ => exact absurd h (isL_plo _)
  | aload_n _ => exact absurd h (isL_plo _)
  | aload _ => exact absurd h (isL_plo _)
  | istore_n _ => exact absurd h (isL_psi _)
  | istore _ => exact absurd h (isL_psi _)
  | lstore_n _ => exact absurd h (isL_psl _)
  | lstore _ => exact absurd h (isL_psl _)
  | astore_n _ => exact absurd h (isL_psa _)
  | astore _ => exact absurd h (isL_psa _)
  | iadd => exact absurd h (isL_pii _)
  | isub => exact absurd h (isL_pii _)
  | imul => exact absurd h (isL_pii _)
  | iand => exact absurd h (isL_pii _)
  | ior => exact absurd h (isL_pii _)
  | ishl => exact absurd h (isL_pii _)
  | ishr => exact absurd h (isL_pii _)
  | idiv => exact absurd h (isL_pdv _)
  | irem => exact absurd h (isL_pdv _)
  | ladd => exact absurd h (isL_pll _)
  | lsub => exact absurd h (isL_pll _)
  | lmul => exact absurd h (isL_pll _)
  | land => exact absurd h (isL_pll _)
  | lor => exact absurd h (isL_pll _)
  | lxor => exact absurd h (isL_pll _)
  | lshl => exact absurd h (isL_pli _)
  | lshr => exact absurd h (isL_pli _)
  | lushr => exact absurd h (isL_pli _)
  | getfield _ => exact absurd h (isL_pgf _)
  | putfield _ => exact absurd h (isL_ppf _)
  | iaload => exact absurd h (isL_pial _)
  | baload => exact absurd h (isL_pbal _)
  | laload => exact absurd h (isL_plal _)
  | aaload => exact absurd h (isL_paal _)
  | iastore => exact absurd h (isL_pias _)
  | bastore => exact absurd h (isL_pbas _)
  | lastore => exact absurd h (isL_plas _)
  | arraylength => exact absurd h (isL_palen _)
  | newarray _ => exact absurd h (isL_pnar _)
  | new _ => exact absurd h (isL_pnob _)
  | invokevirtual _ => exact absurd h (isL_pcl _)
  | goto _ => exact absurd h (isL.go _)
  | iinc k n =>
    have hl : isL (match (generalizing := false) lg L k, v with
      | some (.int x), .int n => bif Nat.blt k L.length then pgo (pc + len) (ls1 L k (.int (x + n))) st w else none
      | _, _ => none) := by split <;> first | exact isL.cd isL.go | exact isL.no
    exact absurd h (hl _)
  | ineg =>
    have hl : isL (match (generalizing := false) st with
      | .int x :: r => pgo (pc + len) L (.int (-x) :: r) w
      | _ => none) := by split <;> first | exact isL.go | exact isL.no | exact isL.cn isL.go | exact isL.cn (isL.cn isL.go)
    exact absurd h (hl _)
  | i2l =>
    have hl : isL (match (generalizing := false) st with
      | .int x :: r => pgo (pc + len) L (.long x.toInt64 :: r) w
      | _ => none) := by split <;> first | exact isL.go | exact isL.no | exact isL.cn isL.go | exact isL.cn (isL.cn isL.go)
    exact absurd h (hl _)
  | l2i =>
    have hl : isL (match (generalizing := false) st with
      | .long x :: r => pgo (pc + len) L (.int x.toInt32 :: r) w
      | _ => none) := by split <;> first | exact isL.go | exact isL.no | exact isL.cn isL.go | exact isL.cn (isL.cn isL.go)
    exact absurd h (hl _)
  | i2b =>
    have hl : isL (match (generalizing := false) st with
      | .int x :: r => pgo (pc + len) L (.int x.toInt8.toInt32 :: r) w
      | _ => none) := by split <;> first | exact isL.go | exact isL.no | exact isL.cn isL.go | exact isL.cn (isL.cn isL.go)
    exact absurd h (hl _)
  | lcmp =>
    have hl : isL (match (generalizing := false) st with
      | .long y :: .long x :: r => pgo (pc + len) L (.int (lg_cmp x y) :: r) w
      | _ => none) := by split <;> first | exact isL.go | exact isL.no | exact isL.cn isL.go | exact isL.cn (isL.cn isL.go)
    exact absurd h (hl _)
  | dup =>
    have hl : isL (match (generalizing := false) st with
      | u :: r => bif pcat (some u) then none else pgo (pc + len) L (u :: u :: r) w
      | _ => none) := by split <;> first | exact isL.go | exact isL.no | exact isL.cn isL.go | exact isL.cn (isL.cn isL.go)
    exact absurd h (hl _)
  | dup2 =>
    have hl : isL (match (generalizing := false) st with
      | u :: x :: r => bif pcat (some u) then none else (bif pcat (some x) then none else pgo (pc + len) L (u :: x :: u :: x :: r) w)
      | _ => none) := by split <;> first | exact isL.go | exact isL.no | exact isL.cn isL.go | exact isL.cn (isL.cn isL.go)
    exact absurd h (hl _)
  | pop =>
    have hl : isL (match (generalizing := false) st with
      | u :: r => bif pcat (some u) then none else pgo (pc + len) L r w
      | _ => none) := by split <;> first | exact isL.go | exact isL.no | exact isL.cn isL.go | exact isL.cn (isL.cn isL.go)
    exact absurd h (hl _)
  | ifCond cd off =>
    cases cd with
    | eq =>
      have hl : isL (match (generalizing := false) st with
        | .int x :: r => if x = 0 then pgo a L r w else pgo (pc + len) L r w
        | _ => none) := by split <;> first | exact isL.it isL.go isL.go | exact isL.no
      exact absurd h (hl _)
    | ne =>
      have hl : isL (match (generalizing := false) st with
        | .int x :: r => if x = 0 then pgo (pc + len) L r w else pgo a L r w
        | _ => none) := by split <;> first | exact isL.it isL.go isL.go | exact isL.no
      exact absurd h (hl _)
    | lt =>
      have hl : isL (match (generalizing := false) st with
        | .int x :: r => if x < 0 then pgo a L r w else pgo (pc + len) L r w
        | _ => none) := by split <;> first | exact isL.it isL.go isL.go | exact isL.no
      exact absurd h (hl _)
    | ge =>
      have hl : isL (match (generalizing := false) st with
        | .int x :: r => if 0 ≤ x then pgo a L r w else pgo (pc + len) L r w
        | _ => none) := by split <;> first | exact isL.it isL.go isL.go | exact isL.no
      exact absurd h (hl _)
    | gt =>
      have hl : isL (match (generalizing := false) st with
        | .int x :: r => if 0 < x then pgo a L r w else pgo (pc + len) L r w
        | _ => none) := by split <;> first | exact isL.it isL.go isL.go | exact isL.no
      exact absurd h (hl _)
    | le =>
      have hl : isL (match (generalizing := false) st with
        | .int x :: r => if x ≤ 0 then pgo a L r w else pgo (pc + len) L r w
        | _ => none) := by split <;> first | exact isL.it isL.go isL.go | exact isL.no
      exact absurd h (hl _)
  | if_icmp cd off =>
    cases cd with
    | eq =>
      have hl : isL (match (generalizing := false) st with
        | .int y :: .int x :: r => if x = y then pgo a L r w else pgo (pc + len) L r w
        | _ => none) := by split <;> first | exact isL.it isL.go isL.go | exact isL.no
      exact absurd h (hl _)
    | ne =>
      have hl : isL (match (generalizing := false) st with
        | .int y :: .int x :: r => if x = y then pgo (pc + len) L r w else pgo a L r w
        | _ => none) := by split <;> first | exact isL.it isL.go isL.go | exact isL.no
      exact absurd h (hl _)
    | lt =>
      have hl : isL (match (generalizing := false) st with
        | .int y :: .int x :: r => if x < y then pgo a L r w else pgo (pc + len) L r w
        | _ => none) := by split <;> first | exact isL.it isL.go isL.go | exact isL.no
      exact absurd h (hl _)
    | ge =>
      have hl : isL (match (generalizing := false) st with
        | .int y :: .int x :: r => if y ≤ x then pgo a L r w else pgo (pc + len) L r w
        | _ => none) := by split <;> first | exact isL.it isL.go isL.go | exact isL.no
      exact absurd h (hl _)
    | gt =>
      have hl : isL (match (generalizing := false) st with
        | .int y :: .int x :: r => if y < x then pgo a L r w else pgo (pc + len) L r w
        | _ => none) := by split <;> first | exact isL.it isL.go isL.go | exact isL.no
      exact absurd h (hl _)
    | le =>
      have hl : isL (match (generalizing := false) st with
        | .int y :: .int x :: r => if x ≤ y then pgo a L r w else pgo (pc + len) L r w
        | _ => none) := by split <;> first | exact isL.it isL.go isL.go | exact isL.no
      exact absurd h (hl _)
  | tableswitch df lo hi offs =>
    have hl : isL (match (generalizing := false) st with
      | .int x :: r => if x.toInt < lo ∨ hi < x.toInt then pgo a L r w else (match (generalizing := false) offs[(x.toInt - lo).toNat]? with
        | some off => if (pc : Int) + off < 0 then none else pgo ((pc : Int) + off).toNat L r w
        | none => none)
      | _ => none) := by
      split
      · refine isL.it isL.go ?_
        split <;> first | exact isL.it isL.no isL.go | exact isL.no
      · exact isL.no
    exact absurd h (hl _)
  | multianewarray x dm =>
    match dm, h with
    | 2, h => exact absurd h (isL_pmna _)
    | 0, h => exact absurd h (isL.no _)
    | 1, h => exact absurd h (isL.no _)
    | n + 3, h => exact absurd h (isL.no _)
  | invokestatic x =>
    have hl : isL (match (generalizing := false) v with
      | .double k => (match (generalizing := false) st with
        | .int y :: .int x :: r => bif Nat.ble (psum r) 8 then pgo (pc + len) L (.int (bif decide (k = 0) then (if x < y then y else x) else (if y < x then y else x)) :: r) w else none
        | _ => none)
      | _ => pcl C true a b (pc + len) L st w) := by
      split
      · split <;> first | exact isL.cd isL.go | exact isL.no
      · exact isL_pcl
    exact absurd h (hl _)
  | invokespecial x =>
    have hl : isL (match (generalizing := false) v, st with
      | .null, .ref _ :: r => bif Nat.ble (psum r) 8 then pgo (pc + len) L r w else none
      | .retAddr _, _ => (match (generalizing := false) (st.take b).reverse with
        | .ref _ :: _ => pcl C true a b (pc + len) L st w
        | _ => none)
      | _, _ => none) := by
      split
      · exact isL.cd isL.go
      · split <;> first | exact isL_pcl | exact isL.no
      · exact isL.no
    exact absurd h (hl _)
  | ireturn =>
    have h' : pret rt st w = some (.inr (r, w')) := h
    unfold pret at h'
    split at h'
    · next x =>
      split at h'
      · cases h'
        exact ⟨rfl, Or.inl ⟨rfl, x, rfl, rfl, Or.inl rfl⟩⟩
      · obtain ⟨h1, h2⟩ := ite_some' h'
        cases h2
        exact ⟨rfl, Or.inl ⟨rfl, x, rfl, rfl, Or.inr ⟨rfl, h1⟩⟩⟩
      · cases h'
    · cases h'
  | lreturn =>
    have h' : (match (generalizing := false) st, rt with
      | [.long x], some .long => some (.inr (some (.long x), w))
      | _, _ => none : pR) = some (.inr (r, w')) := h
    split at h'
    · next x =>
      cases h'
      exact ⟨rfl, Or.inr (Or.inl ⟨rfl, x, rfl, rfl, rfl⟩)⟩
    · cases h'
  | areturn =>
    have h' : (match (generalizing := false) st, rt with
      | [.ref x], some (.object _) => some (.inr (some (.ref x), w))
      | _, _ => none : pR) = some (.inr (r, w')) := h
    split at h'
    · next x n =>
      cases h'
      exact ⟨rfl, Or.inr (Or.inr (Or.inl ⟨rfl, x, n, rfl, rfl, rfl⟩))⟩
    · cases h'
  | return_ =>
    have h' : (match (generalizing := false) st, rt with
      | [], none => some (.inr (none, w))
      | _, _ => none : pR) = some (.inr (r, w')) := h
    split at h'
    · cases h'
      exact ⟨rfl, Or.inr (Or.inr (Or.inr ⟨rfl, rfl, rfl, rfl⟩))⟩
    · cases h'
  | _ => exact absurd h (isL.no _)
end
theorem pfind_mem {k : Nat} {e : pI} : ∀ {T : pT}, pfind k T = some e → (k, e) ∈ T
  | [], h => by cases h
  | (a, x) :: r, h => by
    unfold pfind at h
    cases hb : Nat.beq k a with
    | true =>
      rw [hb] at h
      cases h
      rw [beq_nat hb]
      exact List.mem_cons_self
    | false =>
      rw [hb] at h
      exact List.mem_cons_of_mem _ (pfind_mem h)
section
variable {y : MethodName} {cc : ByteArray} {sc : pX} {C : pC} {rt : Option FieldType} {T : pT}
theorem pst_spec {f : pF} {x : pF ⊕ (Option Value × pW)} (h : pst sc C rt T f = some x) : ∃ i len a b q v, (f.1, (i, len, a, b, q, v)) ∈ T ∧ pstep sc C rt (i, len, a, b, q, v) f.1 f.2.1 f.2.2.1 f.2.2.2 = some x := by
  unfold pst at h
  split at h
  · next e he => exact ⟨e.1, e.2.1, e.2.2.1, e.2.2.2.1, e.2.2.2.2.1, e.2.2.2.2.2, pfind_mem he, h⟩
  · cases h
theorem chkR_spec {pc len a b q : Nat} {i : Instr} {v : Value} (h : pchkR y cc (pc, (i, len, a, b, q, v)) = true) : decode cc pc = .ok (i, len) ∧ pchkI y pc (i, len, a, b, q, v) = true := by
  unfold pchkR at h
  simp only [Bool.and_eq_true, decide_eq_true_eq] at h
  exact h
theorem piter_gd (hC : pCg C) (hT : T.all (pchkR y cc) = true) : ∀ (n : Nat) (f : pF) (r : Option Value) (w' : pW), piter sc C rt T n f = some (r, w') → pGd f.2.2.2 f.2.2.1 f.2.1 → f.2.2.2.1 ≤ w'.1 ∧ pWf w' ∧ ∀ v, r = some v → pVok w'.1 v
  | 0, f, r, w', h, _ => by cases h
  | n + 1, f, r, w', h, hg => by
    simp only [piter] at h
    split at h
    · next f' hf =>
      obtain ⟨i, len, a, b, q, v, hm, hs⟩ := pst_spec hf
      obtain ⟨-, h2⟩ := chkR_spec (List.all_eq_true.mp hT _ hm)
      obtain ⟨g1, g2⟩ := pstep_gd hC h2 hs hg
      obtain ⟨k1, k2⟩ := piter_gd hC hT n f' r w' h g2
      exact ⟨Nat.le_trans g1 k1, k2⟩
    · next r' hf =>
      cases h
      obtain ⟨i, len, a, b, q, v, hm, hs⟩ := pst_spec hf
      obtain ⟨rfl, hc⟩ := pstep_ret hs
      refine ⟨Nat.le_refl _, hg.1, fun u hu => ?_⟩
      rcases hc with ⟨-, x, -, hr, -⟩ | ⟨-, x, -, hr, -⟩ | ⟨-, x, n9, hst, hr, -⟩ | ⟨-, -, hr, -⟩
      · rw [hr] at hu; cases hu; exact pVi _ _
      · rw [hr] at hu; cases hu; exact pVj _ _
      · rw [hr] at hu; cases hu; exact hg.2.1 _ (by rw [hst]; exact List.mem_cons_self)
      · rw [hr] at hu; cases hu
    · cases h
end
section
variable {p : Program} {l : Launch} {e : Env} {R : Room} {s : State} {m : MethodId} {args : Array Value} {below : List Frame} {meth : Method} {c : Code} {Q : State → Prop} {nL n0 : Nat} {D : va_G} {A : Nat → Prop} {ex ad0 : Nat → Nat} {ca0 : Nat → ClassId}
variable {cc : ByteArray} {y : MethodName} {sc : pX} {C : pC} {d : Nat} {rt : Option FieldType} {T : pT}
theorem pSnd.cg {l : Launch} {d : Nat} {C : pC} (h : pSnd l d C) : pCg C := fun j as w w' r h1 h2 h3 => ⟨(h j as w w' r h1 h2 h3).1, (h j as w w' r h1 h2 h3).2.1, (h j as w w' r h1 h2 h3).2.2.1⟩
/-- a walk that ends in the pure machine ends in the machine -/
theorem pwalk (hX : pCx p l R s m args meth c nL A ex y cc d C sc) (hT : T.all (pchkR y cc) = true) {r : Option Value} {w' : pW} (hR1 : w'.1 - n0 ≤ R.cells) (hR2 : psn w'.1 - psn n0 ≤ R.slots)
    (hret : ∀ f : pF, pst sc C rt T f = some (.inr (r, w')) → pSt p l e R s m args below meth c Q nL n0 D A ex ad0 ca0 f) : ∀ (n : Nat) (f : pF), piter sc C rt T n f = some (r, w') → pGd f.2.2.2 f.2.2.1 f.2.1 → pSt p l e R s m args below meth c Q nL n0 D A ex ad0 ca0 f
  | 0, f, h, _ => by cases h
  | n + 1, f, h, hg => by
    have hC := hX.2.2.2.2.2.2.2.1.cg
    simp only [piter] at h
    split at h
    · next f' hf =>
      obtain ⟨i, len, a, b, q, v, hm, hs⟩ := pst_spec hf
      obtain ⟨h1, h2⟩ := chkR_spec (List.all_eq_true.mp hT _ hm)
      obtain ⟨g1, g2⟩ := pstep_gd hC h2 hs hg
      obtain ⟨k1, -⟩ := piter_gd hC hT n f' r w' h g2
      have k2 := psn_mono k1
      exact pstep_ok hX h1 h2 hs (by omega) (by omega) (pwalk hX hT hR1 hR2 hret n f' h g2)
    · next r' hf =>
      cases h
      exact hret f hf
    · cases h
end
