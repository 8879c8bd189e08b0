/-! THE PURE MACHINE IS SOUND, 10: every instruction -/
theorem wo_inst : Cond.instanceMethod Lib.objectInit ∈ WS := inWS' (by decide +kernel) (by decide +kernel)
theorem wo_code : Cond.code Lib.objectInit ⟨#[0xb1]⟩ 1 none ∈ WS := inWS' (by decide +kernel) (by decide +kernel)
theorem wm_ini : Cond.initialized "java/lang/Math" ∈ WS := inWS' (by decide +kernel) (by decide +kernel)
theorem wm_st0 : Cond.static Lib.Math.max.name ∈ WS := inWS' (by decide +kernel) (by decide +kernel)
theorem wm_st1 : Cond.static Lib.Math.min.name ∈ WS := inWS' (by decide +kernel) (by decide +kernel)
theorem wm_co0 : Cond.code Lib.Math.max.name Lib.Math.max.code 2 (some .int) ∈ WS := inWS' (by decide +kernel) (by decide +kernel)
theorem wm_co1 : Cond.code Lib.Math.min.name Lib.Math.min.code 2 (some .int) ∈ WS := inWS' (by decide +kernel) (by decide +kernel)
def pCx (p : Program) (l : Launch) (R : Room) (s : State) (m : MethodId) (args : Array Value) (meth : Method) (c : Code) (nL : Nat) (A : Nat → Prop) (ex : Nat → Nat) (y : MethodName) (cc : ByteArray) (d : Nat) (C : pC) (sc : pX) : Prop :=
  p.tables.exec = Jvm.exec ∧ c.code = cc ∧ c.maxLocals = nL ∧ (∀ w ∈ WS, w.before args s = true) ∧ s.vm.findClass y.cls = some m.cls ∧ (∀ q, s.heap.size ≤ q → A q) ∧ pXt ex A s ∧ pSnd l d C ∧ d + 1 ≤ R.frames ∧ 40 * (d + 1) ≤ R.locals ∧ (y.name = "<init>" → meth.name = "<init>") ∧ ∀ n xs, sc = some (n, xs) → va_X (ex 0) n xs s s.heap ∧ ex 0 < s.heap.size ∧ ¬ A (ex 0)
theorem pfv_u2I {ad : Nat → Nat} {w : pW} {h k : Nat} {x : Int32} (j : Nat) (hj : j ≠ k) (ty : FieldType) : pfv ad (w.1, u2 w.2.1 h k x, w.2.2) h ty j = pfv ad w h ty j := by
  unfold pfv
  simp [u2, hj]
theorem pfv_u2L {ad : Nat → Nat} {w : pW} {h k : Nat} {x : Int64} (j : Nat) (hj : j ≠ k) (ty : FieldType) : pfv ad (w.1, w.2.1, u2 w.2.2.1 h k x, w.2.2.2) h ty j = pfv ad w h ty j := by
  unfold pfv
  simp [u2, hj]
theorem pfv_u2R {ad : Nat → Nat} {w : pW} {h k : Nat} {x : Option Nat} (j : Nat) (hj : j ≠ k) (ty : FieldType) : pfv ad (w.1, w.2.1, w.2.2.1, u2 w.2.2.2 h k x) h ty j = pfv ad w h ty j := by
  unfold pfv
  simp [u2, hj]
theorem pkd_0 {ty : FieldType} (h : 0 = pkd ty) : ty = .int := by cases ty <;> first | rfl | (simp [pkd] at h)
theorem pkd_3 {ty : FieldType} (h : 3 = pkd ty) : ty = .boolean := by cases ty <;> first | rfl | (simp [pkd] at h)
theorem pkd_1 {ty : FieldType} (h : 1 = pkd ty) : ty = .long := by cases ty <;> first | rfl | (simp [pkd] at h)
theorem pkd_2 {ty : FieldType} (h : 2 = pkd ty) : (∃ n, ty = .object n) ∨ ∃ t, ty = .array t := by cases ty <;> first | exact Or.inl ⟨_, rfl⟩ | exact Or.inr ⟨_, rfl⟩ | (simp [pkd] at h)
theorem pk_2 {ty : FieldType} (h : 2 = pkd ty) : pk ty = 2 := by rcases pkd_2 h with ⟨n, rfl⟩ | ⟨n, rfl⟩ <;> rfl
theorem pcat_one {u : Value} (h : pcat (some u) = false) : u.category = 1 := by
  rcases lv_cat u with g | g
  · exact g
  · rw [(pcat_iff u).mpr g] at h; cases h
theorem prcv_inv {w : pW} {v : Value} {as : List Value} (h : prcv w v as = true) : (v = .retAddr 99 ∧ ∃ t as', as = .retAddr t :: as' ∧ 0 < t ∧ t < 17) ∨ ∃ c g as', v = .retAddr c ∧ as = .ref g :: as' ∧ psh w g = some (.inr c) ∧ c < 12 := by
  match v, as, h with
  | .retAddr c, .ref g :: as', h =>
    have h' : (match psh w g with | some (.inr c') => Nat.beq c c' && Nat.blt c 12 | _ => false) = true := by
      by_cases hc : c = 99
      · subst hc; exact h
      · unfold prcv at h
        split at h
        · rename_i he1 he2; cases he2
        · rename_i he1 he2; cases he1; cases he2; exact h
        · cases h
    split at h'
    · next c' hs =>
      simp only [Bool.and_eq_true] at h'
      exact Or.inr ⟨c, g, as', rfl, rfl, by rw [hs, beq_nat h'.1], blt_nat h'.2⟩
    · cases h'
  | .retAddr c, .retAddr t :: as', h =>
    unfold prcv at h
    split at h
    · rename_i he1 he2
      cases he1; cases he2
      simp only [Bool.and_eq_true] at h
      exact Or.inl ⟨rfl, t, as', rfl, blt_nat h.1, blt_nat h.2⟩
    · rename_i he1 he2; cases he2
    · cases h
  | .retAddr c, .int _ :: _, h => unfold prcv at h; split at h <;> first | cases h | (rename_i he1 he2; cases he2)
  | .retAddr c, .long _ :: _, h => unfold prcv at h; split at h <;> first | cases h | (rename_i he1 he2; cases he2)
  | .retAddr c, .float _ :: _, h => unfold prcv at h; split at h <;> first | cases h | (rename_i he1 he2; cases he2)
  | .retAddr c, .double _ :: _, h => unfold prcv at h; split at h <;> first | cases h | (rename_i he1 he2; cases he2)
  | .retAddr c, .null :: _, h => unfold prcv at h; split at h <;> first | cases h | (rename_i he1 he2; cases he2)
  | .retAddr c, [], h => unfold prcv at h; split at h <;> first | cases h | (rename_i he1 he2; cases he2)
  | .int _, _, h => exact absurd (show false = true from h) (by decide)
  | .long _, _, h => exact absurd (show false = true from h) (by decide)
  | .float _, _, h => exact absurd (show false = true from h) (by decide)
  | .double _, _, h => exact absurd (show false = true from h) (by decide)
  | .null, _, h => exact absurd (show false = true from h) (by decide)
  | .ref _, _, h => exact absurd (show false = true from h) (by decide)
theorem split_take (st : List Value) (b : Nat) : st = (st.take b).reverse.reverse ++ st.drop b := by rw [List.reverse_reverse, List.take_append_drop]
theorem pVx (n k : Nat) : pVok n (.retAddr k) := trivial
section
variable {p : Program} {l : Launch} {e : Env} {R : Room} {s : State} {m : MethodId} {args : Array Value} {below : List Frame} {meth : Method} {c : Code} {Q : State → Prop} {nL n0 : Nat} {D : va_G} {A : Nat → Prop} {ex ad0 : Nat → Nat} {ca0 : Nat → ClassId}
variable {cc : ByteArray} {pc : Nat} {L : List (Option Value)} {st : List Value} {w : pW} {y : MethodName} {sc : pX} {C : pC} {d : Nat} {rt : Option FieldType} {f' : pF}
set_option maxHeartbeats 4000000 in
theorem pstep_ok (hX : pCx p l R s m args meth c nL A ex y cc d C sc) {i : Instr} {len a b q : Nat} {v : Value} (hd0 : decode cc pc = .ok (i, len)) (hck : pchkI y pc (i, len, a, b, q, v) = true) (h : pstep sc C rt (i, len, a, b, q, v) pc L st w = some (.inl f')) (hR1 : f'.2.2.2.1 - n0 ≤ R.cells) (hR2 : psn f'.2.2.2.1 - psn n0 ≤ R.slots)
    (k : pSt p l e R s m args below meth c Q nL n0 D A ex ad0 ca0 f') : pSt p l e R s m args below meth c Q nL n0 D A ex ad0 ca0 (pc, L, st, w) := by
  obtain ⟨hx, hb, hml, hts, hown, hA, hXt, hC, hRf, hRl, hnm, hsc⟩ := id hX
  cases i with
  | iconst n =>
    simp only [pchkI, Bool.and_eq_true, decide_eq_true_eq] at hck
    have hl : len = 1 := beq_nat hck.1
    subst hl
    obtain ⟨-, rfl⟩ := hck
    cases pgo_inv h
    exact pSt.push hx hb (pVi _ _) k (fun H locs cells slots ad ls kk => lv_iconst hx hb hd0 rfl kk)
  | bipush n =>
    simp only [pchkI, Bool.and_eq_true, decide_eq_true_eq] at hck
    have hl : len = 2 := beq_nat hck.1
    subst hl
    obtain ⟨-, rfl⟩ := hck
    cases pgo_inv h
    exact pSt.push hx hb (pVi _ _) k (fun H locs cells slots ad ls kk => lv_bipush hx hb hd0 rfl kk)
  | sipush n =>
    simp only [pchkI, Bool.and_eq_true, decide_eq_true_eq] at hck
    have hl : len = 3 := beq_nat hck.1
    subst hl
    obtain ⟨-, rfl⟩ := hck
    cases pgo_inv h
    exact pSt.push hx hb (pVi _ _) k (fun H locs cells slots ad ls kk => lv_sipush hx hb hd0 rfl kk)
  | lconst n =>
    simp only [pchkI, Bool.and_eq_true, decide_eq_true_eq] at hck
    have hl : len = 1 := beq_nat hck.1
    subst hl
    obtain ⟨-, rfl⟩ := hck
    cases pgo_inv h
    exact pSt.push hx hb (pVj _ _) k (fun H locs cells slots ad ls kk => lv_lconst hx hb hd0 rfl kk)
  | ldc x =>
    simp only [pchkI, Bool.and_eq_true] at hck
    have hl : len = 2 := beq_nat hck.1
    subst hl
    cases pgo_inv h
    have hv := hck.2
    split at hv
    · next n => exact pSt.push hx hb (pVi _ _) k (fun H locs cells slots ad ls kk => lv_ldc hx hb hown (hts _ (inWS hv)) hd0 kk)
    · next t =>
      split at hv
      · next tx ht =>
        have hz := hXt.2.1 y.cls x tx t (List.mem_of_getElem? (by simpa using hv)) ht
        exact pSt.push hx hb (pVx _ _) k (fun H locs cells slots ad ls kk => va_ldcS hx hb hown hz hd0 kk)
      · cases hv
    · cases hv
  | ldc_w x =>
    simp only [pchkI, Bool.and_eq_true] at hck
    have hl : len = 3 := beq_nat hck.1
    subst hl
    cases pgo_inv h
    have hv := hck.2
    split at hv
    · next n => exact pSt.push hx hb (pVi _ _) k (fun H locs cells slots ad ls kk => lv_ldcw hx hb hown (hts _ (inWS hv)) hd0 kk)
    · cases hv
  | ldc2_w x =>
    simp only [pchkI, Bool.and_eq_true] at hck
    have hl : len = 3 := beq_nat hck.1
    subst hl
    cases pgo_inv h
    have hv := hck.2
    split at hv
    · next n => exact pSt.push hx hb (pVj _ _) k (fun H locs cells slots ad ls kk => lv_ldc2 hx hb hown (hts _ (inWS hv)) hd0 kk)
    · cases hv
  | iload_n n =>
    have hl : len = 1 := beq_nat hck
    subst hl
    exact pSt.iload_n hx hb hd0 h k
  | iload n =>
    have hl : len = 2 := beq_nat hck
    subst hl
    exact pSt.iload hx hb hd0 h k
  | lload_n n =>
    have hl : len = 1 := beq_nat hck
    subst hl
    exact pSt.lload_n hx hb hd0 h k
  | lload n =>
    have hl : len = 2 := beq_nat hck
    subst hl
    exact pSt.lload hx hb hd0 h k
  | aload_n n =>
    have hl : len = 1 := beq_nat hck
    subst hl
    exact pSt.aload_n hx hb hd0 h k
  | aload n =>
    have hl : len = 2 := beq_nat hck
    subst hl
    exact pSt.aload hx hb hd0 h k
  | istore_n n =>
    have hl : len = 1 := beq_nat hck
    subst hl
    exact pSt.istore_n hx hb hd0 h k
  | istore n =>
    have hl : len = 2 := beq_nat hck
    subst hl
    exact pSt.istore hx hb hd0 h k
  | lstore_n n =>
    have hl : len = 1 := beq_nat hck
    subst hl
    exact pSt.lstore_n hx hb hd0 h k
  | lstore n =>
    have hl : len = 2 := beq_nat hck
    subst hl
    exact pSt.lstore hx hb hd0 h k
  | astore_n n =>
    have hl : len = 1 := beq_nat hck
    subst hl
    exact pSt.astore_n hx hb hd0 h k
  | astore n =>
    have hl : len = 2 := beq_nat hck
    subst hl
    exact pSt.astore hx hb hd0 h k
  | iinc n z =>
    simp only [pchkI, Bool.and_eq_true, decide_eq_true_eq] at hck
    have hl : len = 3 := beq_nat hck.1
    subst hl
    obtain ⟨-, rfl⟩ := hck
    have h' : (match lg L n, (Value.int (Int32.ofInt z)) with
      | some (.int x), .int n9 => bif Nat.blt n L.length then pgo (pc + 3) (ls1 L n (.int (x + n9))) st w else none
      | _, _ => none) = some (.inl f') := h
    split at h'
    · next x n9 hx9 hn9 =>
      cases hn9
      obtain ⟨-, h2⟩ := cond_some h'
      cases pgo_inv h2
      exact pSt.iinc hx hb hd0 hx9 rfl k
    · cases h'
  | iadd =>
    have hl : len = 1 := beq_nat hck
    subst hl
    obtain ⟨x, z, r, rfl, rfl⟩ := pii_inv h
    exact pSt.alu (vs := [.int z, .int x]) (fun _ => pVi _ _) k (fun H locs cells slots ad ls kk => lv_iadd hx hb hd0 kk)
  | isub =>
    have hl : len = 1 := beq_nat hck
    subst hl
    obtain ⟨x, z, r, rfl, rfl⟩ := pii_inv h
    exact pSt.alu (vs := [.int z, .int x]) (fun _ => pVi _ _) k (fun H locs cells slots ad ls kk => lv_isub hx hb hd0 kk)
  | imul =>
    have hl : len = 1 := beq_nat hck
    subst hl
    obtain ⟨x, z, r, rfl, rfl⟩ := pii_inv h
    exact pSt.alu (vs := [.int z, .int x]) (fun _ => pVi _ _) k (fun H locs cells slots ad ls kk => lv_imul hx hb hd0 kk)
  | iand =>
    have hl : len = 1 := beq_nat hck
    subst hl
    obtain ⟨x, z, r, rfl, rfl⟩ := pii_inv h
    exact pSt.alu (vs := [.int z, .int x]) (fun _ => pVi _ _) k (fun H locs cells slots ad ls kk => lv_iand hx hb hd0 kk)
  | ior =>
    have hl : len = 1 := beq_nat hck
    subst hl
    obtain ⟨x, z, r, rfl, rfl⟩ := pii_inv h
    exact pSt.alu (vs := [.int z, .int x]) (fun _ => pVi _ _) k (fun H locs cells slots ad ls kk => lv_ior hx hb hd0 kk)
  | ishl =>
    have hl : len = 1 := beq_nat hck
    subst hl
    obtain ⟨x, z, r, rfl, rfl⟩ := pii_inv h
    exact pSt.alu (vs := [.int z, .int x]) (fun _ => pVi _ _) k (fun H locs cells slots ad ls kk => lv_ishl hx hb hd0 kk)
  | ishr =>
    have hl : len = 1 := beq_nat hck
    subst hl
    obtain ⟨x, z, r, rfl, rfl⟩ := pii_inv h
    exact pSt.alu (vs := [.int z, .int x]) (fun _ => pVi _ _) k (fun H locs cells slots ad ls kk => lv_ishr hx hb hd0 kk)
  | idiv =>
    have hl : len = 1 := beq_nat hck
    subst hl
    obtain ⟨x, z, r, rfl, hz, rfl⟩ := pdv_inv h
    exact pSt.alu (vs := [.int z, .int x]) (fun _ => pVi _ _) k (fun H locs cells slots ad ls kk => lv_idiv hx hb hd0 hz kk)
  | irem =>
    have hl : len = 1 := beq_nat hck
    subst hl
    obtain ⟨x, z, r, rfl, hz, rfl⟩ := pdv_inv h
    exact pSt.alu (vs := [.int z, .int x]) (fun _ => pVi _ _) k (fun H locs cells slots ad ls kk => lv_irem hx hb hd0 hz kk)
  | ladd =>
    have hl : len = 1 := beq_nat hck
    subst hl
    obtain ⟨x, z, r, rfl, rfl⟩ := pll_inv h
    exact pSt.alu (vs := [.long z, .long x]) (fun _ => pVj _ _) k (fun H locs cells slots ad ls kk => lv_ladd hx hb hd0 kk)
  | lsub =>
    have hl : len = 1 := beq_nat hck
    subst hl
    obtain ⟨x, z, r, rfl, rfl⟩ := pll_inv h
    exact pSt.alu (vs := [.long z, .long x]) (fun _ => pVj _ _) k (fun H locs cells slots ad ls kk => lv_lsub hx hb hd0 kk)
  | lmul =>
    have hl : len = 1 := beq_nat hck
    subst hl
    obtain ⟨x, z, r, rfl, rfl⟩ := pll_inv h
    exact pSt.alu (vs := [.long z, .long x]) (fun _ => pVj _ _) k (fun H locs cells slots ad ls kk => lv_lmul hx hb hd0 kk)
  | land =>
    have hl : len = 1 := beq_nat hck
    subst hl
    obtain ⟨x, z, r, rfl, rfl⟩ := pll_inv h
    exact pSt.alu (vs := [.long z, .long x]) (fun _ => pVj _ _) k (fun H locs cells slots ad ls kk => lv_land hx hb hd0 kk)
  | lor =>
    have hl : len = 1 := beq_nat hck
    subst hl
    obtain ⟨x, z, r, rfl, rfl⟩ := pll_inv h
    exact pSt.alu (vs := [.long z, .long x]) (fun _ => pVj _ _) k (fun H locs cells slots ad ls kk => lv_lor hx hb hd0 kk)
  | lxor =>
    have hl : len = 1 := beq_nat hck
    subst hl
    obtain ⟨x, z, r, rfl, rfl⟩ := pll_inv h
    exact pSt.alu (vs := [.long z, .long x]) (fun _ => pVj _ _) k (fun H locs cells slots ad ls kk => lv_lxor hx hb hd0 kk)
  | lshl =>
    have hl : len = 1 := beq_nat hck
    subst hl
    obtain ⟨x, z, r, rfl, rfl⟩ := pli_inv h
    exact pSt.alu (vs := [.int z, .long x]) (fun _ => pVj _ _) k (fun H locs cells slots ad ls kk => lv_lshl hx hb hd0 rfl kk)
  | lshr =>
    have hl : len = 1 := beq_nat hck
    subst hl
    obtain ⟨x, z, r, rfl, rfl⟩ := pli_inv h
    exact pSt.alu (vs := [.int z, .long x]) (fun _ => pVj _ _) k (fun H locs cells slots ad ls kk => lv_lshr hx hb hd0 rfl kk)
  | lushr =>
    have hl : len = 1 := beq_nat hck
    subst hl
    obtain ⟨x, z, r, rfl, rfl⟩ := pli_inv h
    exact pSt.alu (vs := [.int z, .long x]) (fun _ => pVj _ _) k (fun H locs cells slots ad ls kk => lv_lushr hx hb hd0 rfl kk)
  | ineg =>
    have hl : len = 1 := beq_nat hck
    subst hl
    have h' : (match st with
      | .int x :: r => pgo (pc + 1) L (.int (-x) :: r) w
      | _ => none) = some (.inl f') := h
    split at h'
    · next x r =>
      cases pgo_inv h'
      exact pSt.alu (vs := [.int x]) (fun _ => pVi _ _) k (fun H locs cells slots ad ls kk => lv_ineg hx hb hd0 kk)
    · cases h'
  | i2l =>
    have hl : len = 1 := beq_nat hck
    subst hl
    have h' : (match st with
      | .int x :: r => pgo (pc + 1) L (.long x.toInt64 :: r) w
      | _ => none) = some (.inl f') := h
    split at h'
    · next x r =>
      cases pgo_inv h'
      exact pSt.alu (vs := [.int x]) (fun _ => pVj _ _) k (fun H locs cells slots ad ls kk => lv_i2l hx hb hd0 rfl kk)
    · cases h'
  | l2i =>
    have hl : len = 1 := beq_nat hck
    subst hl
    have h' : (match st with
      | .long x :: r => pgo (pc + 1) L (.int x.toInt32 :: r) w
      | _ => none) = some (.inl f') := h
    split at h'
    · next x r =>
      cases pgo_inv h'
      exact pSt.alu (vs := [.long x]) (fun _ => pVi _ _) k (fun H locs cells slots ad ls kk => lv_l2i hx hb hd0 rfl kk)
    · cases h'
  | i2b =>
    have hl : len = 1 := beq_nat hck
    subst hl
    have h' : (match st with
      | .int x :: r => pgo (pc + 1) L (.int x.toInt8.toInt32 :: r) w
      | _ => none) = some (.inl f') := h
    split at h'
    · next x r =>
      cases pgo_inv h'
      exact pSt.alu (vs := [.int x]) (fun _ => pVi _ _) k (fun H locs cells slots ad ls kk => lv_i2b hx hb hd0 rfl kk)
    · cases h'
  | lcmp =>
    have hl : len = 1 := beq_nat hck
    subst hl
    have h' : (match st with
      | .long z :: .long x :: r => pgo (pc + 1) L (.int (lg_cmp x z) :: r) w
      | _ => none) = some (.inl f') := h
    split at h'
    · next z x r =>
      cases pgo_inv h'
      exact pSt.alu (vs := [.long z, .long x]) (fun _ => pVi _ _) k (fun H locs cells slots ad ls kk => W.lcmp hx hb hd0 kk)
    · cases h'
  | dup =>
    have hl : len = 1 := beq_nat hck
    subst hl
    have h' : (match st with
      | u :: r => bif pcat (some u) then none else pgo (pc + 1) L (u :: u :: r) w
      | _ => none) = some (.inl f') := h
    split at h'
    · next u r =>
      cases hc : pcat (some u) with
      | true => rw [hc] at h'; cases h'
      | false =>
        rw [hc] at h'
        cases pgo_inv h'
        exact pSt.go (fun _ h1 h2 => ⟨fun z hz => (List.mem_cons.mp hz).elim (fun g => h1 z (g ▸ List.mem_cons_self)) (h1 z), h2⟩) rfl k (fun H locs cells slots ad ca ls _ hl _ kk => lv_dup hx hb hd0 (by rw [ptr_cat]; exact pcat_one hc) (kk ls hl))
    · cases h'
  | dup2 =>
    have hl : len = 1 := beq_nat hck
    subst hl
    have h' : (match st with
      | u :: x :: r => bif pcat (some u) then none else (bif pcat (some x) then none else pgo (pc + 1) L (u :: x :: u :: x :: r) w)
      | _ => none) = some (.inl f') := h
    split at h'
    · next u x r =>
      cases hc : pcat (some u) with
      | true => rw [hc] at h'; cases h'
      | false =>
        rw [hc] at h'
        cases hc2 : pcat (some x) with
        | true => rw [hc2] at h'; cases h'
        | false =>
          rw [hc2] at h'
          cases pgo_inv h'
          exact pSt.go (fun _ h1 h2 => ⟨fun z hz => (List.mem_cons.mp hz).elim (fun g => h1 z (g ▸ List.mem_cons_self)) (fun hz => (List.mem_cons.mp hz).elim (fun g => h1 z (g ▸ List.mem_cons_of_mem _ List.mem_cons_self)) (h1 z)), h2⟩) rfl k (fun H locs cells slots ad ca ls _ hl _ kk => lv_dup2_11 hx hb hd0 (by rw [ptr_cat]; exact pcat_one hc) (by rw [ptr_cat]; exact pcat_one hc2) (kk ls hl))
    · cases h'
  | pop =>
    have hl : len = 1 := beq_nat hck
    subst hl
    have h' : (match st with
      | u :: r => bif pcat (some u) then none else pgo (pc + 1) L r w
      | _ => none) = some (.inl f') := h
    split at h'
    · next u r =>
      cases hc : pcat (some u) with
      | true => rw [hc] at h'; cases h'
      | false =>
        rw [hc] at h'
        cases pgo_inv h'
        exact pSt.go (fun _ h1 h2 => ⟨fun z hz => h1 z (List.mem_cons_of_mem _ hz), h2⟩) rfl k (fun H locs cells slots ad ca ls _ hl _ kk => lv_pop hx hb hd0 (by rw [ptr_cat]; exact pcat_one hc) (kk ls hl))
    · cases h'
  | ifCond cd off =>
    simp only [pchkI, Bool.and_eq_true, decide_eq_true_eq] at hck
    have hl : len = 3 := beq_nat hck.1
    subst hl
    have ht := hck.2
    cases cd with
    | eq =>
      have h' : (match st with
        | .int x :: r => if x = 0 then pgo a L r w else pgo (pc + 3) L r w
        | _ => none) = some (.inl f') := h
      split at h'
      · next  x r =>
        by_cases hc : x = 0
        · rw [if_pos hc] at h'
          cases pgo_inv h'
          exact pSt.jmp (vs := [.int x]) k (fun H locs cells slots ad ls kk => lv_if_eq hx hb hd0 ht (fun g => kk) (fun g => absurd hc g))
        · rw [if_neg hc] at h'
          cases pgo_inv h'
          exact pSt.jmp (vs := [.int x]) k (fun H locs cells slots ad ls kk => lv_if_eq hx hb hd0 ht (fun g => absurd g hc) (fun g => kk))
      · cases h'
    | ne =>
      have h' : (match st with
        | .int x :: r => if x = 0 then pgo (pc + 3) L r w else pgo a L r w
        | _ => none) = some (.inl f') := h
      split at h'
      · next  x r =>
        by_cases hc : x = 0
        · rw [if_pos hc] at h'
          cases pgo_inv h'
          exact pSt.jmp (vs := [.int x]) k (fun H locs cells slots ad ls kk => lv_if_ne hx hb hd0 ht (fun g => absurd hc g) (fun g => kk))
        · rw [if_neg hc] at h'
          cases pgo_inv h'
          exact pSt.jmp (vs := [.int x]) k (fun H locs cells slots ad ls kk => lv_if_ne hx hb hd0 ht (fun g => kk) (fun g => absurd g hc))
      · cases h'
    | lt =>
      have h' : (match st with
        | .int x :: r => if x < 0 then pgo a L r w else pgo (pc + 3) L r w
        | _ => none) = some (.inl f') := h
      split at h'
      · next  x r =>
        by_cases hc : x < 0
        · rw [if_pos hc] at h'
          cases pgo_inv h'
          exact pSt.jmp (vs := [.int x]) k (fun H locs cells slots ad ls kk => lv_if_lt hx hb hd0 ht (fun g => kk) (fun g => absurd hc g))
        · rw [if_neg hc] at h'
          cases pgo_inv h'
          exact pSt.jmp (vs := [.int x]) k (fun H locs cells slots ad ls kk => lv_if_lt hx hb hd0 ht (fun g => absurd g hc) (fun g => kk))
      · cases h'
    | ge =>
      have h' : (match st with
        | .int x :: r => if 0 ≤ x then pgo a L r w else pgo (pc + 3) L r w
        | _ => none) = some (.inl f') := h
      split at h'
      · next  x r =>
        by_cases hc : 0 ≤ x
        · rw [if_pos hc] at h'
          cases pgo_inv h'
          exact pSt.jmp (vs := [.int x]) k (fun H locs cells slots ad ls kk => lv_if_ge hx hb hd0 ht (fun g => kk) (fun g => absurd hc g))
        · rw [if_neg hc] at h'
          cases pgo_inv h'
          exact pSt.jmp (vs := [.int x]) k (fun H locs cells slots ad ls kk => lv_if_ge hx hb hd0 ht (fun g => absurd g hc) (fun g => kk))
      · cases h'
    | gt =>
      have h' : (match st with
        | .int x :: r => if 0 < x then pgo a L r w else pgo (pc + 3) L r w
        | _ => none) = some (.inl f') := h
      split at h'
      · next  x r =>
        by_cases hc : 0 < x
        · rw [if_pos hc] at h'
          cases pgo_inv h'
          exact pSt.jmp (vs := [.int x]) k (fun H locs cells slots ad ls kk => lv_if_gt hx hb hd0 ht (fun g => kk) (fun g => absurd hc g))
        · rw [if_neg hc] at h'
          cases pgo_inv h'
          exact pSt.jmp (vs := [.int x]) k (fun H locs cells slots ad ls kk => lv_if_gt hx hb hd0 ht (fun g => absurd g hc) (fun g => kk))
      · cases h'
    | le =>
      have h' : (match st with
        | .int x :: r => if x ≤ 0 then pgo a L r w else pgo (pc + 3) L r w
        | _ => none) = some (.inl f') := h
      split at h'
      · next  x r =>
        by_cases hc : x ≤ 0
        · rw [if_pos hc] at h'
          cases pgo_inv h'
          exact pSt.jmp (vs := [.int x]) k (fun H locs cells slots ad ls kk => lv_if_le hx hb hd0 ht (fun g => kk) (fun g => absurd hc g))
        · rw [if_neg hc] at h'
          cases pgo_inv h'
          exact pSt.jmp (vs := [.int x]) k (fun H locs cells slots ad ls kk => lv_if_le hx hb hd0 ht (fun g => absurd g hc) (fun g => kk))
      · cases h'
  | if_icmp cd off =>
    simp only [pchkI, Bool.and_eq_true, decide_eq_true_eq] at hck
    have hl : len = 3 := beq_nat hck.1
    subst hl
    have ht := hck.2
    cases cd with
    | eq =>
      have h' : (match st with
        | .int z :: .int x :: r => if x = z then pgo a L r w else pgo (pc + 3) L r w
        | _ => none) = some (.inl f') := h
      split at h'
      · next  z    x r =>
        by_cases hc : x = z
        · rw [if_pos hc] at h'
          cases pgo_inv h'
          exact pSt.jmp (vs := [.int z, .int x]) k (fun H locs cells slots ad ls kk => lv_icmp_eq hx hb hd0 ht (fun g => kk) (fun g => absurd hc g))
        · rw [if_neg hc] at h'
          cases pgo_inv h'
          exact pSt.jmp (vs := [.int z, .int x]) k (fun H locs cells slots ad ls kk => lv_icmp_eq hx hb hd0 ht (fun g => absurd g hc) (fun g => kk))
      · cases h'
    | ne =>
      have h' : (match st with
        | .int z :: .int x :: r => if x = z then pgo (pc + 3) L r w else pgo a L r w
        | _ => none) = some (.inl f') := h
      split at h'
      · next  z    x r =>
        by_cases hc : x = z
        · rw [if_pos hc] at h'
          cases pgo_inv h'
          exact pSt.jmp (vs := [.int z, .int x]) k (fun H locs cells slots ad ls kk => lv_icmp_ne hx hb hd0 ht (fun g => absurd hc g) (fun g => kk))
        · rw [if_neg hc] at h'
          cases pgo_inv h'
          exact pSt.jmp (vs := [.int z, .int x]) k (fun H locs cells slots ad ls kk => lv_icmp_ne hx hb hd0 ht (fun g => kk) (fun g => absurd g hc))
      · cases h'
    | lt =>
      have h' : (match st with
        | .int z :: .int x :: r => if x < z then pgo a L r w else pgo (pc + 3) L r w
        | _ => none) = some (.inl f') := h
      split at h'
      · next  z    x r =>
        by_cases hc : x < z
        · rw [if_pos hc] at h'
          cases pgo_inv h'
          exact pSt.jmp (vs := [.int z, .int x]) k (fun H locs cells slots ad ls kk => lv_icmp_lt hx hb hd0 ht (fun g => kk) (fun g => absurd hc g))
        · rw [if_neg hc] at h'
          cases pgo_inv h'
          exact pSt.jmp (vs := [.int z, .int x]) k (fun H locs cells slots ad ls kk => lv_icmp_lt hx hb hd0 ht (fun g => absurd g hc) (fun g => kk))
      · cases h'
    | ge =>
      have h' : (match st with
        | .int z :: .int x :: r => if z ≤ x then pgo a L r w else pgo (pc + 3) L r w
        | _ => none) = some (.inl f') := h
      split at h'
      · next  z    x r =>
        by_cases hc : z ≤ x
        · rw [if_pos hc] at h'
          cases pgo_inv h'
          exact pSt.jmp (vs := [.int z, .int x]) k (fun H locs cells slots ad ls kk => lv_icmp_ge hx hb hd0 ht (fun g => kk) (fun g => absurd hc g))
        · rw [if_neg hc] at h'
          cases pgo_inv h'
          exact pSt.jmp (vs := [.int z, .int x]) k (fun H locs cells slots ad ls kk => lv_icmp_ge hx hb hd0 ht (fun g => absurd g hc) (fun g => kk))
      · cases h'
    | gt =>
      have h' : (match st with
        | .int z :: .int x :: r => if z < x then pgo a L r w else pgo (pc + 3) L r w
        | _ => none) = some (.inl f') := h
      split at h'
      · next  z    x r =>
        by_cases hc : z < x
        · rw [if_pos hc] at h'
          cases pgo_inv h'
          exact pSt.jmp (vs := [.int z, .int x]) k (fun H locs cells slots ad ls kk => lv_icmp_gt hx hb hd0 ht (fun g => kk) (fun g => absurd hc g))
        · rw [if_neg hc] at h'
          cases pgo_inv h'
          exact pSt.jmp (vs := [.int z, .int x]) k (fun H locs cells slots ad ls kk => lv_icmp_gt hx hb hd0 ht (fun g => absurd g hc) (fun g => kk))
      · cases h'
    | le =>
      have h' : (match st with
        | .int z :: .int x :: r => if x ≤ z then pgo a L r w else pgo (pc + 3) L r w
        | _ => none) = some (.inl f') := h
      split at h'
      · next  z    x r =>
        by_cases hc : x ≤ z
        · rw [if_pos hc] at h'
          cases pgo_inv h'
          exact pSt.jmp (vs := [.int z, .int x]) k (fun H locs cells slots ad ls kk => lv_icmp_le hx hb hd0 ht (fun g => kk) (fun g => absurd hc g))
        · rw [if_neg hc] at h'
          cases pgo_inv h'
          exact pSt.jmp (vs := [.int z, .int x]) k (fun H locs cells slots ad ls kk => lv_icmp_le hx hb hd0 ht (fun g => absurd g hc) (fun g => kk))
      · cases h'
  | goto off =>
    simp only [pchkI, Bool.and_eq_true, decide_eq_true_eq] at hck
    have hl : len = 3 := beq_nat hck.1
    subst hl
    cases pgo_inv h
    exact pSt.jmp (vs := []) k (fun H locs cells slots ad ls kk => lv_goto hx hb hd0 hck.2 kk)
  | tableswitch df lo hi offs =>
    have ht : (pc : Int) + df = (a : Int) := by simpa [pchkI] using hck
    have h' : (match st with
      | .int x :: r => if x.toInt < lo ∨ hi < x.toInt then pgo a L r w else (match offs[(x.toInt - lo).toNat]? with
        | some off => if (pc : Int) + off < 0 then none else pgo ((pc : Int) + off).toNat L r w
        | none => none)
      | _ => none) = some (.inl f') := h
    split at h'
    · next x r =>
      by_cases hc : x.toInt < lo ∨ hi < x.toInt
      · rw [if_pos hc] at h'
        cases pgo_inv h'
        exact pSt.jmp (vs := [.int x]) k (fun H locs cells slots ad ls kk => lv_tableOut hx hb hd0 hc ht kk)
      · rw [if_neg hc] at h'
        split at h'
        · next off ho =>
          obtain ⟨h1, h2⟩ := ite_some h'
          cases pgo_inv h2
          exact pSt.jmp (vs := [.int x]) k (fun H locs cells slots ad ls kk => lv_tableIn hx hb hd0 (fun g => hc (Or.inl g)) (fun g => hc (Or.inr g)) ho (by omega) kk)
        · cases h'
    · cases h'
  | getfield x =>
    simp only [pchkI, Bool.and_eq_true] at hck
    have hl : len = 3 := beq_nat hck.1.1.1
    subst hl
    have ha := blt_nat hck.1.1.2
    have hbn := blt_nat hck.1.2
    have hv := hck.2
    obtain ⟨g, r, rfl, hs, hf⟩ := pgf_inv h
    split at hv
    · next kd =>
      simp only [Bool.or_eq_true, Bool.and_eq_true, decide_eq_true_eq] at hv
      have hw : Cond.fieldLink y.cls x ((pTT a).2.1 b).1 ((pTT a).2.1 b).2.1 ((pTT a).2.1 b).2.2.1 ∈ WS ∨ va_Nw (.fieldLinkNest y.cls x ((pTT a).2.1 b).1 ((pTT a).2.1 b).2.1 ((pTT a).2.1 b).2.2.1 "StepAway") s := by
        rcases hv with hv | hv
        · exact Or.inl (inWS hv.2)
        · exact Or.inr (hXt.1 _ (List.mem_of_getElem? hv.2) rfl)
      rcases hf with ⟨hk, rfl⟩ | ⟨hk, rfl⟩ | ⟨hk, rfl⟩
      · have hp : pk (fty a b) = 0 := by
          rcases hv with hv | hv
          · have e9 := beq_nat hv.1
            rcases hk with hk | hk
            · cases hk; rw [pkd_0 e9]; rfl
            · cases hk; rw [pkd_3 e9]; rfl
          · have e9 := beq_nat hv.1.1
            rcases hk with hk | hk <;> cases hk <;> cases e9
        exact pSt.getf hx hb hts hown ha hbn hw hs hd0 (fun ad => by unfold pfv; rw [hp]; rfl) (fun _ => pVi _ _) k
      · have hp : pk (fty a b) = 1 := by
          rcases hv with hv | hv
          · have e9 := beq_nat hv.1
            cases hk; rw [pkd_1 e9]; rfl
          · have e9 := beq_nat hv.1.1
            cases hk; cases e9
        exact pSt.getf hx hb hts hown ha hbn hw hs hd0 (fun ad => by unfold pfv; rw [hp]; rfl) (fun _ => pVj _ _) k
      · have hp : pk (fty a b) = 2 := by
          rcases hv with hv | hv
          · have e9 := beq_nat hv.1
            rcases fty_small a ha b hbn with t | t | t | t
            · rw [t] at e9; rw [e9] at hk; exact absurd rfl hk.1
            · rw [t] at e9; rw [e9] at hk; exact absurd rfl hk.2.1
            · rw [t] at e9; rw [e9] at hk; exact absurd rfl hk.2.2
            · exact t
          · exact pk_2 (beq_nat hv.1.2)
        exact pSt.getf hx hb hts hown ha hbn hw hs hd0 (fun ad => by rw [ptr_rf]; unfold pfv; rw [hp]; rfl) (fun hwf => hwf.ok g b) k
    · cases hv
  | putfield x =>
    simp only [pchkI, Bool.and_eq_true, Bool.or_eq_true, Bool.not_eq_true', decide_eq_true_eq] at hck
    have hl : len = 3 := beq_nat hck.1.1.1.1
    subst hl
    have ha := blt_nat hck.1.1.1.2
    have hbn := blt_nat hck.1.1.2
    have hv := hck.1.2
    have hfin : ((pTT a).2.1 b).2.2.2 = false ∨ (meth.name = "<init>" ∧ ((pTT a).2.1 b).1 = y.cls) := hck.2.elim Or.inl (fun g => Or.inr ⟨hnm g.1, g.2⟩)
    obtain ⟨u, g, r, rfl, hs, hf⟩ := ppf_inv h
    split at hv
    · next kd =>
      simp only [Bool.and_eq_true] at hv
      have e9 := beq_nat hv.1
      have hw := inWS hv.2
      rcases hf with ⟨z, hk, rfl, rfl⟩ | ⟨z, hk, rfl, rfl⟩ | ⟨z, hk, rfl, hz, rfl⟩ | ⟨z, hk, rfl, rfl⟩
      · cases hk
        have ht := pkd_0 e9
        exact pSt.putf (w' := (w.1, u2 w.2.1 g b z, w.2.2)) hx hb hts hown ha hbn hw hfin hs hd0 (fun ad => by rw [ht]; rfl) (fun ad => by rw [ht]; rfl) rfl (fun ad => by rw [ht]; simp [pfv, pk, u2, ptr]) (fun ad j hj ty => pfv_u2I j hj ty) (fun j hj => ⟨u2_ne hj, rfl, rfl⟩) (fun hwf _ => hwf) k
      · cases hk
        have ht := pkd_1 e9
        exact pSt.putf (w' := (w.1, w.2.1, u2 w.2.2.1 g b z, w.2.2.2)) hx hb hts hown ha hbn hw hfin hs hd0 (fun ad => by rw [ht]; rfl) (fun ad => by rw [ht]; rfl) rfl (fun ad => by rw [ht]; simp [pfv, pk, u2, ptr]) (fun ad j hj ty => pfv_u2L j hj ty) (fun j hj => ⟨rfl, u2_ne hj, rfl⟩) (fun hwf _ => hwf) k
      · cases hk
        have ht := pkd_3 e9
        exact pSt.putf (w' := (w.1, u2 w.2.1 g b z, w.2.2)) hx hb hts hown ha hbn hw hfin hs hd0 (fun ad => by rw [ht]; rcases hz with rfl | rfl <;> rfl) (fun ad => by rw [ht]; rcases hz with rfl | rfl <;> rfl) rfl (fun ad => by rw [ht]; simp [pfv, pk, u2, ptr]) (fun ad j hj ty => pfv_u2I j hj ty) (fun j hj => ⟨u2_ne hj, rfl, rfl⟩) (fun hwf _ => hwf) k
      · cases hk
        refine pSt.putf (w' := (w.1, w.2.1, w.2.2.1, u2 w.2.2.2 g b (some z))) hx hb hts hown ha hbn hw hfin hs hd0 (fun ad => ?_) (fun ad => ?_) rfl (fun ad => ?_) (fun ad j hj ty => pfv_u2R j hj ty) (fun j hj => ⟨rfl, rfl, u2_ne hj⟩) (fun hwf hz a9 b9 r9 hr9 => ?_) k
        · rcases pkd_2 e9 with ⟨n9, ht⟩ | ⟨n9, ht⟩ <;> rw [ht] <;> rfl
        · rcases pkd_2 e9 with ⟨n9, ht⟩ | ⟨n9, ht⟩ <;> rw [ht] <;> rfl
        · unfold pfv
          rw [pk_2 e9]
          simp [u2, ptr, va_rf]
        · have hr' : u2 w.2.2.2 g b (some z) a9 b9 = some r9 := hr9
          unfold u2 at hr'
          by_cases h1 : a9 = g
          · rw [if_pos h1] at hr'
            by_cases h2 : b9 = b
            · rw [if_pos h2] at hr'
              cases hr'
              exact hz
            · rw [if_neg h2] at hr'
              exact hwf a9 b9 r9 hr'
          · rw [if_neg h1] at hr'
            exact hwf a9 b9 r9 hr'
    · cases hv
  | iaload =>
    have hl : len = 1 := beq_nat hck
    subst hl
    rcases pial_inv h with ⟨i, g, r, n, rfl, hs, hin, rfl⟩ | ⟨i, r, n, xs, rfl, hs, hin, rfl⟩
    · exact pSt.iald hx hb hs hin hd0 k
    · obtain ⟨x1, x2, x3⟩ := hsc n xs hs
      exact pSt.sald hx hb x1 x2 x3 hin hd0 k
  | baload =>
    have hl : len = 1 := beq_nat hck
    subst hl
    obtain ⟨i, g, r, n, rfl, hs, hin, rfl⟩ := pbal_inv h
    rcases hs with hs | hs
    · exact pSt.bald hx hb hs hin hd0 k
    · exact pSt.zald hx hb hs hin hd0 k
  | laload =>
    have hl : len = 1 := beq_nat hck
    subst hl
    obtain ⟨i, g, r, n, rfl, hs, hin, rfl⟩ := plal_inv h
    exact pSt.lald hx hb hs hin hd0 k
  | aaload =>
    have hl : len = 1 := beq_nat hck
    subst hl
    obtain ⟨i, g, r, n, ty, rfl, hs, hin, rfl⟩ := paal_inv h
    exact pSt.aald hx hb hs hin hd0 k
  | iastore =>
    have hl : len = 1 := beq_nat hck
    subst hl
    obtain ⟨x, i, g, r, n, rfl, hs, hin, rfl⟩ := pias_inv h
    exact pSt.iast hx hb hs hin hd0 k
  | bastore =>
    have hl : len = 1 := beq_nat hck
    subst hl
    obtain ⟨x, i, g, r, n, rfl, hin, hs⟩ := pbas_inv h
    rcases hs with ⟨hs, rfl⟩ | ⟨hs, rfl⟩
    · exact pSt.bast hx hb hs hin hd0 k
    · exact pSt.zast hx hb hs hin hd0 k
  | lastore =>
    have hl : len = 1 := beq_nat hck
    subst hl
    obtain ⟨x, i, g, r, n, rfl, hs, hin, rfl⟩ := plas_inv h
    exact pSt.last hx hb hs hin hd0 k
  | arraylength =>
    have hl : len = 1 := beq_nat hck
    subst hl
    rcases palen_inv h with ⟨g, r, ty, n, rfl, hs, rfl⟩ | ⟨r, n, xs, rfl, hs, rfl⟩
    · exact pSt.alen hx hb hs hd0 k
    · obtain ⟨x1, x2, x3⟩ := hsc n xs hs
      exact pSt.slen hx hb x1 x2 x3 hd0 k
  | newarray t =>
    simp only [pchkI, Bool.and_eq_true, decide_eq_true_eq] at hck
    have hl : len = 2 := beq_nat hck.1.1
    subst hl
    obtain ⟨n, r, N, rfl, hsh, hn, hN, hb2, rfl⟩ := pnar_inv h
    exact pSt.newarr hx hb hts hA hck.2 (inWS hck.1.2) hsh hn hN hb2 hR1 hR2 hd0 k
  | multianewarray x dm =>
    match dm, hd0, hck, h with
    | 2, hd0, hck, h =>
      simp only [pchkI, Bool.and_eq_true, decide_eq_true_eq] at hck
      have hl : len = 4 := beq_nat hck.1.1.1
      subst hl
      obtain ⟨k9, n, r, N, rfl, hsh, hn, hk9, hN, hb1, hb2, hrows, rfl⟩ := pmna_inv h
      have hg : (pgrid N w).1 = w.1 + (N + 1) := (pnws_spec (N + 1) w).1
      dsimp only at hR1 hR2
      rw [hg] at hR1 hR2
      exact pSt.newgrid hx hb hts hown hA (by unfold pety; split <;> simp) (inWS hck.1.1.2) (inWS hck.1.2) (hXt.1 _ (List.mem_of_getElem? hck.2) rfl) hsh hrows hn hk9 hN rfl hb1 hb2 hR1 hR2 hd0 k
    | 0, _, _, h => exact absurd (show (none : pR) = some (.inl f') from h) (fun g => by cases g)
    | 1, _, _, h => exact absurd (show (none : pR) = some (.inl f') from h) (fun g => by cases g)
    | n + 3, _, _, h => exact absurd (show (none : pR) = some (.inl f') from h) (fun g => by cases g)
  | new x =>
    simp only [pchkI, Bool.and_eq_true] at hck
    have hl : len = 3 := beq_nat hck.1.1.1
    subst hl
    obtain ⟨hsh, rfl⟩ := pnob_inv h
    exact pSt.newobj hx hb hts hown hA (blt_nat hck.1.1.2) (inWS hck.1.2) (inWS hck.2) hsh hR1 hR2 hd0 k
  | invokevirtual x =>
    simp only [pchkI, Bool.and_eq_true] at hck
    have hl : len = 3 := beq_nat hck.1
    subst hl
    have hv := hck.2
    obtain ⟨r, w', hcl, hble, hsum, hrc, rfl⟩ := pcl_inv h
    have hsp := split_take st b
    split at hv
    · next yc bs mL rt9 np kd cn ws T cv hT =>
      simp only [Bool.and_eq_true] at hv
      have ek := beq_nat hv.1.1.1
      subst ek
      have ec := beq_nat hv.2
      subst ec
      have hlk := inWS hv.1.2
      generalize (st.take b).reverse = as0 at hcl hrc hsp
      rcases prcv_inv hrc with ⟨he, t, as', rfl, h1, h2⟩ | ⟨c9, g, as', he, rfl, hs, h12⟩
      · cases he
        refine pSt.callV hx hb hml hts hown hA hXt hC hRf hRl hT hlk hd0 (b0 := fun _ => ex t) (fun ad => rfl) (fun hW9 H locs ad ca hI => ?_) hcl hsp hsum hR1 hR2 k
        obtain ⟨adV, hE⟩ := hXt.2.2.1 (t - 1) (by omega)
        obtain ⟨cell, q1, q2, q3⟩ := vk_recv (i := 0) hE (by omega) hI.2.2.1
        obtain ⟨-, -, -, -, -, -, -, c8⟩ := chkW_spec hW9
        rcases (c8 rfl).2.2 with ⟨-, e1⟩ | ⟨e1, -⟩
        · have e2 : t - 1 + 1 = t := by omega
          simp only [e2] at q1
          exact ⟨cell, q1, q2, by rw [e1]; exact q3⟩
        · omega
      · cases he
        obtain ⟨hh, hsh⟩ := psh_spec hs
        refine pSt.callV hx hb hml hts hown hA hXt hC hRf hRl hT hlk hd0 (b0 := fun ad => ad g) (fun ad => rfl) (fun hW9 H locs ad ca hI => ?_) hcl hsp hsum hR1 hR2 k
        obtain ⟨-, -, -, -, -, -, -, c8⟩ := chkW_spec hW9
        rcases (c8 rfl).2.2 with ⟨e1, -⟩ | ⟨e0, e1⟩
        · omega
        · obtain ⟨C9, T9', N9, h1, h2, -⟩ := cls_ok _ e0
          rw [h2] at e1
          rw [e1]
          exact va_recv hI.2.2.2.1.K0 hI.1 h1 (by rw [pL_get hh, pE_obj hsh])
    · cases hv
  | invokestatic x =>
    simp only [pchkI, Bool.and_eq_true] at hck
    have hl : len = 3 := beq_nat hck.1
    subst hl
    have hv := hck.2
    split at hv
    · next u9 =>
      have h' : (match st with
        | .int z :: .int x :: r => bif Nat.ble (psum r) 8 then pgo (pc + 3) L (.int (bif decide (u9 = 0) then (if x < z then z else x) else (if z < x then z else x)) :: r) w else none
        | _ => none) = some (.inl f') := h
      split at h'
      · next z x9 r =>
        obtain ⟨h1, h2⟩ := cond_some h'
        cases pgo_inv h2
        have hsum : psum r ≤ 8 := Nat.le_of_ble_eq_true h1
        have hlk := inWS hv
        intro H locs ad ca ls hI hl hL hs hLk hn ha
        have kk := k H locs ad ca ls hI hl hL (fun u hu => (List.mem_cons.mp hu).elim (fun q => by rw [q]; exact pVi _ _) (fun q => hs u (List.mem_cons_of_mem _ (List.mem_cons_of_mem _ q)))) hLk hn ha
        dsimp only at kk hR1 hR2 hl ⊢
        have hlc : (((r.map (ptr ad ex)).map fun v => v.category).sum) + 13 ≤ R.locals := by
          have := psum_le (ad := ad) (ex := ex) hsum
          omega
        cases hu : decide (u9 = 0) with
        | true =>
          rw [hu] at hlk kk
          exact va_mmax hx hb (by rw [hml]; exact hl.1.symm) hown (hts _ hlk) (hts _ wm_st0) (hts _ wm_ini) (hts _ wm_co0) (by omega) hlc hR1 hR2 hd0 kk
        | false =>
          rw [hu] at hlk kk
          exact va_mmin hx hb (by rw [hml]; exact hl.1.symm) hown (hts _ hlk) (hts _ wm_st1) (hts _ wm_ini) (hts _ wm_co1) (by omega) hlc hR1 hR2 hd0 kk
      · cases h'
    · next yc bs mL rt9 np kd cn ws T cv hT =>
      simp only [Bool.and_eq_true] at hv
      have ek := beq_nat hv.1.1
      subst ek
      obtain ⟨r, w', hcl, hble, hsum, -, rfl⟩ := pcl_inv (show pcl C true a b (pc + 3) L st w = some (.inl f') from h)
      have hlk : Cond.methodLink y.cls x yc ∈ WS ∨ va_Nw (.methodLinkNest y.cls x yc "StepAway") s := by
        cases hc : Nat.blt cv 100 with
        | true => rw [hc] at hv; exact Or.inl (inWS hv.2)
        | false => rw [hc] at hv; exact Or.inr (hXt.1 _ (List.mem_of_getElem? (by simpa using hv.2)) rfl)
      exact pSt.callS hx hb hml hts hown hA hXt hC hRf hRl hT hlk hd0 hcl (split_take st b) hsum hR1 hR2 k
    · cases hv
  | invokespecial x =>
    simp only [pchkI, Bool.and_eq_true] at hck
    have hl : len = 3 := beq_nat hck.1
    subst hl
    have hv := hck.2
    split at hv
    · simp only [Bool.and_eq_true] at hv
      have h' : (match (Value.null), st with
        | .null, .ref _ :: r => bif Nat.ble (psum r) 8 then pgo (pc + 3) L r w else none
        | .retAddr _, _ => (match (st.take b).reverse with
          | .ref _ :: _ => pcl C true a b (pc + 3) L st w
          | _ => none)
        | _, _ => none) = some (.inl f') := h
      split at h'
      · next g r _ =>
        obtain ⟨h1, h2⟩ := cond_some h'
        cases pgo_inv h2
        have hsum : psum r ≤ 8 := Nat.le_of_ble_eq_true h1
        exact pSt.go (fun _ g1 g2 => ⟨fun u hu => g1 u (List.mem_cons_of_mem _ hu), g2⟩) rfl k (fun H locs cells slots ad ca ls hI hl hL kk => W.objInit (g := F0 m pc ls (.ref (ad g) :: r.map (ptr ad ex))) hx hb hown (hts _ (inWS hv.1)) (hts _ wo_inst) (hts _ wo_code) rfl (by rw [hml]; exact hl.1) rfl hd0 (by omega) (by have := psum_le (ad := ad) (ex := ex) hsum; show 2 * 0 + _ + 12 ≤ _; omega) (kk ls hl))
      · rename_i he; cases he
      · cases h'
    · next cv =>
      have h' : (match (st.take b).reverse with
          | .ref _ :: _ => pcl C true a b (pc + 3) L st w
          | _ => none) = some (.inl f') := h
      split at h'
      · next g as' has =>
        split at hv
        · next yc bs mL rt9 np kd cn ws T hT =>
          simp only [Bool.and_eq_true] at hv
          have ek := beq_nat hv.1.1
          subst ek
          obtain ⟨r, w', hcl, hble, hsum, -, rfl⟩ := pcl_inv h'
          have hlk : Cond.methodLink y.cls x yc ∈ WS ∨ va_Nw (.methodLinkNest y.cls x yc "StepAway") s := by
            cases hc : Nat.blt cv 100 with
            | true => rw [hc] at hv; exact Or.inl (inWS hv.2)
            | false => rw [hc] at hv; exact Or.inr (hXt.1 _ (List.mem_of_getElem? (by simpa using hv.2)) rfl)
          have hsp := split_take st b
          rw [has] at hcl hsp
          exact pSt.callI hx hb hml hts hown hA hXt hC hRf hRl hT hlk hd0 hcl hsp hsum hR1 hR2 k
        · cases hv
      · cases h'
    · cases hv
  | ireturn =>
    unfold pstep pret at h
    simp only at h
    split at h
    · split at h
      · cases h
      · obtain ⟨-, h2⟩ := ite_some' h
        cases h2
      · cases h
    · cases h
  | lreturn =>
    unfold pstep at h
    simp only at h
    split at h <;> cases h
  | areturn =>
    unfold pstep at h
    simp only at h
    split at h <;> cases h
  | return_ =>
    unfold pstep at h
    simp only at h
    split at h <;> cases h
  | _ => exact absurd (show (none : pR) = some (.inl f') from h) (fun g => by cases g)
end
