/-! THE PURE MACHINE IS SOUND, 11: references stay within the world; a walk -/
def pGd (w : pW) (st : List Value) (L : List (Option Value)) : Prop := pWf w ∧ (∀ v ∈ st, pVok w.1 v) ∧ pLok w.1 L
def pCg (C : pC) : Prop := ∀ (j : Nat) (as : List Value) (w w' : pW) (r : Option Value), C j as w = some (r, w') → pWf w → (∀ v ∈ as, pVok w.1 v) → w.1 ≤ w'.1 ∧ pWf w' ∧ ∀ v, r = some v → pVok w'.1 v
theorem pGd.same {w : pW} {st st' : List Value} {L L' : List (Option Value)} (h : pGd w st L) (h1 : ∀ v ∈ st', v ∈ st ∨ pVok w.1 v) (h2 : pLok w.1 L') : w.1 ≤ w.1 ∧ pGd w st' L' := ⟨Nat.le_refl _, h.1, fun v hv => (h1 v hv).elim (h.2.1 v) id, h2⟩
theorem pGd.tail {w : pW} {vs r : List Value} {L : List (Option Value)} {v : Value} (h : pGd w (vs ++ r) L) (hv : pVok w.1 v) : w.1 ≤ w.1 ∧ pGd w (v :: r) L := h.same (fun u hu => (List.mem_cons.mp hu).elim (fun q => Or.inr (q ▸ hv)) (fun q => Or.inl (List.mem_append_right _ q))) h.2.2
theorem pGd.drop {w : pW} {vs r : List Value} {L : List (Option Value)} (h : pGd w (vs ++ r) L) : w.1 ≤ w.1 ∧ pGd w r L := h.same (fun u hu => Or.inl (List.mem_append_right _ hu)) h.2.2
theorem pGd.w {w w' : pW} {vs r : List Value} {L : List (Option Value)} (h : pGd w (vs ++ r) L) (h1 : w'.1 = w.1) (h4 : w'.2.2.2 = w.2.2.2) : w.1 ≤ w'.1 ∧ pGd w' r L := ⟨by omega, by unfold pWf; rw [h4, h1]; exact h.1, fun v hv => by rw [h1]; exact h.2.1 v (List.mem_append_right _ hv), by rw [h1]; exact h.2.2⟩
theorem pWf.nw {w : pW} (h : pWf w) : pWf (pnw w) := fun a b t ht => by
  have ht' : u1 w.2.2.2 w.1 none a b = some t := ht
  show t < w.1 + 1
  unfold u1 at ht'
  by_cases he : a = w.1
  · rw [if_pos he] at ht'; cases ht'
  · rw [if_neg he] at ht'
    have := h a b t ht'
    omega
theorem pWf.nws : ∀ (n : Nat) {w : pW}, pWf w → pWf (pnws n w)
  | 0, _, h => h
  | n + 1, _, h => pWf.nws n h.nw
theorem pWf.grid {N : Nat} {w : pW} (h : pWf w) : pWf (pgrid N w) := fun a b t ht => by
  have hg : (pgrid N w).1 = w.1 + (N + 1) := (pnws_spec (N + 1) w).1
  have ht' : (if a = w.1 then (if b < N then some (w.1 + 1 + b) else none) else (pnws (N + 1) w).2.2.2 a b) = some t := ht
  rw [hg]
  by_cases he : a = w.1
  · rw [if_pos he] at ht'
    by_cases hb : b < N
    · rw [if_pos hb] at ht'; cases ht'; omega
    · rw [if_neg hb] at ht'; cases ht'
  · rw [if_neg he] at ht'
    have := pWf.nws (N + 1) h a b t ht'
    rw [(pnws_spec (N + 1) w).1] at this
    exact this
section
variable {pc : Nat} {L : List (Option Value)} {st : List Value} {w : pW} {y : MethodName} {sc : pX} {C : pC} {d : Nat} {rt : Option FieldType} {f' : pF}
set_option maxHeartbeats 4000000 in
theorem pstep_gd (hC : pCg C) {i : Instr} {len a b q : Nat} {v : Value} (hck : pchkI y pc (i, len, a, b, q, v) = true) (h : pstep sc C rt (i, len, a, b, q, v) pc L st w = some (.inl f')) (hg : pGd w st L) : w.1 ≤ f'.2.2.2.1 ∧ pGd f'.2.2.2 f'.2.2.1 f'.2.1 := by
  cases i with
  | iconst n =>
    simp only [pchkI, Bool.and_eq_true, decide_eq_true_eq] at hck
    obtain ⟨-, rfl⟩ := hck
    cases pgo_inv h
    exact hg.tail (vs := []) (pVi _ _)
  | bipush n =>
    simp only [pchkI, Bool.and_eq_true, decide_eq_true_eq] at hck
    obtain ⟨-, rfl⟩ := hck
    cases pgo_inv h
    exact hg.tail (vs := []) (pVi _ _)
  | sipush n =>
    simp only [pchkI, Bool.and_eq_true, decide_eq_true_eq] at hck
    obtain ⟨-, rfl⟩ := hck
    cases pgo_inv h
    exact hg.tail (vs := []) (pVi _ _)
  | lconst n =>
    simp only [pchkI, Bool.and_eq_true, decide_eq_true_eq] at hck
    obtain ⟨-, rfl⟩ := hck
    cases pgo_inv h
    exact hg.tail (vs := []) (pVj _ _)
  | ldc x =>
    simp only [pchkI, Bool.and_eq_true] at hck
    cases pgo_inv h
    have hv := hck.2
    refine hg.tail (vs := []) ?_
    split at hv <;> first | exact pVi _ _ | exact pVj _ _ | exact pVx _ _ | cases hv
  | ldc_w x =>
    simp only [pchkI, Bool.and_eq_true] at hck
    cases pgo_inv h
    have hv := hck.2
    refine hg.tail (vs := []) ?_
    split at hv <;> first | exact pVi _ _ | exact pVj _ _ | exact pVx _ _ | cases hv
  | ldc2_w x =>
    simp only [pchkI, Bool.and_eq_true] at hck
    cases pgo_inv h
    have hv := hck.2
    refine hg.tail (vs := []) ?_
    split at hv <;> first | exact pVi _ _ | exact pVj _ _ | exact pVx _ _ | cases hv
  | iload_n n =>
    have h' : plo 0 (pc + len) L n.val st w = some (.inl f') := h
    unfold plo at h'
    split at h'
    · next u hu =>
      cases pgo_inv h'
      have hlg : lg L n.val = some u := by
        unfold pld at hu
        split at hu <;> first | (cases hu; assumption) | cases hu
      exact hg.tail (vs := []) (hg.2.2 _ u hlg)
    · cases h'
  | iload n =>
    have h' : plo 0 (pc + len) L n st w = some (.inl f') := h
    unfold plo at h'
    split at h'
    · next u hu =>
      cases pgo_inv h'
      have hlg : lg L n = some u := by
        unfold pld at hu
        split at hu <;> first | (cases hu; assumption) | cases hu
      exact hg.tail (vs := []) (hg.2.2 _ u hlg)
    · cases h'
  | lload_n n =>
    have h' : plo 1 (pc + len) L n.val st w = some (.inl f') := h
    unfold plo at h'
    split at h'
    · next u hu =>
      cases pgo_inv h'
      have hlg : lg L n.val = some u := by
        unfold pld at hu
        split at hu <;> first | (cases hu; assumption) | cases hu
      exact hg.tail (vs := []) (hg.2.2 _ u hlg)
    · cases h'
  | lload n =>
    have h' : plo 1 (pc + len) L n st w = some (.inl f') := h
    unfold plo at h'
    split at h'
    · next u hu =>
      cases pgo_inv h'
      have hlg : lg L n = some u := by
        unfold pld at hu
        split at hu <;> first | (cases hu; assumption) | cases hu
      exact hg.tail (vs := []) (hg.2.2 _ u hlg)
    · cases h'
  | aload_n n =>
    have h' : plo 2 (pc + len) L n.val st w = some (.inl f') := h
    unfold plo at h'
    split at h'
    · next u hu =>
      cases pgo_inv h'
      have hlg : lg L n.val = some u := by
        unfold pld at hu
        split at hu <;> first | (cases hu; assumption) | cases hu
      exact hg.tail (vs := []) (hg.2.2 _ u hlg)
    · cases h'
  | aload n =>
    have h' : plo 2 (pc + len) L n st w = some (.inl f') := h
    unfold plo at h'
    split at h'
    · next u hu =>
      cases pgo_inv h'
      have hlg : lg L n = some u := by
        unfold pld at hu
        split at hu <;> first | (cases hu; assumption) | cases hu
      exact hg.tail (vs := []) (hg.2.2 _ u hlg)
    · cases h'
  | istore_n n =>
    obtain ⟨x, r, rfl, hi, rfl⟩ := psi_inv h
    exact hg.same (fun u hu => Or.inl (List.mem_cons_of_mem _ hu)) (hg.2.2.s1 hi (pVi _ _))
  | istore n =>
    obtain ⟨x, r, rfl, hi, rfl⟩ := psi_inv h
    exact hg.same (fun u hu => Or.inl (List.mem_cons_of_mem _ hu)) (hg.2.2.s1 hi (pVi _ _))
  | lstore_n n =>
    obtain ⟨x, r, rfl, hi, rfl⟩ := psl_inv h
    exact hg.same (fun u hu => Or.inl (List.mem_cons_of_mem _ hu)) (hg.2.2.s2 hi (pVj _ _))
  | lstore n =>
    obtain ⟨x, r, rfl, hi, rfl⟩ := psl_inv h
    exact hg.same (fun u hu => Or.inl (List.mem_cons_of_mem _ hu)) (hg.2.2.s2 hi (pVj _ _))
  | astore_n n =>
    obtain ⟨u, r, rfl, hi, rfl, -⟩ := psa_inv h
    exact hg.same (fun z hz => Or.inl (List.mem_cons_of_mem _ hz)) (hg.2.2.s1 hi (hg.2.1 u List.mem_cons_self))
  | astore n =>
    obtain ⟨u, r, rfl, hi, rfl, -⟩ := psa_inv h
    exact hg.same (fun z hz => Or.inl (List.mem_cons_of_mem _ hz)) (hg.2.2.s1 hi (hg.2.1 u List.mem_cons_self))
  | iinc n z =>
    have h' : (match lg L n, v with
      | some (.int x), .int n9 => bif Nat.blt n L.length then pgo (pc + len) (ls1 L n (.int (x + n9))) st w else none
      | _, _ => none) = some (.inl f') := h
    split at h'
    · obtain ⟨h1, h2⟩ := cond_some h'
      cases pgo_inv h2
      exact hg.same (fun u hu => Or.inl hu) (hg.2.2.s1 (blt_nat h1) (pVi _ _))
    · cases h'
  | iadd =>
    obtain ⟨x, z, r, rfl, rfl⟩ := pii_inv h
    exact hg.tail (vs := [.int z, .int x]) (pVi _ _)
  | isub =>
    obtain ⟨x, z, r, rfl, rfl⟩ := pii_inv h
    exact hg.tail (vs := [.int z, .int x]) (pVi _ _)
  | imul =>
    obtain ⟨x, z, r, rfl, rfl⟩ := pii_inv h
    exact hg.tail (vs := [.int z, .int x]) (pVi _ _)
  | iand =>
    obtain ⟨x, z, r, rfl, rfl⟩ := pii_inv h
    exact hg.tail (vs := [.int z, .int x]) (pVi _ _)
  | ior =>
    obtain ⟨x, z, r, rfl, rfl⟩ := pii_inv h
    exact hg.tail (vs := [.int z, .int x]) (pVi _ _)
  | ishl =>
    obtain ⟨x, z, r, rfl, rfl⟩ := pii_inv h
    exact hg.tail (vs := [.int z, .int x]) (pVi _ _)
  | ishr =>
    obtain ⟨x, z, r, rfl, rfl⟩ := pii_inv h
    exact hg.tail (vs := [.int z, .int x]) (pVi _ _)
  | idiv =>
    obtain ⟨x, z, r, rfl, hz, rfl⟩ := pdv_inv h
    exact hg.tail (vs := [.int z, .int x]) (pVi _ _)
  | irem =>
    obtain ⟨x, z, r, rfl, hz, rfl⟩ := pdv_inv h
    exact hg.tail (vs := [.int z, .int x]) (pVi _ _)
  | ladd =>
    obtain ⟨x, z, r, rfl, rfl⟩ := pll_inv h
    exact hg.tail (vs := [.long z, .long x]) (pVj _ _)
  | lsub =>
    obtain ⟨x, z, r, rfl, rfl⟩ := pll_inv h
    exact hg.tail (vs := [.long z, .long x]) (pVj _ _)
  | lmul =>
    obtain ⟨x, z, r, rfl, rfl⟩ := pll_inv h
    exact hg.tail (vs := [.long z, .long x]) (pVj _ _)
  | land =>
    obtain ⟨x, z, r, rfl, rfl⟩ := pll_inv h
    exact hg.tail (vs := [.long z, .long x]) (pVj _ _)
  | lor =>
    obtain ⟨x, z, r, rfl, rfl⟩ := pll_inv h
    exact hg.tail (vs := [.long z, .long x]) (pVj _ _)
  | lxor =>
    obtain ⟨x, z, r, rfl, rfl⟩ := pll_inv h
    exact hg.tail (vs := [.long z, .long x]) (pVj _ _)
  | lshl =>
    obtain ⟨x, z, r, rfl, rfl⟩ := pli_inv h
    exact hg.tail (vs := [.int z, .long x]) (pVj _ _)
  | lshr =>
    obtain ⟨x, z, r, rfl, rfl⟩ := pli_inv h
    exact hg.tail (vs := [.int z, .long x]) (pVj _ _)
  | lushr =>
    obtain ⟨x, z, r, rfl, rfl⟩ := pli_inv h
    exact hg.tail (vs := [.int z, .long x]) (pVj _ _)
  | ineg =>
    have h' : (match st with
      | .int x :: r => pgo (pc + len) L (.int (-x) :: r) w
      | _ => none) = some (.inl f') := h
    split at h'
    · next x r =>
      cases pgo_inv h'
      exact hg.tail (vs := [.int x]) (pVi _ _)
    · cases h'
  | i2l =>
    have h' : (match st with
      | .int x :: r => pgo (pc + len) L (.long x.toInt64 :: r) w
      | _ => none) = some (.inl f') := h
    split at h'
    · next x r =>
      cases pgo_inv h'
      exact hg.tail (vs := [.int x]) (pVj _ _)
    · cases h'
  | l2i =>
    have h' : (match st with
      | .long x :: r => pgo (pc + len) L (.int x.toInt32 :: r) w
      | _ => none) = some (.inl f') := h
    split at h'
    · next x r =>
      cases pgo_inv h'
      exact hg.tail (vs := [.long x]) (pVi _ _)
    · cases h'
  | i2b =>
    have h' : (match st with
      | .int x :: r => pgo (pc + len) L (.int x.toInt8.toInt32 :: r) w
      | _ => none) = some (.inl f') := h
    split at h'
    · next x r =>
      cases pgo_inv h'
      exact hg.tail (vs := [.int x]) (pVi _ _)
    · cases h'
  | lcmp =>
    have h' : (match st with
      | .long z :: .long x :: r => pgo (pc + len) L (.int (lg_cmp x z) :: r) w
      | _ => none) = some (.inl f') := h
    split at h'
    · next z x r =>
      cases pgo_inv h'
      exact hg.tail (vs := [.long z, .long x]) (pVi _ _)
    · cases h'
  | dup =>
    have h' : (match st with
      | u :: r => bif pcat (some u) then none else pgo (pc + len) L (u :: u :: r) w
      | _ => none) = some (.inl f') := h
    split at h'
    · next u r =>
      cases hc : pcat (some u) with
      | true => rw [hc] at h'; cases h'
      | false =>
        rw [hc] at h'
        cases pgo_inv h'
        exact hg.same (fun z hz => Or.inl ((List.mem_cons.mp hz).elim (fun g => g ▸ List.mem_cons_self) id)) hg.2.2
    · cases h'
  | dup2 =>
    have h' : (match st with
      | u :: x :: r => bif pcat (some u) then none else (bif pcat (some x) then none else pgo (pc + len) L (u :: x :: u :: x :: r) w)
      | _ => none) = some (.inl f') := h
    split at h'
    · next u x r =>
      cases hc : pcat (some u) with
      | true => rw [hc] at h'; cases h'
      | false =>
        rw [hc] at h'
        cases hc2 : pcat (some x) with
        | true => rw [hc2] at h'; cases h'
        | false =>
          rw [hc2] at h'
          cases pgo_inv h'
          exact hg.same (fun z hz => Or.inl ((List.mem_cons.mp hz).elim (fun g => g ▸ List.mem_cons_self) (fun hz => (List.mem_cons.mp hz).elim (fun g => g ▸ List.mem_cons_of_mem _ List.mem_cons_self) id))) hg.2.2
    · cases h'
  | pop =>
    have h' : (match st with
      | u :: r => bif pcat (some u) then none else pgo (pc + len) L r w
      | _ => none) = some (.inl f') := h
    split at h'
    · next u r =>
      cases hc : pcat (some u) with
      | true => rw [hc] at h'; cases h'
      | false =>
        rw [hc] at h'
        cases pgo_inv h'
        exact hg.drop (vs := [u])
    · cases h'
  | ifCond cd off =>
    cases cd with
    | eq =>
      have h' : (match st with
        | .int x :: r => if x = 0 then pgo a L r w else pgo (pc + len) L r w
        | _ => none) = some (.inl f') := h
      split at h'
      · next  x r =>
        by_cases hc : x = 0
        · rw [if_pos hc] at h'
          cases pgo_inv h'
          exact hg.drop (vs := [.int x])
        · rw [if_neg hc] at h'
          cases pgo_inv h'
          exact hg.drop (vs := [.int x])
      · cases h'
    | ne =>
      have h' : (match st with
        | .int x :: r => if x = 0 then pgo (pc + len) L r w else pgo a L r w
        | _ => none) = some (.inl f') := h
      split at h'
      · next  x r =>
        by_cases hc : x = 0
        · rw [if_pos hc] at h'
          cases pgo_inv h'
          exact hg.drop (vs := [.int x])
        · rw [if_neg hc] at h'
          cases pgo_inv h'
          exact hg.drop (vs := [.int x])
      · cases h'
    | lt =>
      have h' : (match st with
        | .int x :: r => if x < 0 then pgo a L r w else pgo (pc + len) L r w
        | _ => none) = some (.inl f') := h
      split at h'
      · next  x r =>
        by_cases hc : x < 0
        · rw [if_pos hc] at h'
          cases pgo_inv h'
          exact hg.drop (vs := [.int x])
        · rw [if_neg hc] at h'
          cases pgo_inv h'
          exact hg.drop (vs := [.int x])
      · cases h'
    | ge =>
      have h' : (match st with
        | .int x :: r => if 0 ≤ x then pgo a L r w else pgo (pc + len) L r w
        | _ => none) = some (.inl f') := h
      split at h'
      · next  x r =>
        by_cases hc : 0 ≤ x
        · rw [if_pos hc] at h'
          cases pgo_inv h'
          exact hg.drop (vs := [.int x])
        · rw [if_neg hc] at h'
          cases pgo_inv h'
          exact hg.drop (vs := [.int x])
      · cases h'
    | gt =>
      have h' : (match st with
        | .int x :: r => if 0 < x then pgo a L r w else pgo (pc + len) L r w
        | _ => none) = some (.inl f') := h
      split at h'
      · next  x r =>
        by_cases hc : 0 < x
        · rw [if_pos hc] at h'
          cases pgo_inv h'
          exact hg.drop (vs := [.int x])
        · rw [if_neg hc] at h'
          cases pgo_inv h'
          exact hg.drop (vs := [.int x])
      · cases h'
    | le =>
      have h' : (match st with
        | .int x :: r => if x ≤ 0 then pgo a L r w else pgo (pc + len) L r w
        | _ => none) = some (.inl f') := h
      split at h'
      · next  x r =>
        by_cases hc : x ≤ 0
        · rw [if_pos hc] at h'
          cases pgo_inv h'
          exact hg.drop (vs := [.int x])
        · rw [if_neg hc] at h'
          cases pgo_inv h'
          exact hg.drop (vs := [.int x])
      · cases h'
  | if_icmp cd off =>
    cases cd with
    | eq =>
      have h' : (match st with
        | .int z :: .int x :: r => if x = z then pgo a L r w else pgo (pc + len) L r w
        | _ => none) = some (.inl f') := h
      split at h'
      · next  z    x r =>
        by_cases hc : x = z
        · rw [if_pos hc] at h'
          cases pgo_inv h'
          exact hg.drop (vs := [.int z, .int x])
        · rw [if_neg hc] at h'
          cases pgo_inv h'
          exact hg.drop (vs := [.int z, .int x])
      · cases h'
    | ne =>
      have h' : (match st with
        | .int z :: .int x :: r => if x = z then pgo (pc + len) L r w else pgo a L r w
        | _ => none) = some (.inl f') := h
      split at h'
      · next  z    x r =>
        by_cases hc : x = z
        · rw [if_pos hc] at h'
          cases pgo_inv h'
          exact hg.drop (vs := [.int z, .int x])
        · rw [if_neg hc] at h'
          cases pgo_inv h'
          exact hg.drop (vs := [.int z, .int x])
      · cases h'
    | lt =>
      have h' : (match st with
        | .int z :: .int x :: r => if x < z then pgo a L r w else pgo (pc + len) L r w
        | _ => none) = some (.inl f') := h
      split at h'
      · next  z    x r =>
        by_cases hc : x < z
        · rw [if_pos hc] at h'
          cases pgo_inv h'
          exact hg.drop (vs := [.int z, .int x])
        · rw [if_neg hc] at h'
          cases pgo_inv h'
          exact hg.drop (vs := [.int z, .int x])
      · cases h'
    | ge =>
      have h' : (match st with
        | .int z :: .int x :: r => if z ≤ x then pgo a L r w else pgo (pc + len) L r w
        | _ => none) = some (.inl f') := h
      split at h'
      · next  z    x r =>
        by_cases hc : z ≤ x
        · rw [if_pos hc] at h'
          cases pgo_inv h'
          exact hg.drop (vs := [.int z, .int x])
        · rw [if_neg hc] at h'
          cases pgo_inv h'
          exact hg.drop (vs := [.int z, .int x])
      · cases h'
    | gt =>
      have h' : (match st with
        | .int z :: .int x :: r => if z < x then pgo a L r w else pgo (pc + len) L r w
        | _ => none) = some (.inl f') := h
      split at h'
      · next  z    x r =>
        by_cases hc : z < x
        · rw [if_pos hc] at h'
          cases pgo_inv h'
          exact hg.drop (vs := [.int z, .int x])
        · rw [if_neg hc] at h'
          cases pgo_inv h'
          exact hg.drop (vs := [.int z, .int x])
      · cases h'
    | le =>
      have h' : (match st with
        | .int z :: .int x :: r => if x ≤ z then pgo a L r w else pgo (pc + len) L r w
        | _ => none) = some (.inl f') := h
      split at h'
      · next  z    x r =>
        by_cases hc : x ≤ z
        · rw [if_pos hc] at h'
          cases pgo_inv h'
          exact hg.drop (vs := [.int z, .int x])
        · rw [if_neg hc] at h'
          cases pgo_inv h'
          exact hg.drop (vs := [.int z, .int x])
      · cases h'
  | goto off =>
    cases pgo_inv h
    exact hg.drop (vs := [])
  | tableswitch df lo hi offs =>
    have h' : (match st with
      | .int x :: r => if x.toInt < lo ∨ hi < x.toInt then pgo a L r w else (match offs[(x.toInt - lo).toNat]? with
        | some off => if (pc : Int) + off < 0 then none else pgo ((pc : Int) + off).toNat L r w
        | none => none)
      | _ => none) = some (.inl f') := h
    split at h'
    · next x r =>
      by_cases hc : x.toInt < lo ∨ hi < x.toInt
      · rw [if_pos hc] at h'
        cases pgo_inv h'
        exact hg.drop (vs := [.int x])
      · rw [if_neg hc] at h'
        split at h'
        · obtain ⟨-, h2⟩ := ite_some h'
          cases pgo_inv h2
          exact hg.drop (vs := [.int x])
        · cases h'
    · cases h'
  | getfield x =>
    obtain ⟨g, r, rfl, hs, hf⟩ := pgf_inv h
    rcases hf with ⟨-, rfl⟩ | ⟨-, rfl⟩ | ⟨-, rfl⟩
    · exact hg.tail (vs := [.ref g]) (pVi _ _)
    · exact hg.tail (vs := [.ref g]) (pVj _ _)
    · exact hg.tail (vs := [.ref g]) (hg.1.ok g b)
  | putfield x =>
    obtain ⟨u, g, r, rfl, hs, hf⟩ := ppf_inv h
    rcases hf with ⟨z, -, rfl, rfl⟩ | ⟨z, -, rfl, rfl⟩ | ⟨z, -, rfl, -, rfl⟩ | ⟨z, -, rfl, rfl⟩
    · exact hg.w (vs := [.int z, .ref g]) rfl rfl
    · exact hg.w (vs := [.long z, .ref g]) rfl rfl
    · exact hg.w (vs := [.int z, .ref g]) rfl rfl
    · refine ⟨Nat.le_refl _, fun a9 b9 r9 hr9 => ?_, fun v9 hv9 => hg.2.1 v9 (List.mem_cons_of_mem _ (List.mem_cons_of_mem _ hv9)), hg.2.2⟩
      have hr' : u2 w.2.2.2 g b (some z) a9 b9 = some r9 := hr9
      unfold u2 at hr'
      by_cases h1 : a9 = g
      · rw [if_pos h1] at hr'
        by_cases h2 : b9 = b
        · rw [if_pos h2] at hr'
          cases hr'
          exact hg.2.1 (.ref z) List.mem_cons_self
        · rw [if_neg h2] at hr'
          exact hg.1 a9 b9 r9 hr'
      · rw [if_neg h1] at hr'
        exact hg.1 a9 b9 r9 hr'
  | iaload =>
    rcases pial_inv h with ⟨i, g, r, n, rfl, hs, hin, rfl⟩ | ⟨i, r, n, xs, rfl, hs, hin, rfl⟩
    · exact hg.tail (vs := [.int i, .ref g]) (pVi _ _)
    · exact hg.tail (vs := [.int i, .retAddr 0]) (pVi _ _)
  | baload =>
    obtain ⟨i, g, r, n, rfl, hs, hin, rfl⟩ := pbal_inv h
    exact hg.tail (vs := [.int i, .ref g]) (pVi _ _)
  | laload =>
    obtain ⟨i, g, r, n, rfl, hs, hin, rfl⟩ := plal_inv h
    exact hg.tail (vs := [.int i, .ref g]) (pVj _ _)
  | aaload =>
    obtain ⟨i, g, r, n, ty, rfl, hs, hin, rfl⟩ := paal_inv h
    exact hg.tail (vs := [.int i, .ref g]) (hg.1.ok _ _)
  | iastore =>
    obtain ⟨x, i, g, r, n, rfl, hs, hin, rfl⟩ := pias_inv h
    exact hg.w (vs := [.int x, .int i, .ref g]) rfl rfl
  | bastore =>
    obtain ⟨x, i, g, r, n, rfl, hin, hs⟩ := pbas_inv h
    rcases hs with ⟨hs, rfl⟩ | ⟨hs, rfl⟩ <;> exact hg.w (vs := [.int x, .int i, .ref g]) rfl rfl
  | lastore =>
    obtain ⟨x, i, g, r, n, rfl, hs, hin, rfl⟩ := plas_inv h
    exact hg.w (vs := [.long x, .int i, .ref g]) rfl rfl
  | arraylength =>
    rcases palen_inv h with ⟨g, r, ty, n, rfl, hs, rfl⟩ | ⟨r, n, xs, rfl, hs, rfl⟩
    · exact hg.tail (vs := [.ref g]) (pVi _ _)
    · exact hg.tail (vs := [.retAddr 0]) (pVi _ _)
  | newarray t =>
    obtain ⟨n, r, N, rfl, -, -, -, -, rfl⟩ := pnar_inv h
    refine ⟨Nat.le_succ _, hg.1.nw, fun u hu => (List.mem_cons.mp hu).elim (fun q => ?_) (fun q => (hg.2.1 u (List.mem_cons_of_mem _ q)).mono (Nat.le_succ _)), fun k9 u hu => (hg.2.2 k9 u hu).mono (Nat.le_succ _)⟩
    rw [q]
    exact Nat.lt_succ_self _
  | multianewarray x dm =>
    match dm, hck, h with
    | 2, hck, h =>
      obtain ⟨k9, n, r, N, rfl, -, -, -, -, -, -, -, rfl⟩ := pmna_inv h
      have hgr : (pgrid N w).1 = w.1 + (N + 1) := (pnws_spec (N + 1) w).1
      have hle : w.1 ≤ (pgrid N w).1 := by omega
      refine ⟨hle, hg.1.grid, fun u hu => (List.mem_cons.mp hu).elim (fun q => ?_) (fun q => (hg.2.1 u (List.mem_cons_of_mem _ (List.mem_cons_of_mem _ q))).mono hle), fun k9 u hu => (hg.2.2 k9 u hu).mono hle⟩
      rw [q]
      show w.1 < (pgrid N w).1
      omega
    | 0, _, h => exact absurd (show (none : pR) = some (.inl f') from h) (fun g => by cases g)
    | 1, _, h => exact absurd (show (none : pR) = some (.inl f') from h) (fun g => by cases g)
    | n + 3, _, h => exact absurd (show (none : pR) = some (.inl f') from h) (fun g => by cases g)
  | new x =>
    obtain ⟨-, rfl⟩ := pnob_inv h
    refine ⟨Nat.le_succ _, hg.1.nw, fun u hu => (List.mem_cons.mp hu).elim (fun q => ?_) (fun q => (hg.2.1 u q).mono (Nat.le_succ _)), fun k9 u hu => (hg.2.2 k9 u hu).mono (Nat.le_succ _)⟩
    rw [q]
    exact Nat.lt_succ_self _
  | invokevirtual x =>
    have key : ∀ {chk : Bool}, pcl C chk a b (pc + len) L st w = some (.inl f') → w.1 ≤ f'.2.2.2.1 ∧ pGd f'.2.2.2 f'.2.2.1 f'.2.1 := fun hp => by
      obtain ⟨r, w', hcl, -, -, -, rfl⟩ := pcl_inv hp
      obtain ⟨c1, c2, c3⟩ := hC a _ w w' r hcl hg.1 (fun v9 hv9 => hg.2.1 v9 (List.mem_of_mem_take (List.mem_reverse.mp hv9)))
      refine ⟨c1, c2, fun u hu => ?_, fun k9 u hu => (hg.2.2 k9 u hu).mono c1⟩
      rcases List.mem_append.mp hu with q | q
      · exact c3 u (by cases r <;> simp at q; rw [q])
      · exact (hg.2.1 u (List.mem_of_mem_drop q)).mono c1
    exact key h
  | invokestatic x =>
    have key : ∀ {chk : Bool}, pcl C chk a b (pc + len) L st w = some (.inl f') → w.1 ≤ f'.2.2.2.1 ∧ pGd f'.2.2.2 f'.2.2.1 f'.2.1 := fun hp => by
      obtain ⟨r, w', hcl, -, -, -, rfl⟩ := pcl_inv hp
      obtain ⟨c1, c2, c3⟩ := hC a _ w w' r hcl hg.1 (fun v9 hv9 => hg.2.1 v9 (List.mem_of_mem_take (List.mem_reverse.mp hv9)))
      refine ⟨c1, c2, fun u hu => ?_, fun k9 u hu => (hg.2.2 k9 u hu).mono c1⟩
      rcases List.mem_append.mp hu with q | q
      · exact c3 u (by cases r <;> simp at q; rw [q])
      · exact (hg.2.1 u (List.mem_of_mem_drop q)).mono c1
    simp only [pchkI, Bool.and_eq_true] at hck
    have hv := hck.2
    split at hv
    · next u9 =>
      have h' : (match st with
        | .int z :: .int x :: r => bif Nat.ble (psum r) 8 then pgo (pc + len) L (.int (bif decide (u9 = 0) then (if x < z then z else x) else (if z < x then z else x)) :: r) w else none
        | _ => none) = some (.inl f') := h
      split at h'
      · next z x9 r =>
        obtain ⟨-, h2⟩ := cond_some h'
        cases pgo_inv h2
        exact hg.tail (vs := [.int z, .int x9]) (pVi _ _)
      · cases h'
    · exact key (chk := true) h
    · cases hv
  | invokespecial x =>
    have key : ∀ {chk : Bool}, pcl C chk a b (pc + len) L st w = some (.inl f') → w.1 ≤ f'.2.2.2.1 ∧ pGd f'.2.2.2 f'.2.2.1 f'.2.1 := fun hp => by
      obtain ⟨r, w', hcl, -, -, -, rfl⟩ := pcl_inv hp
      obtain ⟨c1, c2, c3⟩ := hC a _ w w' r hcl hg.1 (fun v9 hv9 => hg.2.1 v9 (List.mem_of_mem_take (List.mem_reverse.mp hv9)))
      refine ⟨c1, c2, fun u hu => ?_, fun k9 u hu => (hg.2.2 k9 u hu).mono c1⟩
      rcases List.mem_append.mp hu with q | q
      · exact c3 u (by cases r <;> simp at q; rw [q])
      · exact (hg.2.1 u (List.mem_of_mem_drop q)).mono c1
    simp only [pchkI, Bool.and_eq_true] at hck
    have hv := hck.2
    split at hv
    · have h' : (match (Value.null), st with
        | .null, .ref _ :: r => bif Nat.ble (psum r) 8 then pgo (pc + len) L r w else none
        | .retAddr _, _ => (match (st.take b).reverse with
          | .ref _ :: _ => pcl C true a b (pc + len) L st w
          | _ => none)
        | _, _ => none) = some (.inl f') := h
      split at h'
      · next g r _ =>
        obtain ⟨-, h2⟩ := cond_some h'
        cases pgo_inv h2
        exact hg.drop (vs := [.ref g])
      · rename_i he; cases he
      · cases h'
    · have h' : (match (st.take b).reverse with
          | .ref _ :: _ => pcl C true a b (pc + len) L st w
          | _ => none) = some (.inl f') := h
      split at h'
      · exact key h'
      · cases h'
    · cases hv
  | ireturn =>
    unfold pstep pret at h
    simp only at h
    split at h
    · split at h
      · cases h
      · obtain ⟨-, h2⟩ := ite_some' h
        cases h2
      · cases h
    · cases h
  | lreturn =>
    unfold pstep at h
    simp only at h
    split at h <;> cases h
  | areturn =>
    unfold pstep at h
    simp only at h
    split at h <;> cases h
  | return_ =>
    unfold pstep at h
    simp only at h
    split at h <;> cases h
  | _ => exact absurd (show (none : pR) = some (.inl f') from h) (fun g => by cases g)
end
