/-! THE TWO CONSTRUCTORS, by an interpreter that counts its steps -/
theorem pcl_mono {C C' : pC} (hC : ∀ (j : Nat) (a : List Value) (w : pW) (r : Option Value × pW), C j a w = some r → C' j a w = some r) {chk : Bool} {a b pc : Nat} {L : List (Option Value)} {st : List Value} {w : pW} {x : pF ⊕ (Option Value × pW)} (h : pcl C chk a b pc L st w = some x) : pcl C' chk a b pc L st w = some x := by
  unfold pcl at h ⊢
  generalize (Nat.ble b st.length && Nat.ble (psum (st.drop b)) 8 && chk) = g at h ⊢
  cases g with
  | false => exact h
  | true =>
    change pkc (C a (st.take b).reverse w) pc L (st.drop b) = some x at h
    change pkc (C' a (st.take b).reverse w) pc L (st.drop b) = some x
    cases e : C a (st.take b).reverse w with
    | none => rw [e] at h; cases h
    | some r => rw [hC _ _ _ _ e]; rw [e] at h; exact h
theorem pstep_mono {C C' : pC} (hC : ∀ (j : Nat) (a : List Value) (w : pW) (r : Option Value × pW), C j a w = some r → C' j a w = some r) {sc : pX} {rt : Option FieldType} {e : pI} {pc : Nat} {L : List (Option Value)} {st : List Value} {w : pW} {x : pF ⊕ (Option Value × pW)} (h : pstep sc C rt e pc L st w = some x) : pstep sc C' rt e pc L st w = some x := by
  obtain ⟨i, len, a, b, q, v⟩ := e
  cases i with
  | invokevirtual _ => exact pcl_mono hC h
  | invokestatic _ =>
    cases v <;> first | exact h | exact pcl_mono hC h
  | invokespecial _ =>
    cases v with
    | retAddr k =>
      change (match (st.take b).reverse with | .ref _ :: _ => pcl C true a b (pc + len) L st w | _ => none) = some x at h
      change (match (st.take b).reverse with | .ref _ :: _ => pcl C' true a b (pc + len) L st w | _ => none) = some x
      split at h
      · exact pcl_mono hC h
      · cases h
    | null =>
      rcases st with _ | ⟨u, r⟩
      · exact h
      · cases u <;> exact h
    | _ => exact h
  | ifCond c _ => cases c <;> exact h
  | if_icmp c _ => cases c <;> exact h
  | multianewarray _ n =>
    by_cases hn : n = 2
    · subst hn
      exact h
    · exfalso
      simp [pstep, hn] at h
  | _ => exact h
theorem piter_C {C C' : pC} (hC : ∀ (j : Nat) (a : List Value) (w : pW) (r : Option Value × pW), C j a w = some r → C' j a w = some r) {sc : pX} {rt : Option FieldType} {T : pT} : ∀ (n : Nat) (f : pF) (r : Option Value × pW), piter sc C rt T n f = some r → piter sc C' rt T n f = some r
  | 0, _, _, h => by cases h
  | n + 1, f, r, h => by
    unfold piter at h ⊢
    cases e : pst sc C rt T f with
    | none => rw [e] at h; cases h
    | some x =>
      have e' : pst sc C' rt T f = some x := by
        unfold pst at e ⊢
        split at e
        · next q hq =>
          exact pstep_mono hC e
        · cases e
      rw [e'] 
      rw [e] at h
      cases x with
      | inl f' => exact piter_C hC n f' r h
      | inr r' => exact h
/-- a method's meaning, found in at most fu steps of each walk -/
def cM (fu : Nat) : Nat → pC
  | 0 => fun _ _ _ => none
  | d + 1 => fun j args w => bif Nat.beq j 240 then none else (bif Nat.beq j 241 then none else (match mTab j with
    | some (_, _, nL, rt, np, kd, _, _, T) => bif (Nat.beq args.length (bif Nat.beq kd 0 then np else np + 1) && Nat.ble (lent0 args).length nL) then piter none (cM fu d) rt T fu (0, lent args nL, [], w) else none
    | none => none))
theorem cM_ok (fu : Nat) : ∀ (d j : Nat) (a : List Value) (w : pW) (r : Option Value × pW), cM fu d j a w = some r → Mean d j a w = some r
  | 0, _, _, _, _, h => by cases h
  | d + 1, j, a, w, r, h => by
    unfold cM at h
    unfold Mean
    cases e1 : Nat.beq j 240 with
    | true => rw [e1] at h; cases h
    | false =>
      cases e2 : Nat.beq j 241 with
      | true => rw [e1, e2] at h; cases h
      | false =>
        rw [e1, e2] at h
        change (match mTab j with | some (_, _, nL, rt, np, kd, _, _, T) => bif (Nat.beq a.length (bif Nat.beq kd 0 then np else np + 1) && Nat.ble (lent0 a).length nL) then piter none (cM fu d) rt T fu (0, lent a nL, [], w) else none | none => none) = some r at h
        change (match mTab j with | some (_, _, nL, rt, np, kd, _, _, T) => bif (Nat.beq a.length (bif Nat.beq kd 0 then np else np + 1) && Nat.ble (lent0 a).length nL) then den none (Mean d) rt T (0, lent a nL, [], w) else none | none => none) = some r
        cases e3 : mTab j with
        | none => rw [e3] at h; cases h
        | some x =>
          obtain ⟨y1, y2, nL, rt, np, kd, y7, y8, T⟩ := x
          rw [e3] at h
          dsimp only at h ⊢
          cases e4 : (Nat.beq a.length (bif Nat.beq kd 0 then np else np + 1) && Nat.ble (lent0 a).length nL) with
          | false => rw [e4] at h; cases h
          | true =>
            rw [e4] at h
            exact den_of (piter_C (cM_ok fu d) fu _ r h)
