/-! WHERE REFERENCES LIE: in cells that are made, at places below 128 -/
def pSp (w : pW) : Prop := ∀ h k : Nat, (w.1 ≤ h ∨ 128 ≤ k) → w.2.2.2 h k = none
def wOf (x : pF ⊕ (Option Value × pW)) : pW := match x with
  | .inl f => f.2.2.2
  | .inr r => r.2
theorem pSp_nw {w : pW} (h : pSp w) : pSp (pnw w) := fun a k q => by
  show u1 w.2.2.2 w.1 none a k = none
  unfold u1
  split
  · rfl
  · next ne =>
    have q' : w.1 + 1 ≤ a ∨ 128 ≤ k := q
    exact h a k (by omega)
theorem pSp_nws : ∀ (n : Nat) {w : pW}, pSp w → pSp (pnws n w)
  | 0, _, h => h
  | n + 1, _, h => pSp_nws n (pSp_nw h)
theorem pnws_1 : ∀ (n : Nat) (w : pW), (pnws n w).1 = w.1 + n
  | 0, _ => rfl
  | n + 1, w => by
    show (pnws n (pnw w)).1 = _
    rw [pnws_1 n (pnw w)]
    show w.1 + 1 + n = _
    omega
theorem SH_64 : ∀ h : Nat, h < 176 → (match SHget h with | some (.inl (.array _, N)) => Nat.blt N 128 | _ => true) = true := by decide +kernel
def okE (e : pI) : Bool := match e.1 with
  | .putfield _ => Nat.blt e.2.2.2.1 128
  | _ => true
theorem SH_none {n : Nat} (h : 176 ≤ n) : SHget n = none := by
  have e : ∀ K : Nat, K ≤ 176 → Nat.blt n K = false := fun K hK => by
    cases q : Nat.blt n K
    · rfl
    · have : n < K := by simpa [Nat.blt_eq] using q
      omega
  have e2 : ∀ K : Nat, K < 176 → Nat.beq n K = false := fun K hK => by
    cases q : Nat.beq n K
    · rfl
    · have : n = K := Nat.eq_of_beq_eq_true q
      omega
  simp [SHget, e, e2]
theorem psh_lt {w : pW} {h : Nat} {s : pS} (e : psh w h = some s) : h < w.1 := by
  unfold psh at e
  cases q : Nat.blt h w.1 with
  | false => rw [q] at e; cases e
  | true => simpa [Nat.blt_eq] using q
theorem pSp_cl {C : pC} (hC : ∀ (j : Nat) (a : List Value) (w : pW) (r : Option Value × pW), C j a w = some r → pSp w → pSp r.2) {chk : Bool} {a b pc : Nat} {L : List (Option Value)} {st : List Value} {w : pW} {x : pF ⊕ (Option Value × pW)} (h : pcl C chk a b pc L st w = some x) (hs : pSp w) : pSp (wOf x) := by
  unfold pcl at h
  generalize (Nat.ble b st.length && Nat.ble (psum (st.drop b)) 8 && chk) = g at h
  cases g with
  | false => cases h
  | true =>
    change pkc (C a (st.take b).reverse w) pc L (st.drop b) = some x at h
    cases e : C a (st.take b).reverse w with
    | none => rw [e] at h; cases h
    | some r =>
      rw [e] at h
      have q := hC _ _ _ _ e hs
      obtain ⟨o, w'⟩ := r
      cases o <;> (cases h; exact q)
theorem pSp_st {C : pC} (hC : ∀ (j : Nat) (a : List Value) (w : pW) (r : Option Value × pW), C j a w = some r → pSp w → pSp r.2) {sc : pX} {rt : Option FieldType} {e : pI} (he : okE e = true) {pc : Nat} {L : List (Option Value)} {st : List Value} {w : pW} {x : pF ⊕ (Option Value × pW)} (h : pstep sc C rt e pc L st w = some x) (hs : pSp w) : pSp (wOf x) := by
  obtain ⟨i, len, a, b, q, v⟩ := e
  cases i with
  | invokevirtual _ => exact pSp_cl hC h hs
  | invokestatic _ =>
    cases v with
    | double k =>
      simp only [pstep] at h
      split at h
      · generalize Nat.ble (psum _) 8 = g at h
        cases g
        · cases h
        · cases h; exact hs
      · cases h
    | _ => exact pSp_cl hC h hs
  | invokespecial _ =>
    cases v with
    | retAddr k =>
      change (match (st.take b).reverse with | .ref _ :: _ => pcl C true a b (pc + len) L st w | _ => none) = some x at h
      split at h
      · exact pSp_cl hC h hs
      · cases h
    | null =>
      simp only [pstep] at h
      split at h
      · generalize Nat.ble (psum _) 8 = g at h
        cases g
        · cases h
        · cases h; exact hs
      · simp_all
      · cases h
    | _ => cases h
  | putfield _ =>
    have hb : b < 128 := by
      have he' : Nat.blt b 128 = true := he
      simpa [Nat.blt_eq] using he'
    simp only [pstep, ppf] at h
    split at h
    · split at h
      · next c' hsh =>
        generalize Nat.beq a c' = g at h
        cases g
        · cases h
        · dsimp only [cond] at h
          split at h
          · cases h; exact hs
          · cases h; exact hs
          · split at h
            · cases h; exact hs
            · cases h
          · cases h
            intro h' k' q'
            rename_i hh _ _ _ _
            show u2 w.2.2.2 _ _ _ h' k' = none
            have hlt := psh_lt hsh
            have q'' : w.1 ≤ h' ∨ 128 ≤ k' := q'
            unfold u2
            split
            · first
                | (exfalso; omega)
                | (split
                   · exfalso; omega
                   · exact hs h' k' q'')
            · exact hs h' k' q''
          · cases h
      · cases h
    · cases h
  | newarray t =>
    simp only [pstep, pnar] at h
    split at h
    · split at h
      · generalize (_ && Nat.ble _ 100000) = g at h
        cases g
        · cases h
        · cases h; exact pSp_nw hs
      · cases h
    · cases h
  | new _ =>
    simp only [pstep, pnob] at h
    split at h
    · generalize Nat.beq a _ = g at h
      cases g
      · cases h
      · cases h; exact pSp_nw hs
    · cases h
  | multianewarray _ n =>
    by_cases hn : n = 2
    · subst hn
      simp only [pstep, pmna] at h
      split at h
      · split at h
        · next N hN =>
          generalize (_ && prows _ _ _) = g at h
          cases g
          · cases h
          · cases h
            intro h' k' q'
            have hw : w.1 < 176 := by
              rcases Nat.lt_or_ge w.1 176 with q | q
              · exact q
              · rw [SH_none q] at hN
                cases hN
            have hN' := SH_64 w.1 hw
            rw [hN] at hN'
            have hN64 : N < 128 := by simpa [Nat.blt_eq] using hN'
            have q'' : (pnws (N + 1) w).1 ≤ h' ∨ 128 ≤ k' := q'
            have h1 := pnws_1 (N + 1) w
            show (if h' = w.1 then (if k' < N then some (w.1 + 1 + k') else none) else (pnws (N + 1) w).2.2.2 h' k') = none
            split
            · rw [if_neg (by omega)]
            · exact pSp_nws (N + 1) hs h' k' q''
        · cases h
      · cases h
    · exfalso
      simp [pstep, hn] at h
  | dup2 =>
    simp only [pstep, pgo] at h
    split at h
    · next u y r =>
      cases e1 : pcat (some u) with
      | true => rw [e1] at h; cases h
      | false =>
        rw [e1] at h
        cases e2 : pcat (some y) with
        | true => rw [e2] at h; cases h
        | false => rw [e2] at h; cases h; exact hs
    · cases h
  | ifCond c _ =>
    cases c <;> (simp only [pstep, pgo] at h; split at h <;> first | (split at h <;> (cases h; exact hs)) | cases h)
  | if_icmp c _ =>
    cases c <;> (simp only [pstep, pgo] at h; split at h <;> first | (split at h <;> (cases h; exact hs)) | cases h)
  | _ =>
    first
      | (cases h; exact hs)
      | (simp only [pstep, plo, psi, psa, psl, pii, pll, pli, pdv, pgf, pial, pbal, plal, paal, pias, pbas, plas, palen, pret, pgo] at h
         repeat' (split at h)
         all_goals first
           | (cases h; done)
           | (cases h; exact hs)
           | (generalize Nat.blt _ _ = g at h; cases g <;> first | (cases h; done) | (cases h; exact hs))
           | (simp only [cond] at h; repeat' (split at h); all_goals first | (cases h; done) | (cases h; exact hs)))
theorem pfind_ok {T : pT} (hT : T.all (fun x => okE x.2) = true) {pc : Nat} {e : pI} (h : pfind pc T = some e) : okE e = true := by
  induction T with
  | nil => cases h
  | cons x T ih =>
    rw [List.all_cons, Bool.and_eq_true] at hT
    unfold pfind at h
    cases q : Nat.beq pc x.1 with
    | false => rw [q] at h; exact ih hT.2 h
    | true =>
      rw [q] at h
      cases h
      exact hT.1
theorem pSp_it {C : pC} (hC : ∀ (j : Nat) (a : List Value) (w : pW) (r : Option Value × pW), C j a w = some r → pSp w → pSp r.2) {sc : pX} {rt : Option FieldType} {T : pT} (hT : T.all (fun x => okE x.2) = true) : ∀ (n : Nat) (f : pF) (r : Option Value × pW), piter sc C rt T n f = some r → pSp f.2.2.2 → pSp r.2
  | 0, _, _, h, _ => by cases h
  | n + 1, f, r, h, hs => by
    unfold piter at h
    cases e : pst sc C rt T f with
    | none => rw [e] at h; cases h
    | some x =>
      have q : pSp (wOf x) := by
        unfold pst at e
        split at e
        · next y hy => exact pSp_st hC (pfind_ok hT hy) e hs
        · cases e
      rw [e] at h
      cases x with
      | inl f' => exact pSp_it hC hT n f' r h q
      | inr r' => cases h; exact q
theorem mTab_ok : ∀ j : Nat, j < 300 → (match mTab j with | some (_, _, _, _, _, _, _, _, T) => T.all (fun x => okE x.2) | none => true) = true := by decide +kernel
theorem mTab_len : Nat.ble mTabs.length 300 = true := by decide +kernel
theorem mTab_none {j : Nat} (h : 300 ≤ j) : mTab j = none := by
  have hl := Nat.le_of_ble_eq_true mTab_len
  show mTabs.getD j none = none
  rw [List.getD_eq_getElem?_getD, List.getElem?_eq_none (by omega)]
  rfl
theorem pSp_cM (fu : Nat) : ∀ (d j : Nat) (a : List Value) (w : pW) (r : Option Value × pW), cM fu d j a w = some r → pSp w → pSp r.2
  | 0, _, _, _, _, h, _ => by cases h
  | d + 1, j, a, w, r, h, hs => by
    unfold cM at h
    cases e1 : Nat.beq j 240 with
    | true => rw [e1] at h; cases h
    | false =>
      cases e2 : Nat.beq j 241 with
      | true => rw [e1, e2] at h; cases h
      | false =>
        rw [e1, e2] at h
        change (match mTab j with | some (_, _, nL, rt, np, kd, _, _, T) => bif (Nat.beq a.length (bif Nat.beq kd 0 then np else np + 1) && Nat.ble (lent0 a).length nL) then piter none (cM fu d) rt T fu (0, lent a nL, [], w) else none | none => none) = some r at h
        cases e3 : mTab j with
        | none => rw [e3] at h; cases h
        | some x =>
          have hj : j < 300 := by
            rcases Nat.lt_or_ge j 300 with q | q
            · exact q
            · rw [mTab_none q] at e3
              cases e3
          have hT := mTab_ok j hj
          rw [e3] at hT
          obtain ⟨y1, y2, nL, rt, np, kd, y7, y8, T⟩ := x
          rw [e3] at h
          dsimp only at h hT
          cases e4 : (Nat.beq a.length (bif Nat.beq kd 0 then np else np + 1) && Nat.ble (lent0 a).length nL) with
          | false => rw [e4] at h; cases h
          | true =>
            rw [e4] at h
            exact pSp_it (pSp_cM fu d) hT fu _ r h hs
