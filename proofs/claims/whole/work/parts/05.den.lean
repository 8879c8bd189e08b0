/-! WHAT A WALK COMES TO, by equations -/
section
variable {sc : pX} {C : pC} {rt : Option FieldType} {T : pT}
theorem den_of {f : pF} {r : Option Value × pW} {n : Nat} (h : piter sc C rt T n f = some r) : den sc C rt T f = some r := by
  unfold den
  split
  · next hx _ =>
    obtain ⟨m, hm⟩ := hx.choose_spec
    have h1 := piter_mono sc C rt T m (m + n) f _ hm (Nat.le_add_right _ _)
    have h2 := piter_mono sc C rt T n (m + n) f _ h (Nat.le_add_left _ _)
    rw [h1] at h2
    exact h2
  · next hx _ => exact absurd ⟨r, n, h⟩ hx
theorem den_iter {f : pF} {r : Option Value × pW} (h : den sc C rt T f = some r) : ∃ n, piter sc C rt T n f = some r := by
  unfold den at h
  split at h
  · next hx _ =>
    obtain ⟨m, hm⟩ := hx.choose_spec
    cases h
    exact ⟨m, hm⟩
  · cases h
theorem den_none {f : pF} (h : ∀ (r : Option Value × pW) (n : Nat), ¬ piter sc C rt T n f = some r) : den sc C rt T f = none := by
  cases e : den sc C rt T f with
  | none => rfl
  | some r =>
    obtain ⟨n, hn⟩ := den_iter e
    exact absurd hn (h r n)
theorem den_next {f f' : pF} (h : pst sc C rt T f = some (.inl f')) : den sc C rt T f = den sc C rt T f' := by
  cases e : den sc C rt T f' with
  | none =>
    refine den_none fun r n hn => ?_
    cases n with
    | zero => cases hn
    | succ n =>
      simp only [piter, h] at hn
      rw [den_of hn] at e
      cases e
  | some r =>
    obtain ⟨n, hn⟩ := den_iter e
    refine den_of (n := n + 1) ?_
    simp only [piter, h]
    exact hn
theorem den_ret {f : pF} {r : Option Value × pW} (h : pst sc C rt T f = some (.inr r)) : den sc C rt T f = some r := by
  refine den_of (n := 1) ?_
  simp only [piter, h]
theorem den_stuck {f : pF} (h : pst sc C rt T f = none) : den sc C rt T f = none := by
  refine den_none fun r n hn => ?_
  cases n with
  | zero => cases hn
  | succ n => simp only [piter, h] at hn; cases hn
def psteps (sc : pX) (C : pC) (rt : Option FieldType) (T : pT) : Nat → pF → pR
  | 0, f => some (.inl f)
  | n + 1, f => match pst sc C rt T f with
    | some (.inl f') => psteps sc C rt T n f'
    | r => r
theorem den_steps : ∀ (n : Nat) {f f' : pF}, psteps sc C rt T n f = some (.inl f') → den sc C rt T f = den sc C rt T f'
  | 0, f, f', h => by cases h; rfl
  | n + 1, f, f', h => by
    simp only [psteps] at h
    split at h
    · next g hg => exact (den_next hg).trans (den_steps n h)
    · next r hr =>
      rw [h] at hr
      exact absurd rfl (hr f')
theorem den_br {f f1 f2 : pF} {c : Prop} [Decidable c] (h : pst sc C rt T f = if c then some (.inl f1) else some (.inl f2)) : den sc C rt T f = if c then den sc C rt T f1 else den sc C rt T f2 := by
  by_cases hc : c
  · rw [if_pos hc] at h ⊢
    exact den_next h
  · rw [if_neg hc] at h ⊢
    exact den_next h
theorem den_chk {f f1 : pF} {c : Prop} [Decidable c] (h : pst sc C rt T f = if c then none else some (.inl f1)) (hc : ¬ c) : den sc C rt T f = den sc C rt T f1 := by
  rw [if_neg hc] at h
  exact den_next h
theorem den_chk' {f f1 : pF} {c : Prop} [Decidable c] (h : pst sc C rt T f = if c then some (.inl f1) else none) (hc : c) : den sc C rt T f = den sc C rt T f1 := by
  rw [if_pos hc] at h
  exact den_next h
theorem den_retb {f : pF} {r : Option Value × pW} {c : Prop} [Decidable c] (h : pst sc C rt T f = if c then some (.inr r) else none) (hc : c) : den sc C rt T f = some r := by
  rw [if_pos hc] at h
  exact den_ret h
theorem den_call {f : pF} {o : Option (Option Value × pW)} {pc : Nat} {L : List (Option Value)} {st : List Value} {v : Value} {w' : pW} (h : pst sc C rt T f = pkc o pc L st) (ho : o = some (some v, w')) : den sc C rt T f = den sc C rt T (pc, L, v :: st, w') := by
  rw [ho] at h
  exact den_next h
theorem den_callv {f : pF} {o : Option (Option Value × pW)} {pc : Nat} {L : List (Option Value)} {st : List Value} {w' : pW} (h : pst sc C rt T f = pkc o pc L st) (ho : o = some (none, w')) : den sc C rt T f = den sc C rt T (pc, L, st, w') := by
  rw [ho] at h
  exact den_next h
theorem den_calln {f : pF} {o : Option (Option Value × pW)} {pc : Nat} {L : List (Option Value)} {st : List Value} (h : pst sc C rt T f = pkc o pc L st) (ho : o = none) : den sc C rt T f = none := by
  rw [ho] at h
  exact den_stuck h
end
def pLEN : List Nat := [5, 5, 5, 5, 5, 4, 5, 6, 3, 4, 4, 5, 3, 4, 5, 5]
def pSTR : List (List Int32) := [[115, 105, 100, 101, 115], [112, 105, 101, 99, 101], [112, 97, 114, 116, 115], [119, 111, 114, 116, 104], [119, 104, 111, 108, 101], [108, 101, 102, 116], [112, 101, 97, 99, 101], [98, 114, 101, 97, 99, 104], [100, 97, 121], [108, 117, 109, 112], [109, 111, 100, 101], [116, 117, 114, 110, 115], [97, 110, 121], [111, 110, 99, 101], [102, 105, 114, 115, 116], [112, 97, 105, 114, 115]]
def pslen (args : List Value) (w : pW) : Option (Option Value × pW) := match args with
  | [.retAddr t] => bif (Nat.blt 0 t && Nat.blt t 17) then some (some (.int (Int32.ofNat (pLEN.getD (t - 1) 0))), w) else none
  | _ => none
def pschr (args : List Value) (w : pW) : Option (Option Value × pW) := match args with
  | [.retAddr t, .int i] => bif (Nat.blt 0 t && Nat.blt t 17) then (if i < 0 ∨ pLEN.getD (t - 1) 0 ≤ i.toNatClampNeg then none else some (some (.int ((pSTR.getD (t - 1) []).getD i.toNatClampNeg 0)), w)) else none
  | _ => none
/-- a method's meaning, its calls at most d deep -/
noncomputable def Mean : Nat → pC
  | 0 => fun _ _ _ => none
  | d + 1 => fun j args w => bif Nat.beq j 240 then (bif Nat.ble 5 d then pslen args w else none) else (bif Nat.beq j 241 then (bif Nat.ble 5 d then pschr args w else none) else (match mTab j with
    | some (_, _, nL, rt, np, kd, _, _, T) => bif (Nat.beq args.length (bif Nat.beq kd 0 then np else np + 1) && Nat.ble (lent0 args).length nL) then den none (Mean d) rt T (0, lent args nL, [], w) else none
    | none => none))
