/-! EQUATIONS OF A WALK, at the ends of blocks -/
def pka {α : Type} (o : Option (Option Value × pW)) (F : Value → pW → Option α) (G : pW → Option α) : Option α := match o with
  | some (some v, w) => F v w
  | some (none, w) => G w
  | none => none
theorem pka_r {α : Type} (v : Value) (w : pW) (F : Value → pW → Option α) (G : pW → Option α) : pka (some (some v, w)) F G = F v w := rfl
theorem pka_v {α : Type} (w : pW) (F : Value → pW → Option α) (G : pW → Option α) : pka (some (none, w)) F G = G w := rfl
theorem pka_n {α : Type} (F : Value → pW → Option α) (G : pW → Option α) : pka none F G = none := rfl
section
variable {sc : pX} {C : pC} {rt : Option FieldType} {T : pT}
theorem den_ck {f f1 : pF} {c : Prop} [Decidable c] (h : pst sc C rt T f = if c then none else some (.inl f1)) : den sc C rt T f = if c then none else den sc C rt T f1 := by
  by_cases hc : c
  · rw [if_pos hc] at h ⊢
    exact den_stuck h
  · rw [if_neg hc] at h ⊢
    exact den_next h
theorem den_ck2 {f f1 : pF} {c : Prop} [Decidable c] (h : pst sc C rt T f = if c then some (.inl f1) else none) : den sc C rt T f = if c then den sc C rt T f1 else none := by
  by_cases hc : c
  · rw [if_pos hc] at h ⊢
    exact den_next h
  · rw [if_neg hc] at h ⊢
    exact den_stuck h
theorem den_rt2 {f : pF} {r : Option Value × pW} {c : Prop} [Decidable c] (h : pst sc C rt T f = if c then some (.inr r) else none) : den sc C rt T f = if c then some r else none := by
  by_cases hc : c
  · rw [if_pos hc] at h ⊢
    exact den_ret h
  · rw [if_neg hc] at h ⊢
    exact den_stuck h
theorem den_swd {f f1 : pF} {c : Prop} {X : pR} [Decidable c] (h : pst sc C rt T f = if c then some (.inl f1) else X) (hc : c) : den sc C rt T f = den sc C rt T f1 := by
  rw [if_pos hc] at h
  exact den_next h
theorem den_ka {f : pF} {o : Option (Option Value × pW)} {pc : Nat} {L : List (Option Value)} {st : List Value} (h : pst sc C rt T f = pkc o pc L st) : den sc C rt T f = pka o (fun v w => den sc C rt T (pc, L, v :: st, w)) (fun w => den sc C rt T (pc, L, st, w)) := by
  cases o with
  | none => exact den_stuck h
  | some x =>
    obtain ⟨r, w⟩ := x
    cases r with
    | none => exact den_next h
    | some v => exact den_next h
variable {pc a b q n g : Nat} {L : List (Option Value)} {r : List Value} {i x : Int32} {z : Int64} {v : Value} {I : Nat → Nat → Int32} {J : Nat → Nat → Int64} {R : Nat → Nat → Option Nat} {ty : FieldType}
theorem den_gial (hf : pfind pc T = some (.iaload, 1, a, b, q, v)) (hg : pshn g = some (.inl (.int, n))) : den sc C rt T (pc, L, .int i :: .ref g :: r, 176, I, J, R) = if i < 0 ∨ n ≤ i.toNatClampNeg then none else den sc C rt T (pc + 1, L, .int (I g i.toNatClampNeg) :: r, 176, I, J, R) := by
  refine den_ck ?_
  unfold pst
  simp only [hf]
  exact (pial_g (sc := sc) (pc := pc + 1) (L := L) (i := i) (r := r) (w := (176, I, J, R)) hg)
theorem den_glal (hf : pfind pc T = some (.laload, 1, a, b, q, v)) (hg : pshn g = some (.inl (.long, n))) : den sc C rt T (pc, L, .int i :: .ref g :: r, 176, I, J, R) = if i < 0 ∨ n ≤ i.toNatClampNeg then none else den sc C rt T (pc + 1, L, .long (J g i.toNatClampNeg) :: r, 176, I, J, R) := by
  refine den_ck ?_
  unfold pst
  simp only [hf]
  exact (plal_g (pc := pc + 1) (L := L) (i := i) (r := r) (w := (176, I, J, R)) hg)
theorem den_gias (hf : pfind pc T = some (.iastore, 1, a, b, q, v)) (hg : pshn g = some (.inl (.int, n))) : den sc C rt T (pc, L, .int x :: .int i :: .ref g :: r, 176, I, J, R) = if i < 0 ∨ n ≤ i.toNatClampNeg then none else den sc C rt T (pc + 1, L, r, 176, u2 I g i.toNatClampNeg x, J, R) := by
  refine den_ck ?_
  unfold pst
  simp only [hf]
  exact (pias_g (pc := pc + 1) (L := L) (i := i) (x := x) (r := r) (w := (176, I, J, R)) hg)
theorem den_glas (hf : pfind pc T = some (.lastore, 1, a, b, q, v)) (hg : pshn g = some (.inl (.long, n))) : den sc C rt T (pc, L, .long z :: .int i :: .ref g :: r, 176, I, J, R) = if i < 0 ∨ n ≤ i.toNatClampNeg then none else den sc C rt T (pc + 1, L, r, 176, I, u2 J g i.toNatClampNeg z, R) := by
  refine den_ck ?_
  unfold pst
  simp only [hf]
  exact (plas_g (pc := pc + 1) (L := L) (i := i) (x := z) (r := r) (w := (176, I, J, R)) hg)
theorem den_glen (hf : pfind pc T = some (.arraylength, 1, a, b, q, v)) (hg : pshn g = some (.inl (ty, n))) : den sc C rt T (pc, L, .ref g :: r, 176, I, J, R) = den sc C rt T (pc + 1, L, .int (Int32.ofNat n) :: r, 176, I, J, R) := by
  refine den_next ?_
  unfold pst
  simp only [hf]
  exact (palen_g (sc := sc) (pc := pc + 1) (L := L) (r := r) (w := (176, I, J, R)) hg)
end
