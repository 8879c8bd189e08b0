/-! THE PURE MACHINE IS SOUND, 8: what each helper's answer says -/
theorem beq_nat {a b : Nat} (h : Nat.beq a b = true) : a = b := Nat.eq_of_beq_eq_true h
theorem blt_nat {a b : Nat} (h : Nat.blt a b = true) : a < b := Nat.le_of_ble_eq_true h
theorem cond_some {α : Type} {b : Bool} {x : Option α} {y : α} (h : (bif b then x else none) = some y) : b = true ∧ x = some y := by
  cases b with
  | true => exact ⟨rfl, h⟩
  | false => cases h
theorem ite_some {α : Type} {c : Prop} [Decidable c] {x : Option α} {y : α} (h : (if c then none else x) = some y) : ¬ c ∧ x = some y := by
  by_cases hc : c
  · rw [if_pos hc] at h; cases h
  · rw [if_neg hc] at h; exact ⟨hc, h⟩
theorem ite_some' {α : Type} {c : Prop} [Decidable c] {x : Option α} {y : α} (h : (if c then x else none) = some y) : c ∧ x = some y := by
  by_cases hc : c
  · rw [if_pos hc] at h; exact ⟨hc, h⟩
  · rw [if_neg hc] at h; cases h
theorem pgo_inv {pc : Nat} {L : List (Option Value)} {st : List Value} {w : pW} {f' : pF} (h : pgo pc L st w = some (.inl f')) : f' = (pc, L, st, w) := by
  unfold pgo at h
  cases h
  rfl
section
variable {pc : Nat} {L : List (Option Value)} {st : List Value} {w : pW} {f' : pF}
theorem pii_inv {f : Int32 → Int32 → Int32} (h : pii f pc L st w = some (.inl f')) : ∃ x y r, st = .int y :: .int x :: r ∧ f' = (pc, L, .int (f x y) :: r, w) := by
  unfold pii at h
  split at h
  · exact ⟨_, _, _, rfl, pgo_inv h⟩
  · cases h
theorem pll_inv {f : Int64 → Int64 → Int64} (h : pll f pc L st w = some (.inl f')) : ∃ x y r, st = .long y :: .long x :: r ∧ f' = (pc, L, .long (f x y) :: r, w) := by
  unfold pll at h
  split at h
  · exact ⟨_, _, _, rfl, pgo_inv h⟩
  · cases h
theorem pli_inv {f : Int64 → Int32 → Int64} (h : pli f pc L st w = some (.inl f')) : ∃ x y r, st = .int y :: .long x :: r ∧ f' = (pc, L, .long (f x y) :: r, w) := by
  unfold pli at h
  split at h
  · exact ⟨_, _, _, rfl, pgo_inv h⟩
  · cases h
theorem pdv_inv {f : Int32 → Int32 → Int32} (h : pdv f pc L st w = some (.inl f')) : ∃ x y r, st = .int y :: .int x :: r ∧ ¬ y = 0 ∧ f' = (pc, L, .int (f x y) :: r, w) := by
  unfold pdv at h
  split at h
  · obtain ⟨h1, h2⟩ := ite_some h
    exact ⟨_, _, _, rfl, h1, pgo_inv h2⟩
  · cases h
theorem pgf_inv {c k : Nat} {v : Value} (h : pgf pc L st w c k v = some (.inl f')) : ∃ a r, st = .ref a :: r ∧ psh w a = some (.inr c) ∧ ((v = .retAddr 0 ∨ v = .retAddr 3) ∧ f' = (pc, L, .int (w.2.1 a k) :: r, w) ∨ v = .retAddr 1 ∧ f' = (pc, L, .long (w.2.2.1 a k) :: r, w) ∨ (v ≠ .retAddr 0 ∧ v ≠ .retAddr 3 ∧ v ≠ .retAddr 1) ∧ f' = (pc, L, va_rf (w.2.2.2 a k) :: r, w)) := by
  unfold pgf at h
  split at h
  · next a r =>
    split at h
    · next c' hs =>
      obtain ⟨h1, h2⟩ := cond_some h
      have := beq_nat h1
      subst this
      refine ⟨a, r, rfl, hs, ?_⟩
      split at h2
      · exact Or.inl ⟨Or.inl rfl, pgo_inv h2⟩
      · exact Or.inr (Or.inl ⟨rfl, pgo_inv h2⟩)
      · exact Or.inl ⟨Or.inr rfl, pgo_inv h2⟩
      · next g1 g2 g3 => exact Or.inr (Or.inr ⟨⟨g1, g3, g2⟩, pgo_inv h2⟩)
    · cases h
  · cases h
theorem ppf_inv {c k : Nat} {v : Value} (h : ppf pc L st w c k v = some (.inl f')) : ∃ u a r, st = u :: .ref a :: r ∧ psh w a = some (.inr c) ∧ ((∃ x, v = .retAddr 0 ∧ u = .int x ∧ f' = (pc, L, r, (w.1, u2 w.2.1 a k x, w.2.2))) ∨ (∃ x, v = .retAddr 1 ∧ u = .long x ∧ f' = (pc, L, r, (w.1, w.2.1, u2 w.2.2.1 a k x, w.2.2.2))) ∨ (∃ x, v = .retAddr 3 ∧ u = .int x ∧ (x = 0 ∨ x = 1) ∧ f' = (pc, L, r, (w.1, u2 w.2.1 a k x, w.2.2))) ∨ (∃ x, v = .retAddr 2 ∧ u = .ref x ∧ f' = (pc, L, r, (w.1, w.2.1, w.2.2.1, u2 w.2.2.2 a k (some x))))) := by
  unfold ppf at h
  split at h
  · next u a r =>
    split at h
    · next c' hs =>
      obtain ⟨h1, h2⟩ := cond_some h
      have := beq_nat h1
      subst this
      refine ⟨u, a, r, rfl, hs, ?_⟩
      split at h2
      · exact Or.inl ⟨_, rfl, rfl, pgo_inv h2⟩
      · exact Or.inr (Or.inl ⟨_, rfl, rfl, pgo_inv h2⟩)
      · obtain ⟨h3, h4⟩ := ite_some' h2
        exact Or.inr (Or.inr (Or.inl ⟨_, rfl, rfl, h3, pgo_inv h4⟩))
      · exact Or.inr (Or.inr (Or.inr ⟨_, rfl, rfl, pgo_inv h2⟩))
      · cases h2
    · cases h
  · cases h
theorem pial_inv {sc : pX} (h : pial sc pc L st w = some (.inl f')) : (∃ i a r n, st = .int i :: .ref a :: r ∧ psh w a = some (.inl (.int, n)) ∧ ¬ (i < 0 ∨ n ≤ i.toNatClampNeg) ∧ f' = (pc, L, .int (w.2.1 a i.toNatClampNeg) :: r, w)) ∨ (∃ i r n xs, st = .int i :: .retAddr 0 :: r ∧ sc = some (n, xs) ∧ ¬ (i < 0 ∨ n ≤ i.toNatClampNeg) ∧ f' = (pc, L, .int (xs i.toNatClampNeg) :: r, w)) := by
  unfold pial at h
  split at h
  · next i a r =>
    split at h
    · next n hs =>
      obtain ⟨h1, h2⟩ := ite_some h
      exact Or.inl ⟨i, a, r, n, rfl, hs, h1, pgo_inv h2⟩
    · cases h
  · next i r =>
    split at h
    · next n xs =>
      obtain ⟨h1, h2⟩ := ite_some h
      exact Or.inr ⟨i, r, n, xs, rfl, rfl, h1, pgo_inv h2⟩
    · cases h
  · cases h
theorem pbal_inv (h : pbal pc L st w = some (.inl f')) : ∃ i a r n, st = .int i :: .ref a :: r ∧ (psh w a = some (.inl (.byte, n)) ∨ psh w a = some (.inl (.boolean, n))) ∧ ¬ (i < 0 ∨ n ≤ i.toNatClampNeg) ∧ f' = (pc, L, .int (w.2.1 a i.toNatClampNeg) :: r, w) := by
  unfold pbal at h
  split at h
  · next i a r =>
    split at h
    · next n hs =>
      obtain ⟨h1, h2⟩ := ite_some h
      exact ⟨i, a, r, n, rfl, Or.inl hs, h1, pgo_inv h2⟩
    · next n hs =>
      obtain ⟨h1, h2⟩ := ite_some h
      exact ⟨i, a, r, n, rfl, Or.inr hs, h1, pgo_inv h2⟩
    · cases h
  · cases h
theorem plal_inv (h : plal pc L st w = some (.inl f')) : ∃ i a r n, st = .int i :: .ref a :: r ∧ psh w a = some (.inl (.long, n)) ∧ ¬ (i < 0 ∨ n ≤ i.toNatClampNeg) ∧ f' = (pc, L, .long (w.2.2.1 a i.toNatClampNeg) :: r, w) := by
  unfold plal at h
  split at h
  · next i a r =>
    split at h
    · next n hs =>
      obtain ⟨h1, h2⟩ := ite_some h
      exact ⟨i, a, r, n, rfl, hs, h1, pgo_inv h2⟩
    · cases h
  · cases h
theorem paal_inv (h : paal pc L st w = some (.inl f')) : ∃ i a r n ty, st = .int i :: .ref a :: r ∧ psh w a = some (.inl (.array ty, n)) ∧ ¬ (i < 0 ∨ n ≤ i.toNatClampNeg) ∧ f' = (pc, L, va_rf (w.2.2.2 a i.toNatClampNeg) :: r, w) := by
  unfold paal at h
  split at h
  · next i a r =>
    split at h
    · next ty n hs =>
      obtain ⟨h1, h2⟩ := ite_some h
      exact ⟨i, a, r, n, ty, rfl, hs, h1, pgo_inv h2⟩
    · cases h
  · cases h
theorem pias_inv (h : pias pc L st w = some (.inl f')) : ∃ x i a r n, st = .int x :: .int i :: .ref a :: r ∧ psh w a = some (.inl (.int, n)) ∧ ¬ (i < 0 ∨ n ≤ i.toNatClampNeg) ∧ f' = (pc, L, r, (w.1, u2 w.2.1 a i.toNatClampNeg x, w.2.2)) := by
  unfold pias at h
  split at h
  · next x i a r =>
    split at h
    · next n hs =>
      obtain ⟨h1, h2⟩ := ite_some h
      exact ⟨x, i, a, r, n, rfl, hs, h1, pgo_inv h2⟩
    · cases h
  · cases h
theorem pbas_inv (h : pbas pc L st w = some (.inl f')) : ∃ x i a r n, st = .int x :: .int i :: .ref a :: r ∧ ¬ (i < 0 ∨ n ≤ i.toNatClampNeg) ∧ (psh w a = some (.inl (.byte, n)) ∧ f' = (pc, L, r, (w.1, u2 w.2.1 a i.toNatClampNeg (vp_nar .byte x), w.2.2)) ∨ psh w a = some (.inl (.boolean, n)) ∧ f' = (pc, L, r, (w.1, u2 w.2.1 a i.toNatClampNeg (vp_nar .boolean x), w.2.2))) := by
  unfold pbas at h
  split at h
  · next x i a r =>
    split at h
    · next n hs =>
      obtain ⟨h1, h2⟩ := ite_some h
      exact ⟨x, i, a, r, n, rfl, h1, Or.inl ⟨hs, pgo_inv h2⟩⟩
    · next n hs =>
      obtain ⟨h1, h2⟩ := ite_some h
      exact ⟨x, i, a, r, n, rfl, h1, Or.inr ⟨hs, pgo_inv h2⟩⟩
    · cases h
  · cases h
theorem plas_inv (h : plas pc L st w = some (.inl f')) : ∃ x i a r n, st = .long x :: .int i :: .ref a :: r ∧ psh w a = some (.inl (.long, n)) ∧ ¬ (i < 0 ∨ n ≤ i.toNatClampNeg) ∧ f' = (pc, L, r, (w.1, w.2.1, u2 w.2.2.1 a i.toNatClampNeg x, w.2.2.2)) := by
  unfold plas at h
  split at h
  · next x i a r =>
    split at h
    · next n hs =>
      obtain ⟨h1, h2⟩ := ite_some h
      exact ⟨x, i, a, r, n, rfl, hs, h1, pgo_inv h2⟩
    · cases h
  · cases h
theorem palen_inv {sc : pX} (h : palen sc pc L st w = some (.inl f')) : (∃ a r ty n, st = .ref a :: r ∧ psh w a = some (.inl (ty, n)) ∧ f' = (pc, L, .int (Int32.ofNat n) :: r, w)) ∨ (∃ r n xs, st = .retAddr 0 :: r ∧ sc = some (n, xs) ∧ f' = (pc, L, .int (Int32.ofNat n) :: r, w)) := by
  unfold palen at h
  split at h
  · next a r =>
    split at h
    · next ty n hs => exact Or.inl ⟨a, r, ty, n, rfl, hs, pgo_inv h⟩
    · cases h
  · next r =>
    split at h
    · next n xs => exact Or.inr ⟨r, n, xs, rfl, rfl, pgo_inv h⟩
    · cases h
  · cases h
theorem pnar_inv {t : ArrayType} (h : pnar t pc L st w = some (.inl f')) : ∃ n r N, st = .int n :: r ∧ SHget w.1 = some (.inl (pty t, N)) ∧ ¬ n < 0 ∧ n.toNatClampNeg = N ∧ N ≤ 100000 ∧ f' = (pc, L, .ref w.1 :: r, pnw w) := by
  unfold pnar at h
  split at h
  · next n r =>
    split at h
    · next ty N hs =>
      obtain ⟨h1, h2⟩ := cond_some h
      simp only [Bool.and_eq_true, decide_eq_true_eq] at h1
      obtain ⟨⟨⟨h3, h4⟩, h5⟩, h6⟩ := h1
      subst h3
      exact ⟨n, r, N, rfl, hs, h4, h5, Nat.le_of_ble_eq_true h6, pgo_inv h2⟩
    · cases h
  · cases h
theorem pmna_inv {v : Value} (h : pmna v pc L st w = some (.inl f')) : ∃ k n r N, st = .int k :: .int n :: r ∧ SHget w.1 = some (.inl (.array (pety v), N)) ∧ ¬ n < 0 ∧ ¬ k < 0 ∧ n.toNatClampNeg = N ∧ N ≤ 100000 ∧ k.toNatClampNeg ≤ 100000 ∧ (∀ i, i < N → SHget (w.1 + 1 + i) = some (.inl (pety v, k.toNatClampNeg))) ∧ f' = (pc, L, .ref w.1 :: r, pgrid N w) := by
  unfold pmna at h
  split at h
  · next k n r =>
    split at h
    · next ty N hs =>
      obtain ⟨h1, h2⟩ := cond_some h
      simp only [Bool.and_eq_true, decide_eq_true_eq] at h1
      obtain ⟨⟨⟨⟨⟨⟨h3, h4⟩, h5⟩, h6⟩, h7⟩, h8⟩, h9⟩ := h1
      subst h3
      exact ⟨k, n, r, N, rfl, hs, h4, h5, h6, Nat.le_of_ble_eq_true h7, Nat.le_of_ble_eq_true h8, prows_spec N _ _ h9, pgo_inv h2⟩
    · cases h
  · cases h
theorem pnob_inv {c : Nat} (h : pnob c pc L st w = some (.inl f')) : SHget w.1 = some (.inr c) ∧ f' = (pc, L, .ref w.1 :: st, pnw w) := by
  unfold pnob at h
  split at h
  · next c' hs =>
    obtain ⟨h1, h2⟩ := cond_some h
    have := beq_nat h1
    subst this
    exact ⟨hs, pgo_inv h2⟩
  · cases h
theorem pcl_inv {C : pC} {chk : Bool} {a b : Nat} (h : pcl C chk a b pc L st w = some (.inl f')) : ∃ r w', C a (st.take b).reverse w = some (r, w') ∧ b ≤ st.length ∧ psum (st.drop b) ≤ 8 ∧ chk = true ∧ f' = (pc, L, r.toList ++ st.drop b, w') := by
  unfold pcl at h
  obtain ⟨h1, h2⟩ := cond_some h
  simp only [Bool.and_eq_true] at h1
  obtain ⟨⟨h3, h4⟩, h5⟩ := h1
  unfold pkc at h2
  split at h2
  · next v w' hc => exact ⟨some v, w', hc, Nat.le_of_ble_eq_true h3, Nat.le_of_ble_eq_true h4, h5, pgo_inv h2⟩
  · next w' hc => exact ⟨none, w', hc, Nat.le_of_ble_eq_true h3, Nat.le_of_ble_eq_true h4, h5, pgo_inv h2⟩
  · cases h2
end
theorem chkW_spec {y : MethodName} {bs : ByteArray} {nL : Nat} {rt : Option FieldType} {np kd cn : Nat} {ws : List Nat} {T : pT} (h : pchkW (y, bs, nL, rt, np, kd, cn, ws, T) = true) :
    Cond.code y bs nL rt ∈ WS ∧ Cond.initialized y.cls ∈ WS ∧ plainName y.cls = true ∧ (y.cls ≠ "java/lang/invoke/MethodHandle" ∧ y.cls ≠ "java/lang/invoke/VarHandle" ∧ (parseMethodDescriptor y.desc).map (fun d => d.parameters.length) = some np) ∧ nL ≤ 20 ∧ (kd = 0 → Cond.static y ∈ WS) ∧ (kd = 1 → Cond.instanceMethod y ∈ WS ∧ y.name = "<init>" ∧ rt = none) ∧ (kd = 2 → Cond.instanceMethod y ∈ WS ∧ Cond.selects y.cls y y ∈ WS ∧ ((cn = 99 ∧ y.cls = "java/lang/String") ∨ (cn < 12 ∧ y.cls = (pTT cn).1))) := by
  unfold pchkW at h
  simp only [Bool.and_eq_true, decide_eq_true_eq] at h
  obtain ⟨⟨⟨⟨⟨⟨⟨h1, h2⟩, h3⟩, h4⟩, h5⟩, h6⟩, h7⟩, h8⟩ := h
  refine ⟨inWS h1, inWS h2, h3, ⟨h4, h5, h6⟩, Nat.le_of_ble_eq_true h7, fun hk => ?_, fun hk => ?_, fun hk => ?_⟩
  · subst hk
    exact inWS h8
  · subst hk
    simp only [Bool.and_eq_true, decide_eq_true_eq] at h8
    exact ⟨inWS h8.1.1, h8.1.2, h8.2⟩
  · subst hk
    simp only [Bool.and_eq_true, Bool.or_eq_true, decide_eq_true_eq] at h8
    exact ⟨inWS h8.1.1, inWS h8.1.2, h8.2.elim (fun q => Or.inl ⟨beq_nat q.1, q.2⟩) (fun q => Or.inr ⟨blt_nat q.1, q.2⟩)⟩
