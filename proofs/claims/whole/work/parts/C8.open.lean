/-! THE LAW, given its start -/
theorem law_of {h : ∀ (L : Nat) (xs : Nat → Int32), L ≤ 3072 → ∃ w : pW, WI w ∧ den (some (L, xs)) (Mean 40) (some .boolean) tQ_L_law (0, [some (.retAddr 0), none, none, none], [], w00) = den (some (L, xs)) (Mean 40) (some .boolean) tQ_L_law (18, lwl 0, [], w)} : lawPure := by
  intro L xs hL
  obtain ⟨w, hw, e⟩ := h L xs hL
  obtain ⟨w', h1, h2⟩ := lw_all (xs := xs) hL (L + 1) 0 w (by omega) (by omega) hw
  exact ⟨w', h1, e.trans h2⟩
