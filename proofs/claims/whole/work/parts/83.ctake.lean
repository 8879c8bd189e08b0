/-! THE CLASS'S Reader: clauses -/
theorem ob1 : ∀ x : Fin 128, ∀ b : Fin 7, (i32 ((x.val : Nat) : Int) &&& i32 ((2 ^ b.val : Nat) : Int) = i32 0 ↔ x.val / 2 ^ b.val % 2 = 0) ∧ (x.val / 2 ^ b.val % 2 = 0 → i32 ((x.val : Nat) : Int) ||| i32 ((2 ^ b.val : Nat) : Int) = i32 ((x.val + 2 ^ b.val : Nat) : Int)) := by decide +kernel
theorem ob2 : ∀ x : Fin 64, ∀ k : Fin 6, ((i32 ((x.val : Nat) : Int) >>> (i32 ((k.val : Nat) : Int) &&& 31)) &&& i32 1 = i32 (bB (x.val.testBit k.val))) ∧ (i32 ((x.val : Nat) : Int) ||| (i32 1 <<< (i32 ((k.val : Nat) : Int) &&& 31)) = i32 ((x.val ||| 1 <<< k.val : Nat) : Int)) ∧ (x.val ||| 1 <<< k.val) < 64 := by decide +kernel
theorem tb_or : ∀ x : Fin 64, ∀ k : Fin 6, ∀ j : Fin 6, (x.val ||| 1 <<< k.val).testBit j.val = (x.val.testBit j.val || decide (j.val = k.val)) := by decide +kernel
/-- which flag a clause's bit is -/
def fbit (j : Nat) : Nat := if j = 30 then 0 else if j = 31 then 1 else if j = 26 then 2 else if j = 27 then 3 else if j = 28 then 4 else if j = 29 then 5 else 6
theorem fsum_b {D : Nat → Nat → Int} (h : ∀ j : Nat, 25 ≤ j → j ≤ 31 → 0 ≤ D 140 j ∧ D 140 j ≤ 1) : ∃ x : Nat, x < 128 ∧ fsum D = (x : Int) ∧ ∀ j : Nat, 25 ≤ j → j ≤ 31 → (x / 2 ^ fbit j % 2 = 0 ↔ D 140 j = 0) := by
  have h25 := h 25 (by omega) (by omega)
  have h26 := h 26 (by omega) (by omega)
  have h27 := h 27 (by omega) (by omega)
  have h28 := h 28 (by omega) (by omega)
  have h29 := h 29 (by omega) (by omega)
  have h30 := h 30 (by omega) (by omega)
  have h31 := h 31 (by omega) (by omega)
  refine ⟨(fsum D).toNat, ?_, ?_, fun j h1 h2 => ?_⟩
  · unfold fsum; omega
  · unfold fsum; omega
  · have hj : j = 25 ∨ j = 26 ∨ j = 27 ∨ j = 28 ∨ j = 29 ∨ j = 30 ∨ j = 31 := by omega
    rcases hj with rfl | rfl | rfl | rfl | rfl | rfl | rfl <;> simp only [fbit, fsum] <;> simp <;> omega
theorem fsum_u {D : Nat → Nat → Int} {j : Nat} (h1 : 25 ≤ j) (h2 : j ≤ 31) (h0 : D 140 j = 0) : fsum (u2 D 140 j 1) = fsum D + ((2 ^ fbit j : Nat) : Int) := by
  have hj : j = 25 ∨ j = 26 ∨ j = 27 ∨ j = 28 ∨ j = 29 ∨ j = 30 ∨ j = 31 := by omega
  rcases hj with rfl | rfl | rfl | rfl | rfl | rfl | rfl <;> simp [fbit, fsum, u2, h0] <;> omega
theorem fsum_c {D : Nat → Nat → Int} {a j : Nat} {v : Int} (h : a ≠ 140 ∨ j < 25 ∨ 31 < j) : fsum (u2 D a j v) = fsum D := by
  unfold fsum
  by_cases ha : a = 140
  · subst ha
    rw [u2f (by omega), u2f (by omega), u2f (by omega), u2f (by omega), u2f (by omega), u2f (by omega), u2f (by omega)]
  · have e : u2 D a j v 140 = D 140 := u2_ne (fun q => ha q.symm)
    rw [e]
theorem tbit_s {g : Nat → Int} {n k : Nat} {v : Int} (hk : k < n) (hn : n ≤ 6) (h : tbit g n v) : ∃ x : Nat, x < 64 ∧ v = (x : Int) ∧ x.testBit k = decide (g k = 1) ∧ tbit (fun j => if j = k then 1 else g j) n ((x ||| 1 <<< k : Nat) : Int) := by
  obtain ⟨x, h1, h2, h3⟩ := h
  refine ⟨x, h1, h2, ?_, _, (ob2 ⟨x, h1⟩ ⟨k, by omega⟩).2.2, rfl, fun j hj => ?_⟩
  · rw [h3 k (by omega), decide_eq_true hk, Bool.true_and]
  · have e := tb_or ⟨x, h1⟩ ⟨k, by omega⟩ ⟨j, hj⟩
    simp only at e
    rw [e, h3 j hj]
    by_cases c : j = k
    · subst c
      simp [hk]
    · simp [c]
section
variable {p : Nat} {D : Nat → Nat → Int} {N : Nat → Int64} {Z : Nat → Nat → Int} {J : Nat → Nat → Int64}
theorem CD_sc (hp : hv2 p) (h : CD p D N Z J) {f j : Nat} (hj : (f = 11 ∧ j = 19) ∨ (f = 12 ∧ j = 20) ∨ (f = 13 ∧ j = 21) ∨ (f = 14 ∧ j = 22)) (v : Int) : CD p (u2 D 140 j v) N (u2 Z p f v) J := by
  obtain ⟨⟨a1, a2, a3, a4, a5, a6, a7⟩, h2, h3, h4, h5⟩ := h
  have e : ∀ a : Nat, a ≠ p → u2 Z p f v a = Z a := fun a ha => u2_ne ha
  have e' : ∀ a : Nat, a ≠ 140 → u2 D 140 j v a = D a := fun a ha => u2_ne ha
  have g17 : u2 D 140 j v 140 17 = D 140 17 := u2f (by omega)
  have g18 : u2 D 140 j v 140 18 = D 140 18 := u2f (by omega)
  refine ⟨?_, ?_, ?_, ?_, ?_⟩
  · rcases hj with ⟨rfl, rfl⟩ | ⟨rfl, rfl⟩ | ⟨rfl, rfl⟩ | ⟨rfl, rfl⟩ <;> simp [u2, a1, a2, a3, a4, a5, a6, a7]
  · rw [g18, e (p + 2) (by omega), e (p + 3) (by omega), e (p + 4) (by omega), e (p + 5) (by omega), e' 151 (by decide), e' 152 (by decide), e' 153 (by decide), e' 149 (by decide)]
    exact h2
  · rw [g18, g17, e' 154 (by decide)]
    intro k hk i hi
    rw [e (p + 7 + k) (by omega)]
    exact h3 k hk i hi
  · rw [e (p + 13) (by omega), e (p + 14) (by omega), e' 155 (by decide), e' 156 (by decide)]
    exact h4
  · rw [g18, e 3 (by omega), fsum_c (by omega), e' 149 (by decide), e' 150 (by decide)]
    exact h5
theorem CD_flag (hp : hv2 p) (h : CD p D N Z J) {j : Nat} (h1 : 26 ≤ j) (h31 : j ≤ 31) (h0 : D 140 j = 0) : CD p (u2 D 140 j 1) N (u2 Z 3 2 (fsum D + ((2 ^ fbit j : Nat) : Int))) J := by
  obtain ⟨⟨a1, a2, a3, a4, a5, a6, a7⟩, h2, h3, h4, h5⟩ := h
  have e : ∀ (v : Int) (a : Nat), a ≠ 3 → u2 Z 3 2 v a = Z a := fun v a ha => u2_ne ha
  have e' : ∀ a : Nat, a ≠ 140 → u2 D 140 j 1 a = D a := fun a ha => u2_ne ha
  have g : ∀ i : Nat, i < 26 → u2 D 140 j 1 140 i = D 140 i := fun i hi => u2f (by omega)
  refine ⟨?_, ?_, ?_, ?_, ?_⟩
  · rw [e _ p (by omega), g 17 (by omega), g 18 (by omega), g 19 (by omega), g 20 (by omega), g 21 (by omega), g 22 (by omega), g 25 (by omega)]
    exact ⟨a1, a2, a3, a4, a5, a6, a7⟩
  · rw [g 18 (by omega), e _ (p + 2) (by omega), e _ (p + 3) (by omega), e _ (p + 4) (by omega), e _ (p + 5) (by omega), e' 151 (by decide), e' 152 (by decide), e' 153 (by decide), e' 149 (by decide)]
    exact h2
  · rw [g 18 (by omega), g 17 (by omega), e' 154 (by decide)]
    intro k hk i hi
    rw [e _ (p + 7 + k) (by omega)]
    exact h3 k hk i hi
  · rw [e _ (p + 13) (by omega), e _ (p + 14) (by omega), e' 155 (by decide), e' 156 (by decide)]
    exact h4
  · rw [g 18 (by omega), e' 149 (by decide), e' 150 (by decide), u2s, u2f (by decide), u2f (by decide), fsum_u (by omega) h31 h0]
    exact ⟨rfl, h5.2⟩
theorem CD_pairs (hp : hv2 p) (h : CD p D N Z J) (h0 : D 140 25 = 0) : CD p (u2 D 140 25 1) N (u2 (u2 Z p 15 1) 3 2 (fsum D + 64)) J := by
  obtain ⟨⟨a1, a2, a3, a4, a5, a6, a7⟩, h2, h3, h4, h5⟩ := h
  have e : ∀ (v : Int) (a : Nat), a ≠ 3 → a ≠ p → u2 (u2 Z p 15 1) 3 2 v a = Z a := fun v a ha hb => (u2_ne ha).trans (u2_ne hb)
  have e' : ∀ a : Nat, a ≠ 140 → u2 D 140 25 1 a = D a := fun a ha => u2_ne ha
  have g : ∀ i : Nat, i < 25 → u2 D 140 25 1 140 i = D 140 i := fun i hi => u2f (by omega)
  have e3 : ∀ v : Int, u2 (u2 Z p 15 1) 3 2 v p = u2 Z p 15 1 p := fun v => u2_ne (by omega)
  refine ⟨?_, ?_, ?_, ?_, ?_⟩
  · rw [e3, g 17 (by omega), g 18 (by omega), g 19 (by omega), g 20 (by omega), g 21 (by omega), g 22 (by omega)]
    simp [u2, a1, a2, a3, a4, a5, a6]
  · rw [g 18 (by omega), e _ (p + 2) (by omega) (by omega), e _ (p + 3) (by omega) (by omega), e _ (p + 4) (by omega) (by omega), e _ (p + 5) (by omega) (by omega), e' 151 (by decide), e' 152 (by decide), e' 153 (by decide), e' 149 (by decide)]
    exact h2
  · rw [g 18 (by omega), g 17 (by omega), e' 154 (by decide)]
    intro k hk i hi
    rw [e _ (p + 7 + k) (by omega) (by omega)]
    exact h3 k hk i hi
  · rw [e _ (p + 13) (by omega) (by omega), e _ (p + 14) (by omega) (by omega), e' 155 (by decide), e' 156 (by decide)]
    exact h4
  · have e30 : u2 Z p 15 1 3 = Z 3 := u2_ne (by omega)
    rw [g 18 (by omega), e' 149 (by decide), e' 150 (by decide), u2s, u2f (by decide), u2f (by decide), e30, fsum_u (by omega) (by omega) h0]
    exact ⟨rfl, h5.2⟩
theorem CD_am (hp : hv2 p) (hn : D 140 18 ≤ 6) (h : CD p D N Z J) {a b i : Nat} (ha : (a = 13 ∧ b = 155) ∨ (a = 14 ∧ b = 156)) (v : Int) : CD p (u2 D b i v) N (u2 Z (p + a) i v) J := by
  obtain ⟨h1, h2, h3, h4, h5⟩ := h
  have e : ∀ c : Nat, c ≠ p + a → u2 Z (p + a) i v c = Z c := fun c hc => u2_ne hc
  have e' : ∀ c : Nat, c ≠ b → u2 D b i v c = D c := fun c hc => u2_ne hc
  refine ⟨?_, ?_, ?_, ?_, ?_⟩
  · rw [e p (by omega), e' 140 (by omega)]
    exact h1
  · rw [e' 140 (by omega), e (p + 2) (by omega), e (p + 3) (by omega), e (p + 4) (by omega), e (p + 5) (by omega), e' 151 (by omega), e' 152 (by omega), e' 153 (by omega), e' 149 (by omega)]
    exact h2
  · rw [e' 140 (by omega), e' 154 (by omega)]
    intro k hk i hi
    rw [e (p + 7 + k) (by omega)]
    exact h3 k hk i hi
  · intro x hx
    rcases ha with ⟨rfl, rfl⟩ | ⟨rfl, rfl⟩
    · rw [e (p + 14) (by omega), e' 156 (by omega)]
      refine ⟨?_, (h4 x hx).2⟩
      by_cases c : x = i
      · rw [c, u2s, u2s]
      · rw [u2f c, u2f c]; exact (h4 x hx).1
    · rw [e (p + 13) (by omega), e' 155 (by omega)]
      refine ⟨(h4 x hx).1, ?_⟩
      by_cases c : x = i
      · rw [c, u2s, u2s]
      · rw [u2f c, u2f c]; exact (h4 x hx).2
  · rw [e' 140 (by omega), e 3 (by omega), fsum_c (by omega), e' 149 (by omega), e' 150 (by omega)]
    exact h5
theorem CD_und (hp : hv2 p) (hn : D 140 18 ≤ 6) (h : CD p D N Z J) {k : Nat} (hk : (k : Int) < D 140 18) : ∃ x : Nat, x < 64 ∧ Z 3 3 = (x : Int) ∧ x.testBit k = decide (D 149 k = 1) ∧ CD p (u2 D 149 k 1) N (u2 (u2 Z 3 3 ((x ||| 1 <<< k : Nat) : Int)) (p + 5) k 1) J := by
  obtain ⟨h1, h2, h3, h4, h5⟩ := h
  obtain ⟨x, b1, b2, b3, b4⟩ := tbit_s (k := k) (by omega) (by omega) h5.2.1
  refine ⟨x, b1, b2, b3, ?_⟩
  have e : ∀ (w : Int) (c : Nat), c ≠ p + 5 → c ≠ 3 → u2 (u2 Z 3 3 w) (p + 5) k 1 c = Z c := fun w c hc h3 => (u2_ne hc).trans (u2_ne h3)
  have e' : ∀ c : Nat, c ≠ 149 → u2 D 149 k 1 c = D c := fun c hc => u2_ne hc
  have e9 : u2 D 149 k 1 149 = fun j => if j = k then 1 else D 149 j := by funext j; simp [u2]
  have e5 : ∀ w : Int, u2 (u2 Z 3 3 w) (p + 5) k 1 3 = u2 Z 3 3 w 3 := fun w => u2_ne (by omega)
  refine ⟨?_, ?_, ?_, ?_, ?_⟩
  · rw [e _ p (by omega) (by omega), e' 140 (by omega)]
    exact h1
  · rw [e' 140 (by omega), e _ (p + 2) (by omega) (by omega), e _ (p + 3) (by omega) (by omega), e _ (p + 4) (by omega) (by omega), e' 151 (by omega), e' 152 (by omega), e' 153 (by omega)]
    intro j hj
    obtain ⟨q1, q2, q3, q4, q5⟩ := h2 j hj
    refine ⟨q1, q2, q3, ?_, q5⟩
    by_cases c : j = k
    · rw [c, u2s, u2s]
    · rw [u2f c, u2f c, u2_ne (by omega)]
      exact q4
  · rw [e' 140 (by omega), e' 154 (by omega)]
    intro j hj i hi
    rw [e _ (p + 7 + j) (by omega) (by omega)]
    exact h3 j hj i hi
  · rw [e _ (p + 13) (by omega) (by omega), e _ (p + 14) (by omega) (by omega), e' 155 (by omega), e' 156 (by omega)]
    exact h4
  · rw [e' 140 (by omega), e5, fsum_c (by omega), e9, e' 150 (by omega), u2s, u2f (by decide), u2f (by decide)]
    exact ⟨h5.1, b4, h5.2.2⟩
theorem CD_kept (hp : hv2 p) (hn : D 140 18 ≤ 6) (h : CD p D N Z J) {k : Nat} (hk : (k : Int) < D 140 18) : ∃ x : Nat, x < 64 ∧ Z 3 4 = (x : Int) ∧ x.testBit k = decide (D 150 k = 1) ∧ ∀ (Z1 : Nat → Nat → Int) (v : Int), CD p D N Z1 J → Z1 3 4 = Z 3 4 → CD p (u2 (u2 D 150 k 1) 153 k v) N (u2 (u2 Z1 3 4 ((x ||| 1 <<< k : Nat) : Int)) (p + 4) k v) J := by
  obtain ⟨x, b1, b2, b3, b4⟩ := tbit_s (k := k) (by omega) (by omega) h.2.2.2.2.2.2
  refine ⟨x, b1, b2, b3, fun Z1 v hz h34 => ?_⟩
  obtain ⟨h1, h2, h3, h4, h5⟩ := hz
  have e : ∀ (w : Int) (c : Nat), c ≠ p + 4 → c ≠ 3 → u2 (u2 Z1 3 4 w) (p + 4) k v c = Z1 c := fun w c hc h3 => (u2_ne hc).trans (u2_ne h3)
  have e' : ∀ c : Nat, c ≠ 150 → c ≠ 153 → u2 (u2 D 150 k 1) 153 k v c = D c := fun c hc h3 => (u2_ne h3).trans (u2_ne hc)
  have e9 : u2 (u2 D 150 k 1) 153 k v 150 = fun j => if j = k then 1 else D 150 j := by rw [u2_ne (by decide)]; funext j; simp [u2]
  have e5 : ∀ w : Int, u2 (u2 Z1 3 4 w) (p + 4) k v 3 = u2 Z1 3 4 w 3 := fun w => u2_ne (by omega)
  refine ⟨?_, ?_, ?_, ?_, ?_⟩
  · rw [e _ p (by omega) (by omega), e' 140 (by omega) (by omega)]
    exact h1
  · rw [e' 140 (by omega) (by omega), e _ (p + 2) (by omega) (by omega), e _ (p + 3) (by omega) (by omega), e _ (p + 5) (by omega) (by omega), e' 151 (by omega) (by omega), e' 152 (by omega) (by omega), e' 149 (by omega) (by omega)]
    intro j hj
    obtain ⟨q1, q2, q3, q4, q5⟩ := h2 j hj
    refine ⟨q1, q2, ?_, q4, q5⟩
    by_cases c : j = k
    · rw [c, u2s, u2s]
    · rw [u2f c, u2f c, u2_ne (by omega), u2_ne (by omega)]
      exact q3
  · rw [e' 140 (by omega) (by omega), e' 154 (by omega) (by omega)]
    intro j hj i hi
    rw [e _ (p + 7 + j) (by omega) (by omega)]
    exact h3 j hj i hi
  · rw [e _ (p + 13) (by omega) (by omega), e _ (p + 14) (by omega) (by omega), e' 155 (by omega) (by omega), e' 156 (by omega) (by omega)]
    exact h4
  · rw [e' 140 (by omega) (by omega), e5, fsum_c (by omega), fsum_c (by omega), e9, e' 149 (by omega) (by omega), u2s, u2f (by decide), u2f (by decide)]
    exact ⟨h5.1, h5.2.1, b4⟩
end
