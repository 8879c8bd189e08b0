/-! THE LAW'S LOOP -/
theorem i32_b (x : Int32) : i32 x.toInt = x := (i32_of x).symm
theorem rg (x : Int32) : -2147483648 ≤ x.toInt ∧ x.toInt < 2147483648 := ⟨Int32.le_toInt x, Int32.toInt_lt x⟩
theorem and31 (x : Int32) : ∃ n : Nat, n < 32 ∧ x &&& 31 = i32 (n : Int) := by
  refine ⟨(x &&& 31).toBitVec.toNat, ?_, ?_⟩
  · rw [Int32.toBitVec_and, BitVec.toNat_and]
    exact Nat.and_lt_two_pow (n := 5) _ (by decide)
  · apply Int32.toBitVec.inj
    show _ = BitVec.ofInt 32 _
    rw [BitVec.ofInt_natCast, BitVec.ofNat_toNat, BitVec.setWidth_eq]
section
variable {L : Nat} {xs : Nat → Int32} {i : Nat}
theorem lw_one (hi : i + 6 ≤ L) (hL : L ≤ 3072) {w : pW} (hw : WI w) : ∃ w2 : pW, WI w2 ∧ den (some (L, xs)) (Mean 40) (some .boolean) tQ_L_law (18, lwl i, [], w) = den (some (L, xs)) (Mean 40) (some .boolean) tQ_L_law (18, lwl (i + 6), [], w2) := by
  obtain ⟨p0, p1, p5, p6, m, nd, nr, tp, len, Z, J, h, rfl⟩ := id hw
  obtain ⟨n, hn, hx⟩ := and31 (xs i)
  rw [lw_head hL hi]
  have hcs : n = 0 ∨ n = 1 ∨ n = 2 ∨ n = 3 ∨ n = 4 ∨ n = 5 ∨ n = 6 ∨ n = 7 ∨ n = 8 ∨ n = 9 ∨ n = 10 ∨ n = 11 ∨ n = 12 ∨ n = 13 ∨ n = 14 ∨ n = 15 ∨ n = 16 ∨ n = 17 ∨ n = 18 ∨ n = 19 ∨ n = 20 ∨ n = 21 ∨ n = 22 ∨ n = 23 ∨ n = 24 ∨ n = 25 ∨ n = 26 ∨ n = 27 ∨ n = 28 ∨ n = 29 ∨ n = 30 ∨ n = 31 := by omega
  rcases hcs with rfl | rfl | rfl | rfl | rfl | rfl | rfl | rfl | rfl | rfl | rfl | rfl | rfl | rfl | rfl | rfl | rfl | rfl | rfl | rfl | rfl | rfl | rfl | rfl | rfl | rfl | rfl | rfl | rfl | rfl | rfl | rfl
  · have s := st_0 (p5 := p5) (p6 := p6) h (xs (i + 1)) (xs (i + 2)) (xs (i + 3)) (xs (i + 4)) (xs (i + 5))
    obtain ⟨v, I1, J1, R1, w2, e1, e2, hw2⟩ := s
    exact ⟨w2, hw2, (lw_c0 hx _).trans ((lw_0 hi hL e1 e2).trans (lw_step w2))⟩
  · have s := st_1 (p5 := p5) (p6 := p6) h (rg (xs (i + 1)))
    simp only [i32_b] at s
    obtain ⟨v, I1, J1, R1, w2, e1, e2, hw2⟩ := s
    exact ⟨w2, hw2, (lw_c1 hx _).trans ((lw_1 hi hL e1 e2).trans (lw_step w2))⟩
  · have s := st_2 (p5 := p5) (p6 := p6) h
    obtain ⟨v, I1, J1, R1, w2, e1, e2, hw2⟩ := s
    exact ⟨w2, hw2, (lw_c2 hx _).trans ((lw_2 hi hL e1 e2).trans (lw_step w2))⟩
  · have s := st_3 (p5 := p5) (p6 := p6) h (rg (xs (i + 1)))
    simp only [i32_b] at s
    obtain ⟨v, I1, J1, R1, w2, e1, e2, hw2⟩ := s
    exact ⟨w2, hw2, (lw_c3 hx _).trans ((lw_3 hi hL e1 e2).trans (lw_step w2))⟩
  · have s := st_4 (p5 := p5) (p6 := p6) h (rg (xs (i + 1)))
    simp only [i32_b] at s
    obtain ⟨v, I1, J1, R1, w2, e1, e2, hw2⟩ := s
    exact ⟨w2, hw2, (lw_c4 hx _).trans ((lw_4 hi hL e1 e2).trans (lw_step w2))⟩
  · have s := st_5 (p5 := p5) (p6 := p6) h (rg (xs (i + 1))) (rg (xs (i + 2)))
    simp only [i32_b] at s
    obtain ⟨v, I1, J1, R1, w2, e1, e2, hw2⟩ := s
    exact ⟨w2, hw2, (lw_c5 hx _).trans ((lw_5 hi hL e1 e2).trans (lw_step w2))⟩
  · have s := st_6 (p5 := p5) (p6 := p6) h (rg (xs (i + 1)))
    simp only [i32_b] at s
    obtain ⟨v, I1, J1, R1, w2, e1, e2, hw2⟩ := s
    exact ⟨w2, hw2, (lw_c6 hx _).trans ((lw_6 hi hL e1 e2).trans (lw_step w2))⟩
  · have s := st_7 (p5 := p5) (p6 := p6) h (rg (xs (i + 1))) (rg (xs (i + 2)))
    simp only [i32_b] at s
    obtain ⟨v, I1, J1, R1, w2, e1, e2, hw2⟩ := s
    exact ⟨w2, hw2, (lw_c7 hx _).trans ((lw_7 hi hL e1 e2).trans (lw_step w2))⟩
  · have s := st_8 (p5 := p5) (p6 := p6) h (rg (xs (i + 1))) (rg (xs (i + 2)))
    simp only [i32_b] at s
    obtain ⟨v, I1, J1, R1, w2, e1, e2, hw2⟩ := s
    exact ⟨w2, hw2, (lw_c8 hx _).trans ((lw_8 hi hL e1 e2).trans (lw_step w2))⟩
  · have s := st_9 (p5 := p5) (p6 := p6) h (rg (xs (i + 1)))
    simp only [i32_b] at s
    obtain ⟨v, I1, J1, R1, w2, e1, e2, hw2⟩ := s
    exact ⟨w2, hw2, (lw_c9 hx _).trans ((lw_9 hi hL e1 e2).trans (lw_step w2))⟩
  · have s := st_10 (p5 := p5) (p6 := p6) h (rg (xs (i + 1))) (rg (xs (i + 2))) (rg (xs (i + 3)))
    simp only [i32_b] at s
    obtain ⟨v, I1, J1, R1, w2, e1, e2, hw2⟩ := s
    exact ⟨w2, hw2, (lw_c10 hx _).trans ((lw_10 hi hL e1 e2).trans (lw_step w2))⟩
  · have s := st_11 (p5 := p5) (p6 := p6) h (rg (xs (i + 1))) (rg (xs (i + 2)))
    simp only [i32_b] at s
    obtain ⟨v, I1, J1, R1, w2, e1, e2, hw2⟩ := s
    exact ⟨w2, hw2, (lw_c11 hx _).trans ((lw_11 hi hL e1 e2).trans (lw_step w2))⟩
  · have s := st_12 (p5 := p5) (p6 := p6) h (rg (xs (i + 1))) (rg (xs (i + 2)))
    simp only [i32_b] at s
    obtain ⟨v, I1, J1, R1, w2, e1, e2, hw2⟩ := s
    exact ⟨w2, hw2, (lw_c12 hx _).trans ((lw_12 hi hL e1 e2).trans (lw_step w2))⟩
  · have s := st_13 (p5 := p5) (p6 := p6) h (rg (xs (i + 1))) (rg (xs (i + 2)))
    simp only [i32_b] at s
    obtain ⟨v, I1, J1, R1, w2, e1, e2, hw2⟩ := s
    exact ⟨w2, hw2, (lw_c13 hx _).trans ((lw_13 hi hL e1 e2).trans (lw_step w2))⟩
  · have s := st_14 (p5 := p5) (p6 := p6) h (rg (xs (i + 1)))
    simp only [i32_b] at s
    obtain ⟨v, I1, J1, R1, w2, e1, e2, hw2⟩ := s
    exact ⟨w2, hw2, (lw_c14 hx _).trans ((lw_14 hi hL e1 e2).trans (lw_step w2))⟩
  · have s := st_15 (p5 := p5) (p6 := p6) h (rg (xs (i + 1))) (rg (xs (i + 2)))
    simp only [i32_b] at s
    obtain ⟨v, I1, J1, R1, w2, e1, e2, hw2⟩ := s
    exact ⟨w2, hw2, (lw_c15 hx _).trans ((lw_15 hi hL e1 e2).trans (lw_step w2))⟩
  · have s := st_16 (p5 := p5) (p6 := p6) h (rg (xs (i + 1)))
    simp only [i32_b] at s
    obtain ⟨v, I1, J1, R1, w2, e1, e2, hw2⟩ := s
    exact ⟨w2, hw2, (lw_c16 hx _).trans ((lw_16 hi hL e1 e2).trans (lw_step w2))⟩
  · have s := st_17 (p5 := p5) (p6 := p6) h
    obtain ⟨v, I1, J1, R1, w2, e1, e2, hw2⟩ := s
    exact ⟨w2, hw2, (lw_c17 hx _).trans ((lw_17 hi hL e1 e2).trans (lw_step w2))⟩
  · have s := st_18 (p5 := p5) (p6 := p6) h
    obtain ⟨v, I1, J1, R1, w2, e1, e2, hw2⟩ := s
    exact ⟨w2, hw2, (lw_c18 hx _).trans ((lw_18 hi hL e1 e2).trans (lw_step w2))⟩
  · have s := st_19 (p5 := p5) (p6 := p6) h (rg (xs (i + 1))) (rg (xs (i + 2)))
    simp only [i32_b] at s
    obtain ⟨v, I1, J1, R1, w2, e1, e2, hw2⟩ := s
    exact ⟨w2, hw2, (lw_c19 hx _).trans ((lw_19 hi hL e1 e2).trans (lw_step w2))⟩
  · have s := st_20 (p5 := p5) (p6 := p6) h (rg (xs (i + 1)))
    simp only [i32_b] at s
    obtain ⟨v, I1, J1, R1, w2, e1, e2, hw2⟩ := s
    exact ⟨w2, hw2, (lw_c20 hx _).trans ((lw_20 hi hL e1 e2).trans (lw_step w2))⟩
  · have s := st_21 (p5 := p5) (p6 := p6) h (rg (xs (i + 1))) (rg (xs (i + 2)))
    simp only [i32_b] at s
    obtain ⟨v, I1, J1, R1, w2, e1, e2, hw2⟩ := s
    exact ⟨w2, hw2, (lw_c21 hx _).trans ((lw_21 hi hL e1 e2).trans (lw_step w2))⟩
  · have s := st_22 (p5 := p5) (p6 := p6) h (rg (xs (i + 1)))
    simp only [i32_b] at s
    obtain ⟨v, I1, J1, R1, w2, e1, e2, hw2⟩ := s
    exact ⟨w2, hw2, (lw_c22 hx _).trans ((lw_22 hi hL e1 e2).trans (lw_step w2))⟩
  · have s := st_23 (p5 := p5) (p6 := p6) h (rg (xs (i + 1))) (rg (xs (i + 2))) (rg (xs (i + 3)))
    simp only [i32_b] at s
    obtain ⟨v, I1, J1, R1, w2, e1, e2, hw2⟩ := s
    exact ⟨w2, hw2, (lw_c23 hx _).trans ((lw_23 hi hL e1 e2).trans (lw_step w2))⟩
  · have s := st_24 (p5 := p5) (p6 := p6) h (rg (xs (i + 1)))
    simp only [i32_b] at s
    obtain ⟨v, I1, J1, R1, w2, e1, e2, hw2⟩ := s
    exact ⟨w2, hw2, (lw_c24 hx _).trans ((lw_24 hi hL e1 e2).trans (lw_step w2))⟩
  · have s := st_25 (p5 := p5) (p6 := p6) h (rg (xs (i + 1)))
    simp only [i32_b] at s
    obtain ⟨v, I1, J1, R1, w2, e1, e2, hw2⟩ := s
    exact ⟨w2, hw2, (lw_c25 hx _).trans ((lw_25 hi hL e1 e2).trans (lw_step w2))⟩
  · have s := st_26 (p5 := p5) (p6 := p6) h (rg (xs (i + 1))) (rg (xs (i + 2))) (rg (xs (i + 3))) (rg (xs (i + 4))) (rg (xs (i + 5)))
    simp only [i32_b] at s
    obtain ⟨v, I1, J1, R1, w2, e1, e2, hw2⟩ := s
    exact ⟨w2, hw2, (lw_c26 hx _).trans ((lw_26 hi hL e1 e2).trans (lw_step w2))⟩
  · have s := st_27 (p5 := p5) (p6 := p6) h (rg (xs (i + 1))) (rg (xs (i + 2))) (rg (xs (i + 3)))
    simp only [i32_b] at s
    obtain ⟨v, I1, J1, R1, w2, e1, e2, hw2⟩ := s
    exact ⟨w2, hw2, (lw_c27 hx _).trans ((lw_27 hi hL e1 e2).trans (lw_step w2))⟩
  · have s := st_28 (p5 := p5) (p6 := p6) h (rg (xs (i + 1))) (rg (xs (i + 2)))
    simp only [i32_b] at s
    obtain ⟨v, I1, J1, R1, w2, e1, e2, hw2⟩ := s
    exact ⟨w2, hw2, (lw_c28 hx _).trans ((lw_28 hi hL e1 e2).trans (lw_step w2))⟩
  · have s := st_29 (p5 := p5) (p6 := p6) h (rg (xs (i + 1))) (rg (xs (i + 2)))
    simp only [i32_b] at s
    obtain ⟨v, I1, J1, R1, w2, e1, e2, hw2⟩ := s
    exact ⟨w2, hw2, (lw_c29 hx _).trans ((lw_29 hi hL e1 e2).trans (lw_step w2))⟩
  · have s := st_30 (p5 := p5) (p6 := p6) h (rg (xs (i + 1)))
    simp only [i32_b] at s
    obtain ⟨v, I1, J1, R1, w2, e1, e2, hw2⟩ := s
    exact ⟨w2, hw2, (lw_c30 hx _).trans ((lw_30 hi hL e1 e2).trans (lw_step w2))⟩
  · exact ⟨_, hw, (lw_cd hx _).trans (lw_step _)⟩
theorem lw_all (hL : L ≤ 3072) : ∀ (n i : Nat) (w : pW), L + 6 ≤ i + 6 * n + 6 → i ≤ L + 6 → WI w → ∃ w' : pW, w'.1 ≤ 176 ∧ den (some (L, xs)) (Mean 40) (some .boolean) tQ_L_law (18, lwl i, [], w) = some (some (.int 1), w')
  | 0, i, w, h1, h2, hw => by
    obtain ⟨p0, p1, p5, p6, m, nd, nr, tp, len, Z, J, h, rfl⟩ := hw
    exact ⟨_, Nat.le_refl _, lw_end hL (by omega) (by omega) _⟩
  | n + 1, i, w, h1, h2, hw => by
    by_cases c : i + 6 ≤ L
    · obtain ⟨w2, hw2, e⟩ := lw_one (xs := xs) c hL hw
      obtain ⟨w', h3, h4⟩ := lw_all hL n (i + 6) w2 (by omega) (by omega) hw2
      exact ⟨w', h3, e.trans h4⟩
    · obtain ⟨p0, p1, p5, p6, m, nd, nr, tp, len, Z, J, h, rfl⟩ := hw
      exact ⟨_, Nat.le_refl _, lw_end hL (by omega) (by omega) _⟩
end
