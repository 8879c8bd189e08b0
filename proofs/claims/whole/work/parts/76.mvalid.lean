/-! WHAT IS READ is in order -/
def prodD (g : Nat → Int) : Nat → Int
  | 0 => 1
  | k + 1 => prodD g k * (g k + 1)
theorem prodD_c {g g' : Nat → Int} : ∀ n : Nat, (∀ k : Nat, k < n → g' k = g k) → prodD g' n = prodD g n
  | 0, _ => rfl
  | n + 1, h => by
    show prodD g' n * (g' n + 1) = prodD g n * (g n + 1)
    rw [prodD_c n (fun k hk => h k (by omega)), h n (by omega)]
def pcO (D : Nat → Nat → Int) (S k : Nat) : Prop := (0 ≤ D 149 k ∧ D 149 k ≤ 1) ∧ (0 ≤ D 150 k ∧ D 150 k ≤ 1) ∧ (0 ≤ D 151 k ∧ D 151 k < S) ∧ (1 ≤ D 152 k ∧ D 152 k ≤ 9) ∧ (0 ≤ D 153 k ∧ D 153 k < D 152 k)
def DW (D : Nat → Nat → Int) (n S : Nat) : Prop := (D 140 17 = (S : Int) ∧ (2 ≤ S ∧ S ≤ 3)) ∧ (D 140 18 = (n : Int) ∧ n ≤ 6) ∧ (D 140 23 = prodD (D 152) n ∧ (1 ≤ D 140 23 ∧ D 140 23 ≤ 400)) ∧ (∀ j : Nat, 25 ≤ j → j ≤ 31 → 0 ≤ D 140 j ∧ D 140 j ≤ 1) ∧ ((0 ≤ D 140 19 ∧ D 140 19 ≤ 99) ∧ (1 ≤ D 140 20 ∧ D 140 20 ≤ 3) ∧ (0 ≤ D 140 21 ∧ D 140 21 ≤ 2) ∧ (0 ≤ D 140 22 ∧ D 140 22 < S)) ∧ (∀ i : Nat, i < 3 → (0 ≤ D 155 i ∧ D 155 i ≤ 999) ∧ (0 ≤ D 156 i ∧ D 156 i ≤ 999)) ∧ ∀ k : Nat, k < n → pcO D S k
theorem DW_DB {D : Nat → Nat → Int} {n S : Nat} (h : DW D n S) : DB D n S := ⟨h.1, h.2.1, h.2.2.1.2, h.2.2.2.1, fun k hk => by
  have := h.2.2.2.2.2.2 k hk
  exact ⟨this.1, this.2.1, this.2.2.2.1⟩⟩
theorem DW_flag {D : Nat → Nat → Int} {n S j : Nat} (h : DW D n S) (hj : 25 ≤ j ∧ j ≤ 31) : DW (u2 D 140 j 1) n S := by
  obtain ⟨h1, h2, h3, h4, h5, h6, h7⟩ := h
  unfold DW pcO
  simp (disch := omega) only [u2a, u2f, u2_ne]
  refine ⟨h1, h2, h3, fun x hx hx2 => ?_, h5, h6, h7⟩
  by_cases c : x = j
  · rw [c, u2s]
    omega
  · rw [u2f c]
    exact h4 x hx hx2
theorem DW_sc {D : Nat → Nat → Int} {n S j : Nat} {v : Int} (h : DW D n S) (hj : (j = 19 ∧ 0 ≤ v ∧ v ≤ 99) ∨ (j = 20 ∧ 1 ≤ v ∧ v ≤ 3) ∨ (j = 21 ∧ 0 ≤ v ∧ v ≤ 2) ∨ (j = 22 ∧ 0 ≤ v ∧ v < S)) : DW (u2 D 140 j v) n S := by
  obtain ⟨h1, h2, h3, h4, h5, h6, h7⟩ := h
  unfold DW pcO
  rcases hj with ⟨rfl, hv⟩ | ⟨rfl, hv⟩ | ⟨rfl, hv⟩ | ⟨rfl, hv⟩
  · simp (disch := omega) only [u2a, u2f, u2_ne, u2s]
    exact ⟨h1, h2, h3, fun x hx hx2 => by rw [u2f (by omega)]; exact h4 x hx hx2, ⟨hv, h5.2⟩, h6, h7⟩
  · simp (disch := omega) only [u2a, u2f, u2_ne, u2s]
    exact ⟨h1, h2, h3, fun x hx hx2 => by rw [u2f (by omega)]; exact h4 x hx hx2, ⟨h5.1, hv, h5.2.2⟩, h6, h7⟩
  · simp (disch := omega) only [u2a, u2f, u2_ne, u2s]
    exact ⟨h1, h2, h3, fun x hx hx2 => by rw [u2f (by omega)]; exact h4 x hx hx2, ⟨h5.1, h5.2.1, hv, h5.2.2.2⟩, h6, h7⟩
  · simp (disch := omega) only [u2a, u2f, u2_ne, u2s]
    exact ⟨h1, h2, h3, fun x hx hx2 => by rw [u2f (by omega)]; exact h4 x hx hx2, ⟨h5.1, h5.2.1, h5.2.2.1, hv⟩, h6, h7⟩
theorem DW_am {D : Nat → Nat → Int} {n S a i : Nat} {v : Int} (h : DW D n S) (ha : a = 155 ∨ a = 156) (hv : 0 ≤ v ∧ v ≤ 999) : DW (u2 D a i v) n S := by
  obtain ⟨h1, h2, h3, h4, h5, h6, h7⟩ := h
  unfold DW pcO
  have e : ∀ x : Nat, x ≠ 155 → x ≠ 156 → u2 D a i v x = D x := fun x q1 q2 => u2_ne (by omega)
  rw [e 140 (by decide) (by decide), e 149 (by decide) (by decide), e 150 (by decide) (by decide), e 151 (by decide) (by decide), e 152 (by decide) (by decide), e 153 (by decide) (by decide)]
  refine ⟨h1, h2, h3, h4, h5, fun x hx => ?_, h7⟩
  have q := h6 x hx
  rcases ha with rfl | rfl
  · rw [u2a (show 156 ≠ 155 by decide)]
    by_cases c : x = i
    · rw [c, u2s]
      exact ⟨hv, (c ▸ q).2⟩
    · rw [u2f c]
      exact q
  · rw [u2a (show 155 ≠ 156 by decide)]
    by_cases c : x = i
    · rw [c, u2s]
      exact ⟨(c ▸ q).1, hv⟩
    · rw [u2f c]
      exact q
theorem DW_pc {D : Nat → Nat → Int} {n S a k : Nat} {v : Int} (h : DW D n S) (hk : k < n) (ha : ((a = 149 ∨ a = 150) ∧ v = 1) ∨ (a = 153 ∧ 0 ≤ v ∧ v < D 152 k)) : DW (u2 D a k v) n S := by
  obtain ⟨h1, h2, h3, h4, h5, h6, h7⟩ := h
  have e : ∀ x : Nat, x ≠ 149 → x ≠ 150 → x ≠ 153 → u2 D a k v x = D x := fun x q1 q2 q3 => u2_ne (by omega)
  unfold DW pcO
  rw [e 140 (by decide) (by decide) (by decide), e 151 (by decide) (by decide) (by decide), e 152 (by decide) (by decide) (by decide), e 155 (by decide) (by decide) (by decide), e 156 (by decide) (by decide) (by decide)]
  refine ⟨h1, h2, h3, h4, h5, h6, fun x hx => ?_⟩
  obtain ⟨q1, q2, q3, q4, q5⟩ := h7 x hx
  rcases ha with ⟨rfl | rfl, rfl⟩ | ⟨rfl, hv⟩
  · rw [u2a (show 150 ≠ 149 by decide), u2a (show 153 ≠ 149 by decide)]
    by_cases c : x = k
    · rw [c, u2s]
      exact ⟨by omega, c ▸ q2, c ▸ q3, c ▸ q4, c ▸ q5⟩
    · rw [u2f c]
      exact ⟨q1, q2, q3, q4, q5⟩
  · rw [u2a (show 149 ≠ 150 by decide), u2a (show 153 ≠ 150 by decide)]
    by_cases c : x = k
    · rw [c, u2s]
      exact ⟨c ▸ q1, by omega, c ▸ q3, c ▸ q4, c ▸ q5⟩
    · rw [u2f c]
      exact ⟨q1, q2, q3, q4, q5⟩
  · rw [u2a (show 149 ≠ 153 by decide), u2a (show 150 ≠ 153 by decide)]
    by_cases c : x = k
    · rw [c, u2s]
      exact ⟨c ▸ q1, c ▸ q2, c ▸ q3, c ▸ q4, hv⟩
    · rw [u2f c]
      exact ⟨q1, q2, q3, q4, q5⟩
/-- a piece begun: all is as it was but for the next piece -/
def DN (D D' : Nat → Nat → Int) (n S : Nat) (v w : Int) : Prop := (∀ a : Nat, a ≠ 140 → a ≠ 151 → a ≠ 152 → a ≠ 154 → D' a = D a) ∧ (∀ j : Nat, j ≠ 23 → D' 140 j = D 140 j) ∧ D' 140 23 = D 140 23 * (w + 1) ∧ (∀ k : Nat, k ≠ n → D' 151 k = D 151 k ∧ D' 152 k = D 152 k) ∧ D' 151 n = v ∧ D' 152 n = w ∧ (0 ≤ v ∧ v < S) ∧ (1 ≤ w ∧ w ≤ 9) ∧ D 140 23 * (w + 1) ≤ 400
theorem DN_w {D D' : Nat → Nat → Int} {n S x : Nat} {v w u : Int} (h : DN D D' n S v w) : DN D (u2 D' 154 x u) n S v w := by
  obtain ⟨h1, h2, h3, h4, h5, h6, h7⟩ := h
  refine ⟨fun a a1 a2 a3 a4 => (u2_ne a4).trans (h1 a a1 a2 a3 a4), fun j hj => (u2a (by decide)).trans (h2 j hj), (u2a (by decide)).trans h3, fun k hk => ?_, (u2a (by decide)).trans h5, (u2a (by decide)).trans h6, h7⟩
  rw [u2a (by decide), u2a (by decide)]
  exact h4 k hk
theorem DN_DW {D D' : Nat → Nat → Int} {n S : Nat} {v w : Int} (hd : DW D n S) (hn : n < 6) (h : DN D D' n S v w) : DW (u2 (u2 (u2 (u2 D' 153 n 0) 149 n 0) 150 n 0) 140 18 ((n : Int) + 1)) (n + 1) S := by
  obtain ⟨h1, h2, h3, h4, h5, h6, h7⟩ := hd
  obtain ⟨g1, g2, g3, g4, g5, g6, g7, g8, g9⟩ := h
  have hpos : 1 ≤ D 140 23 * (w + 1) := by
    have := Int.mul_le_mul (a := 1) (b := 1) (c := D 140 23) (d := w + 1) (by omega) (by omega) (by omega) (by omega)
    omega
  unfold DW
  simp (disch := omega) only [u2a, u2f, u2_ne, u2s]
  rw [g2 17 (by decide), g3, g2 19 (by decide), g2 20 (by decide), g2 21 (by decide), g2 22 (by decide), g1 155 (by decide) (by decide) (by decide) (by decide), g1 156 (by decide) (by decide) (by decide) (by decide)]
  refine ⟨h1, ⟨by omega, by omega⟩, ⟨?_, hpos, g9⟩, fun j hj hj2 => ?_, h5, h6, fun k hk => ?_⟩
  · show _ = prodD (D' 152) n * (D' 152 n + 1)
    rw [prodD_c n (fun k hk => (g4 k (by omega)).2), g6, ← h3.1]
  · rw [u2f (by omega), u2a (by decide), u2a (by decide), u2a (by decide), g2 j (by omega)]
    exact h4 j hj hj2
  · unfold pcO
    simp (disch := omega) only [u2a]
    by_cases c : k = n
    · subst c
      simp (disch := omega) only [u2a, u2f, u2s]
      rw [g5, g6]
      exact ⟨by omega, by omega, g7, g8, by omega⟩
    · simp (disch := omega) only [u2a, u2f]
      rw [g1 149 (by decide) (by decide) (by decide) (by decide), g1 150 (by decide) (by decide) (by decide) (by decide), g1 153 (by decide) (by decide) (by decide) (by decide), (g4 k c).1, (g4 k c).2]
      exact h7 k (by omega)
section
variable {tp : Nat → Nat} {len : Nat}
theorem pNum_ok {q : Nat} {lo hi : Int} {k : Int → Nat → PE} {r : PS} (h : pNum tp len q lo hi k = .ok r) : (lo ≤ tkV tp len q ∧ tkV tp len q ≤ hi) ∧ k (tkV tp len q) (tkB tp len q) = .ok r := by
  unfold pNum at h
  split at h
  · rename_i c
    refine ⟨?_, h⟩
    unfold eNum at c
    split at c
    · split at c
      · assumption
      · omega
    · omega
  · cases h
theorem pExp_ok {q t : Nat} {k : Nat → PE} {r : PS} (h : pExp tp len q t k = .ok r) : k (tkB tp len q) = .ok r := by
  unfold pExp at h
  split at h
  · exact h
  · cases h
theorem pSgn_ok {q : Nat} {k : Int → Nat → PE} {r : PS} (h : pSgn tp len q k = .ok r) : k (sgV tp len q) (tkB tp len (sgQ tp len q)) = .ok r := by
  unfold pSgn at h
  split at h
  · exact h
  · cases h
theorem pEachL_ok {N : Nat → Int64} {a n S : Nat} (ha : a = 155 ∨ a = 156) {r : PS} : ∀ (j i : Nat) (D : Nat → Nat → Int) (q : Nat), DW D n S → q ≤ len → pEachL tp len N a j i D q = .ok r → DW r.1 n S ∧ (q ≤ r.2.2 ∧ r.2.2 ≤ len)
  | 0, i, D, q, hd, hq, h => by
    have : (D, N, q) = r := Except.ok.inj h
    rw [← this]
    exact ⟨hd, Nat.le_refl _, hq⟩
  | j + 1, i, D, q, hd, hq, h => by
    obtain ⟨h1, h2⟩ := pNum_ok h
    have hle := tk_le (tp := tp) hq
    obtain ⟨g1, g2, g3⟩ := pEachL_ok ha j (i + 1) _ _ (DW_am hd ha h1) hle.2.1.2 h2
    exact ⟨g1, by omega, g3⟩
theorem pWorL_ok {N : Nat → Int64} {n S : Nat} {D0 : Nat → Nat → Int} {v w : Int} {r : PS} : ∀ (j i : Nat) (D : Nat → Nat → Int) (q : Nat), DN D0 D n S v w → q ≤ len → pWorL tp len N n j i D q = .ok r → (∃ D' : Nat → Nat → Int, DN D0 D' n S v w ∧ r.1 = u2 (u2 (u2 (u2 D' 153 n 0) 149 n 0) 150 n 0) 140 18 ((n : Int) + 1)) ∧ (q ≤ r.2.2 ∧ r.2.2 ≤ len)
  | 0, i, D, q, hd, hq, h => by
    have : (u2 (u2 (u2 (u2 D 153 n 0) 149 n 0) 150 n 0) 140 18 ((n : Int) + 1), N, q) = r := Except.ok.inj h
    rw [← this]
    exact ⟨⟨D, hd, rfl⟩, Nat.le_refl _, hq⟩
  | j + 1, i, D, q, hd, hq, h => by
    have h2 := pSgn_ok h
    have hs := sgQ_le (tp := tp) hq
    have hle := tk_le (tp := tp) hs.2
    obtain ⟨g1, g2, g3⟩ := pWorL_ok j (i + 1) _ _ (DN_w hd) hle.2.1.2 h2
    exact ⟨g1, by omega, g3⟩
theorem pClause_ok {D : Nat → Nat → Int} {N : Nat → Int64} {n S q : Nat} {r : PS} (hd : DW D n S) (hq : q ≤ len) (hk : tkK tp len q ≠ 0) (h : pClause tp len D N q = .ok r) : (∃ n' : Nat, DW r.1 n' S) ∧ (q < r.2.2 ∧ r.2.2 ≤ len) := by
  have hle := tk_le (tp := tp) hq
  have hB := hle.2.2 hk
  have hle1 := tk_le (tp := tp) (q := tkB tp len q) hle.2.1.2
  have hle2 := tk_le (tp := tp) (q := tkB tp len (tkB tp len q)) hle1.2.1.2
  have h17 : D 140 17 = (S : Int) := hd.1.1
  have h18 : D 140 18 = (n : Int) := hd.2.1.1
  have hOf : ∀ wh : Bool, pOf tp len wh D N q = .ok r → (∃ n' : Nat, DW r.1 n' S) ∧ (q < r.2.2 ∧ r.2.2 ≤ len) := fun wh h => by
    unfold pOf at h
    rw [h18, Int.toNat_natCast] at h
    have hpb := pAt_b N n (tkW tp len (tkB tp len q))
    cases wh
    · simp only [Bool.false_eq_true, if_false] at h
      split at h
      · split at h
        · cases h
        · rename_i cp
          have hkn : (pAt N n (tkW tp len (tkB tp len q))).toNat < n := by omega
          split at h
          · obtain ⟨g1, g2⟩ := pNum_ok h
            have := Except.ok.inj g2
            subst this
            dsimp only
            refine ⟨⟨n, DW_pc (DW_pc hd hkn (Or.inl ⟨Or.inr rfl, rfl⟩)) hkn (Or.inr ⟨rfl, g1.1, ?_⟩)⟩, by omega, hle2.2.1.2⟩
            rw [u2a (by decide)]
            omega
          · cases h
      · cases h
    · simp only [if_true] at h
      split at h
      · split at h
        · cases h
        · rename_i cp
          have hkn : (pAt N n (tkW tp len (tkB tp len q))).toNat < n := by omega
          split at h
          · have := Except.ok.inj h
            subst this
            dsimp only
            exact ⟨⟨n, DW_pc hd hkn (Or.inl ⟨Or.inl rfl, rfl⟩)⟩, by omega, hle1.2.1.2⟩
          · cases h
      · cases h
  unfold pClause at h
  split at h
  · unfold pPiece at h
    rw [h18, Int.toNat_natCast] at h
    split at h
    · cases h
    · rename_i c6
      split at h
      · split at h
        · unfold pPieceB at h
          obtain ⟨g1, g2⟩ := pNum_ok h
          have g3 := pExp_ok g2
          have hq3 := tk_le (tp := tp) (q := tkB tp len (tkB tp len (tkB tp len q))) hle2.2.1.2
          split at g3
          · rename_i ce
            have hw : 1 ≤ tkV tp len (tkB tp len (tkB tp len (tkB tp len (tkB tp len q)))) ∧ tkV tp len (tkB tp len (tkB tp len (tkB tp len (tkB tp len q)))) ≤ 9 := by
              unfold eNum at ce
              split at ce
              · split at ce
                · assumption
                · omega
              · omega
            split at g3
            · rename_i c400
              have g4 := pExp_ok g3
              have hq4 := tk_le (tp := tp) (q := tkB tp len (tkB tp len (tkB tp len (tkB tp len q)))) hq3.2.1.2
              have hq5 := tk_le (tp := tp) (q := tkB tp len (tkB tp len (tkB tp len (tkB tp len (tkB tp len q))))) hq4.2.1.2
              rw [h17] at g1
              have hn6 : n < 6 := by
                have := hd.2.1.2
                omega
              obtain ⟨⟨D', d1, d2⟩, d3⟩ := pWorL_ok (D0 := D) (S := S) (v := tkV tp len (tkB tp len (tkB tp len q))) (w := tkV tp len (tkB tp len (tkB tp len (tkB tp len (tkB tp len q))))) _ _ _ _ ⟨fun a a1 a2 a3 a4 => by rw [u2_ne a1, u2_ne a3, u2_ne a2], fun j hj => by rw [u2f hj, u2a (by decide), u2a (by decide)], u2s, fun k hk => by rw [u2a (by decide), u2a (by decide), u2f hk, u2a (by decide), u2f hk, u2a (by decide)]; exact ⟨rfl, rfl⟩, by rw [u2a (by decide), u2a (by decide), u2s], by rw [u2a (by decide), u2s], by omega, hw, c400⟩ hq5.2.1.2 g4
              refine ⟨⟨n + 1, ?_⟩, by omega, d3.2⟩
              rw [d2]
              exact DN_DW hd hn6 d1
            · cases g3
          · cases g3
        · cases h
      · cases h
  · split at h
    · exact hOf true h
    · split at h
      · exact hOf false h
      · split at h
        · cases h
        · split at h
          · obtain ⟨g1, g2⟩ := pEachL_ok (Or.inl rfl) _ _ _ _ (DW_flag hd (by omega)) hle.2.1.2 h
            exact ⟨⟨n, g1⟩, by omega, g2.2⟩
          · split at h
            · obtain ⟨g1, g2⟩ := pEachL_ok (Or.inr rfl) _ _ _ _ (DW_flag hd (by omega)) hle.2.1.2 h
              exact ⟨⟨n, g1⟩, by omega, g2.2⟩
            · split at h
              · unfold pModeM at h
                split at h
                · have := Except.ok.inj h
                  subst this
                  dsimp only
                  exact ⟨⟨n, DW_sc (DW_flag hd (by omega)) (by omega)⟩, by omega, hle1.2.1.2⟩
                · split at h
                  · have := Except.ok.inj h
                    subst this
                    dsimp only
                    exact ⟨⟨n, DW_sc (DW_flag hd (by omega)) (by omega)⟩, by omega, hle1.2.1.2⟩
                  · split at h
                    · have := Except.ok.inj h
                      subst this
                      dsimp only
                      exact ⟨⟨n, DW_sc (DW_flag hd (by omega)) (by omega)⟩, by omega, hle1.2.1.2⟩
                    · cases h
              · unfold pSmall at h
                split at h
                · obtain ⟨g1, g2⟩ := pNum_ok h
                  have := Except.ok.inj g2
                  subst this
                  dsimp only
                  exact ⟨⟨n, DW_sc (DW_flag hd (by omega)) (Or.inl ⟨rfl, g1⟩)⟩, by omega, hle1.2.1.2⟩
                · split at h
                  · obtain ⟨g1, g2⟩ := pNum_ok h
                    have := Except.ok.inj g2
                    subst this
                    dsimp only
                    exact ⟨⟨n, DW_sc (DW_flag hd (by omega)) (Or.inr (Or.inl ⟨rfl, g1⟩))⟩, by omega, hle1.2.1.2⟩
                  · split at h
                    · obtain ⟨g1, g2⟩ := pNum_ok h
                      have := Except.ok.inj g2
                      subst this
                      dsimp only
                      exact ⟨⟨n, DW_sc (DW_flag hd (by omega)) (Or.inr (Or.inr (Or.inr ⟨rfl, g1.1, by omega⟩)))⟩, by omega, hle1.2.1.2⟩
                    · split at h
                      · have := Except.ok.inj h
                        subst this
                        dsimp only
                        exact ⟨⟨n, DW_flag hd (by omega)⟩, by omega, hle.2.1.2⟩
                      · cases h
end
