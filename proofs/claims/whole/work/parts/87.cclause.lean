/-! THE CLASS'S Reader: takePiece, takeClause -/
theorem CD_junk {p : Nat} {D : Nat → Nat → Int} {N : Nat → Int64} {Z : Nat → Nat → Int} {J : Nat → Nat → Int64} (hp : hv2 p) (hn : D 140 18 ≤ 6) (h : CD p D N Z J) {a n : Nat} (ha : a = 2 ∨ a = 3 ∨ a = 4 ∨ a = 5) (hD : D 140 18 = (n : Int)) (v : Int) : CD p D N (u2 Z (p + a) n v) J := by
  obtain ⟨h1, h2, h3, h4, h5⟩ := h
  have e : ∀ c : Nat, c ≠ p + a → u2 Z (p + a) n v c = Z c := fun c hc => u2_ne hc
  have g : ∀ c k : Nat, k < (D 140 18).toNat → u2 Z (p + a) n v c k = Z c k := fun c k hk => by
    by_cases cc : c = p + a
    · subst cc
      rw [u2f (by omega)]
    · rw [e c cc]
  refine ⟨?_, ?_, ?_, ?_, ?_⟩
  · rw [e p (by omega)]
    exact h1
  · intro k hk
    rw [g _ k hk, g _ k hk, g _ k hk, g _ k hk]
    exact h2 k hk
  · intro k hk i hi
    rw [e (p + 7 + k) (by omega)]
    exact h3 k hk i hi
  · rw [e (p + 13) (by omega), e (p + 14) (by omega)]
    exact h4
  · rw [e 3 (by omega)]
    exact h5
def Dst (D : Nat → Nat → Int) (n : Nat) (v w : Int) : Nat → Nat → Int := u2 (u2 (u2 D 151 n v) 152 n w) 140 23 (D 140 23 * (w + 1))
def Dnw (D : Nat → Nat → Int) (n : Nat) (g : Nat → Int) : Nat → Nat → Int := fun a j => if a = 154 ∧ 3 * n ≤ j then g (j - 3 * n) else Fpc D n a j
theorem Dnw_AG {D : Nat → Nat → Int} {n : Nat} {g : Nat → Int} : AGw D (Dnw D n g) n 0 := fun a j h _ => if_neg h
theorem CD_new {p : Nat} {D : Nat → Nat → Int} {N : Nat → Int64} {Z : Nat → Nat → Int} {J : Nat → Nat → Int64} (hp : hv2 p) {n : Nat} (hn : n < 6) (hS : D 140 17 ≤ 3) (hD : D 140 18 = (n : Int)) {u : Int64} {v w : Int} (h : CD p D N Z J) (z2 : Z (p + 2) n = v) (z3 : Z (p + 3) n = w) (z4 : Z (p + 4) n = 0) (z5 : Z (p + 5) n = 0) (j1 : J (p + 1) n = u) (nu : N n = u) : CD p (Dnw (Dst D n v w) n (Z (p + 7 + n))) N (u2 Z p 2 ((n : Int) + 1)) J := by
  obtain ⟨⟨a1, a2, a3, a4, a5, a6, a7⟩, h2, h3, h4, h5⟩ := h
  have e : ∀ c : Nat, c ≠ p → u2 Z p 2 ((n : Int) + 1) c = Z c := fun c hc => u2_ne hc
  generalize hE : Dnw (Dst D n v w) n (Z (p + 7 + n)) = E
  have g140 : ∀ j : Nat, j ≠ 18 → j ≠ 23 → E 140 j = D 140 j := fun j h1 h2 => by
    rw [← hE]
    simp [Dnw, Fpc, Dst, u2, h1, h2]
  have g18 : E 140 18 = (n : Int) + 1 := by
    rw [← hE]
    simp [Dnw, Fpc, Dst, u2]
  have g151 : ∀ k : Nat, E 151 k = if k = n then v else D 151 k := fun k => by
    rw [← hE]
    simp [Dnw, Fpc, Dst, u2]
  have g152 : ∀ k : Nat, E 152 k = if k = n then w else D 152 k := fun k => by
    rw [← hE]
    simp [Dnw, Fpc, Dst, u2]
  have g153 : ∀ k : Nat, E 153 k = if k = n then 0 else D 153 k := fun k => by
    rw [← hE]
    simp [Dnw, Fpc, Dst, u2]
  have g149 : ∀ k : Nat, E 149 k = if k = n then 0 else D 149 k := fun k => by
    rw [← hE]
    simp [Dnw, Fpc, Dst, u2]
  have g150 : ∀ k : Nat, E 150 k = if k = n then 0 else D 150 k := fun k => by
    rw [← hE]
    simp [Dnw, Fpc, Dst, u2]
  have g155 : E 155 = D 155 := by
    rw [← hE]
    funext k
    simp [Dnw, Fpc, Dst, u2]
  have g156 : E 156 = D 156 := by
    rw [← hE]
    funext k
    simp [Dnw, Fpc, Dst, u2]
  have g154 : ∀ k : Nat, E 154 k = if 3 * n ≤ k then Z (p + 7 + n) (k - 3 * n) else D 154 k := fun k => by
    rw [← hE]
    simp [Dnw, Fpc, Dst, u2]
  have tb : ∀ {g g' : Nat → Int} {x : Int}, tbit g (D 140 18).toNat x → (∀ k : Nat, g' k = if k = n then 0 else g k) → tbit g' (E 140 18).toNat x := by
    intro g g' x ⟨y, y1, y2, y3⟩ hg
    refine ⟨y, y1, y2, fun k hk => ?_⟩
    rw [y3 k hk, hg k, g18, hD]
    by_cases c : k = n
    · subst c
      simp
    · by_cases c2 : k < n
      · have c3 : k < n + 1 := by omega
        simp [c, c2, c3]
      · have c3 : ¬ k < n + 1 := by omega
        simp [c, c2, c3]
  refine ⟨?_, ?_, ?_, ?_, ?_⟩
  · rw [g140 17 (by decide) (by decide), g18, g140 19 (by decide) (by decide), g140 20 (by decide) (by decide), g140 21 (by decide) (by decide), g140 22 (by decide) (by decide), g140 25 (by decide) (by decide)]
    refine ⟨?_, ?_, ?_, ?_, ?_, ?_, ?_⟩
    · rw [u2f (by decide)]; exact a1
    · exact u2s
    · rw [u2f (by decide)]; exact a3
    · rw [u2f (by decide)]; exact a4
    · rw [u2f (by decide)]; exact a5
    · rw [u2f (by decide)]; exact a6
    · rw [u2f (by decide)]; exact a7
  · intro k hk
    rw [g18] at hk
    rw [e (p + 2) (by omega), e (p + 3) (by omega), e (p + 4) (by omega), e (p + 5) (by omega), g151, g152, g153, g149]
    by_cases c : k = n
    · subst c
      simp only [if_true]
      exact ⟨z2, z3, z4, z5, by rw [j1, nu]⟩
    · simp only [if_neg c]
      exact h2 k (by omega)
  · intro k hk i hi
    rw [g18] at hk
    rw [g140 17 (by decide) (by decide)] at hi
    rw [e (p + 7 + k) (by omega), g154]
    by_cases c : k = n
    · subst c
      rw [if_pos (by omega), show 3 * k + i - 3 * k = i by omega]
    · rw [if_neg (by omega)]
      exact h3 k (by omega) i hi
  · rw [e (p + 13) (by omega), e (p + 14) (by omega), g155, g156]
    exact h4
  · rw [e 3 (by omega)]
    refine ⟨?_, tb h5.2.1 g149, tb h5.2.2 g150⟩
    rw [h5.1]
    unfold fsum
    rw [g140 30 (by decide) (by decide), g140 31 (by decide) (by decide), g140 26 (by decide) (by decide), g140 27 (by decide) (by decide), g140 28 (by decide) (by decide), g140 29 (by decide) (by decide), g140 25 (by decide) (by decide)]
section
variable {d : Nat} {J J0 : Nat → Nat → Int64} {Z Z0 D : Nat → Nat → Int} {N : Nat → Int64} {p0 p1 p2 p3 p4 p5 p6 p7 : Nat} {tp : Nat → Nat} {len q n S : Nat} {c : Int}
theorem CQ_junk (hp : hv2 p1) (hn : D 140 18 ≤ 6) (h : CQ len p1 c Z0 J0 D N q Z J) {a n : Nat} (ha : a = 2 ∨ a = 3 ∨ a = 4 ∨ a = 5) (hD : D 140 18 = (n : Int)) (v : Int) : CQ len p1 c Z0 J0 D N q (u2 Z (p1 + a) n v) J := by
  obtain ⟨a1, a2, a3, a4, a5, a6⟩ := h
  refine ⟨CX_up a1 (by omega), a2, CD_junk hp hn a3 ha hD v, ?_, ?_, ?_⟩
  · rw [u2_ne (by omega)]; exact a4
  · rw [u2_ne (by omega)]; exact a5
  · rw [u2_ne (by omega)]; exact a6
theorem CQ_name (hp : hv2 p1) (h : CQ len p1 c Z0 J0 D N q Z J) {n : Nat} (hD : D 140 18 = (n : Int)) (w : Int64) : CQ len p1 c Z0 J0 D (upN N n w) q Z (u2 J (p1 + 1) n w) := by
  obtain ⟨a1, a2, ⟨h1, h2, h3, h4, h5⟩, a4, a5, a6⟩ := h
  refine ⟨a1, fun a ha => (u2_ne ha).trans (a2 a ha), ⟨h1, fun k hk => ?_, h3, h4, h5⟩, a4, a5, a6⟩
  obtain ⟨b1, b2, b3, b4, b5⟩ := h2 k hk
  refine ⟨b1, b2, b3, b4, ?_⟩
  unfold upN
  rw [u2f (by omega), if_neg (by omega)]
  exact b5
theorem CO_eq {r : PE} {o o' : Option (Option Value × pW)} (h : CO len p1 c Z0 J0 (RP p0 p1 p2 p3 p4 p5 p6 p7) r o) (e : ∀ (z : Bool) (Z' : Nat → Nat → Int) (J' : Nat → Nat → Int64), o = some (some (.int (i32 (bB z))), (176, zs Z', J', RP p0 p1 p2 p3 p4 p5 p6 p7)) → o' = some (some (.int (i32 (bB z))), (176, zs Z', J', RP p0 p1 p2 p3 p4 p5 p6 p7))) : CO len p1 c Z0 J0 (RP p0 p1 p2 p3 p4 p5 p6 p7) r o' := by
  cases r with
  | error x =>
    obtain ⟨Z', J', a1, a2, a3, a4⟩ := h
    exact ⟨Z', J', a1, a2, a3, e false Z' J' a4⟩
  | ok s =>
    obtain ⟨Z', J', a1, a2⟩ := h
    exact ⟨Z', J', a1, e true Z' J' a2⟩
theorem h_takePiece (ht : CT tp len p1 Z0) (hd : DW D n S) (hl : LT tp len q Z) (h : CQ len p1 c Z0 J0 D N (tkB tp len q) Z J) : CO len p1 c Z0 J0 (RP p0 p1 p2 p3 p4 p5 p6 p7) (pPiece tp len D N q) (Mean (d + 9) 45 [.ref 3] (176, zs Z, J, RP p0 p1 p2 p3 p4 p5 p6 p7)) := by
  have hp : hv2 p1 := ht.2.2.2
  have hS := hd.1
  have hn := hd.2.1
  have zP : Z p1 2 = (n : Int) := by rw [h.2.2.1.1.2.1, hn.1]
  unfold pPiece
  by_cases c6 : D 140 18 = 6
  · rw [if_pos c6]
    refine CE_rf h.1 h.2.1 hl ?_
    rw [e_X5_takePiece, k_X5_takePiece_0 (hv_p1 := hp)]
    simp (disch := omega) only [k_X5_takePiece_12, k_X5_takePiece_17, k_X5_takePiece_18, k_X5_takePiece_30, k_X5_takePiece_33, k_X5_takePiece_35, k_X5_takePiece_50, k_X5_takePiece_51, k_X5_takePiece_64, k_X5_takePiece_67, k_X5_takePiece_71, k_X5_takePiece_76, k_X5_takePiece_77, k_X5_takePiece_91, k_X5_takePiece_94, k_X5_takePiece_96, k_X5_takePiece_112, k_X5_takePiece_118, k_X5_takePiece_121, k_X5_takePiece_128, k_X5_takePiece_131, k_X5_takePiece_133, k_X5_takePiece_140, k_X5_takePiece_156, k_X5_takePiece_161, k_X5_takePiece_162, k_X5_takePiece_178, k_X5_takePiece_188, k_X5_takePiece_198, k_X5_takePiece_217, k_X5_takePiece_220, k_X5_takePiece_225, k_X5_takePiece_228, k_X5_takePiece_232, k_X5_takePiece_233, li_0, li_1, li_2, li_3, li_4, li_5, li_6, li_9, li_10, li_40, lm_1, lm_2, lm_3, lm_4, zs_ap, i32_add, i32_sub, i32_mul, i32_neg, i32_lt, i32_le, i32_eq, i32_nat, ckn, pka_r, pka_v, if_pos, if_neg, if_true, if_false, zP, h_refuse', true_or]
  · rw [if_neg c6, hn.1, Int.toNat_natCast]
    have hn6 : n < 6 := by omega
    have hq0 := h.2.2.2.1.2
    obtain ⟨Z1, f1, l1, h1, e1⟩ := h_takeWord' (d := d + 6) (p0 := p0) (p1 := p1) (p2 := p2) (p3 := p3) (p4 := p4) (p5 := p5) (p6 := p6) (p7 := p7) ht h
    generalize hq1 : tkB tp len q = q1 at *
    by_cases cK : tkK tp len q1 = 1
    · rw [if_pos cK] at e1 ⊢
      obtain ⟨t1, t2⟩ := CQ_tc ht h1.1
      have w := h_wordCode (d := d + 6) (J := J) (p0 := p0) (p1 := p1) (p2 := p2) (p3 := p3) (p4 := p4) (p5 := p5) (p6 := p6) (p7 := p7) ht.1 hq0 t1 t2 l1 cK
      have h1' := CQ_name hp h1 hn.1 (tkW tp len q1)
      have zP1 : Z1 p1 2 = (n : Int) := by rw [h1.2.2.1.1.2.1, hn.1]
      have pn := h_pieceNamed (d := d + 7) (J := u2 J (p1 + 1) n (tkW tp len q1)) (p0 := p0) (p1 := p1) (p2 := p2) (p3 := p3) (p4 := p4) (p5 := p5) (p6 := p6) (p7 := p7) (h := p1) (Z := Z1) (by omega) hn.2 zP1 (tkW tp len q1)
      have pe : pAt (u2 J (p1 + 1) n (tkW tp len q1) (p1 + 1)) n (tkW tp len q1) = pAt N n (tkW tp len q1) := pAt_c (fun k hk => by
        rw [u2f (by omega)]
        exact (h1.2.2.1.2.1 k (by rw [hn.1]; omega)).2.2.2.2)
      rw [pe] at pn
      have pb := pAt_b N n (tkW tp len q1)
      have e35 : Mean (d + 9) 45 [.ref 3] (176, zs Z, J, RP p0 p1 p2 p3 p4 p5 p6 p7) = den none (Mean (d + 8)) (some .boolean) tQ_X5_takePiece (67, [some (.ref 3), some (.int (i32 (n : Int)))], [.int (i32 (pAt N n (tkW tp len q1)))], 176, zs Z1, u2 J (p1 + 1) n (tkW tp len q1), RP p0 p1 p2 p3 p4 p5 p6 p7) := by
        rw [e_X5_takePiece, k_X5_takePiece_0 (hv_p1 := hp)]
        simp (disch := omega) only [k_X5_takePiece_12, k_X5_takePiece_17, k_X5_takePiece_18, k_X5_takePiece_30, k_X5_takePiece_33, k_X5_takePiece_35, k_X5_takePiece_50, k_X5_takePiece_51, k_X5_takePiece_64, k_X5_takePiece_71, k_X5_takePiece_76, k_X5_takePiece_77, k_X5_takePiece_91, k_X5_takePiece_94, k_X5_takePiece_96, k_X5_takePiece_112, k_X5_takePiece_118, k_X5_takePiece_121, k_X5_takePiece_128, k_X5_takePiece_131, k_X5_takePiece_133, k_X5_takePiece_140, k_X5_takePiece_156, k_X5_takePiece_161, k_X5_takePiece_162, k_X5_takePiece_178, k_X5_takePiece_188, k_X5_takePiece_198, k_X5_takePiece_217, k_X5_takePiece_220, k_X5_takePiece_225, k_X5_takePiece_228, k_X5_takePiece_232, k_X5_takePiece_233, li_0, li_1, li_2, li_3, li_4, li_5, li_6, li_9, li_10, li_40, lm_1, lm_2, lm_3, lm_4, zs_ap, i32_add, i32_sub, i32_mul, i32_neg, i32_lt, i32_le, i32_eq, i32_nat, ckn, pka_r, pka_v, if_pos, if_neg, if_true, if_false, zP, e1, w, Int.toNat_natCast, u2s, pn]
      rw [e35]
      by_cases cA : pAt N n (tkW tp len q1) = -1
      · rw [if_pos cA, cA]
        unfold pPieceB
        generalize hJ1 : u2 J (p1 + 1) n (tkW tp len q1) = J1 at *
        generalize hN1 : upN N n (tkW tp len q1) = N1 at *
        have g2 := h_takeNumber (d := d + 5) (p0 := p0) (p1 := p1) (p2 := p2) (p3 := p3) (p4 := p4) (p5 := p5) (p6 := p6) (p7 := p7) ht h1' (lo := 0) (hi := D 140 17 - 1) (by omega) (by omega)
        have zS1 : Z1 p1 1 = D 140 17 := h1.2.2.1.1.1
        generalize hq2 : tkB tp len q1 = q2 at *
        unfold pNum
        by_cases c2 : eNum tp len q2 0 (D 140 17 - 1) = 0
        · rw [if_pos c2]
          obtain ⟨Z2, h2, v2, lf2, e2⟩ := g2.1 c2
          clear g2
          generalize hv : tkV tp len q2 = v at *
          have h2' := CQ_junk hp (by omega) h2 (a := 2) (by omega) hn.1 v
          have g3 := h_takeKeyword (d := d) (p0 := p0) (p1 := p1) (p2 := p2) (p3 := p3) (p4 := p4) (p5 := p5) (p6 := p6) (p7 := p7) ht h2' (t := 3) (by decide) (by decide)
          generalize hq3 : tkB tp len q2 = q3 at *
          show CO len p1 c Z0 J0 (RP p0 p1 p2 p3 p4 p5 p6 p7) (pExp tp len q3 3 _) _
          unfold pExp
          cases c3 : tkIs tp len q3 3
          · rw [if_neg Bool.false_ne_true]
            have gg := g3.2 c3
            clear g3
            refine CE_eq gg (fun Z' J' e => ?_)
            simp (disch := omega) only [k_X5_takePiece_0, k_X5_takePiece_12, k_X5_takePiece_17, k_X5_takePiece_18, k_X5_takePiece_30, k_X5_takePiece_33, k_X5_takePiece_35, k_X5_takePiece_50, k_X5_takePiece_51, k_X5_takePiece_64, k_X5_takePiece_67, k_X5_takePiece_71, k_X5_takePiece_76, k_X5_takePiece_77, k_X5_takePiece_91, k_X5_takePiece_94, k_X5_takePiece_96, k_X5_takePiece_112, k_X5_takePiece_118, k_X5_takePiece_121, k_X5_takePiece_128, k_X5_takePiece_131, k_X5_takePiece_133, k_X5_takePiece_140, k_X5_takePiece_156, k_X5_takePiece_161, k_X5_takePiece_162, k_X5_takePiece_178, k_X5_takePiece_188, k_X5_takePiece_198, k_X5_takePiece_217, k_X5_takePiece_220, k_X5_takePiece_225, k_X5_takePiece_228, k_X5_takePiece_232, k_X5_takePiece_233, li_0, li_1, li_2, li_3, li_4, li_5, li_6, li_9, li_10, li_40, lm_1, lm_2, lm_3, lm_4, zs_ap, i32_add, i32_sub, i32_mul, i32_neg, i32_lt, i32_le, i32_eq, i32_nat, ckn, pka_r, pka_v, if_pos, if_neg, if_true, if_false, zS1, e2, Int.toNat_natCast, v2, zs_u2, e]
          · rw [if_pos rfl]
            obtain ⟨Z3, ⟨f3, h3⟩, e3⟩ := g3.1 c3
            clear g3
            dsimp only
            have g4 := h_takeNumber (d := d + 5) (p0 := p0) (p1 := p1) (p2 := p2) (p3 := p3) (p4 := p4) (p5 := p5) (p6 := p6) (p7 := p7) ht h3 (lo := 1) (hi := 9) (by omega) (by omega)
            generalize hq4 : tkB tp len q3 = q4 at *
            by_cases c4 : eNum tp len q4 1 9 = 0
            · rw [if_pos c4]
              obtain ⟨Z4, h4, v4, ⟨l4, f4⟩, e4⟩ := g4.1 c4
              clear g4
              have zP4 : Z4 p1 2 = (n : Int) := by rw [h4.2.2.1.1.2.1, hn.1]
              have pr := h_product (d := d + 7) (J := J1) (p0 := p0) (p1 := p1) (p2 := p2) (p3 := p3) (p4 := p4) (p5 := p5) (p6 := p6) (p7 := p7) (h := p1) (Z := Z4) (by omega) hn.2 zP4
              have ep : prodD (Z4 (p1 + 3)) n = D 140 23 := by
                rw [hd.2.2.1.1]
                exact prodD_c n (fun k hk => (h4.2.2.1.2.1 k (by rw [hn.1]; omega)).2.1)
              rw [ep] at pr
              have hb := hd.2.2.1.2
              have hwb : 1 ≤ tkV tp len q4 ∧ tkV tp len q4 ≤ 9 := by
                unfold eNum at c4
                split at c4
                · split at c4
                  · assumption
                  · cases c4
                · cases c4
              generalize hw4 : tkV tp len q4 = w4 at *
              have hmul : 0 ≤ D 140 23 * (w4 + 1) ∧ D 140 23 * (w4 + 1) ≤ 4000 := by
                have := mul_b (a := D 140 23) (b := w4 + 1) (A := 400) (B := 10) (by omega) (by omega) (by omega) (by omega) (by omega)
                have := Int.mul_nonneg (show 0 ≤ D 140 23 by omega) (show 0 ≤ w4 + 1 by omega)
                omega
              by_cases c5 : D 140 23 * (w4 + 1) ≤ 400
              · rw [if_pos c5]
                have h5 := CQ_junk hp (by omega) (CQ_junk hp (by omega) (CQ_junk hp (by omega) h4 (a := 3) (by omega) hn.1 w4) (a := 4) (by omega) hn.1 0) (a := 5) (by omega) hn.1 0
                generalize hZ5 : u2 (u2 (u2 Z4 (p1 + 3) n w4) (p1 + 4) n 0) (p1 + 5) n 0 = Z5 at *
                have y2 : Z5 (p1 + 2) n = v := by
                  rw [← hZ5, u2_ne (by omega), u2_ne (by omega), u2_ne (by omega), f4.1 _ (by omega), f3.1 _ (by omega), u2s]
                have y3 : Z5 (p1 + 3) n = w4 := by rw [← hZ5, u2_ne (by omega), u2_ne (by omega), u2s]
                have y4 : Z5 (p1 + 4) n = 0 := by rw [← hZ5, u2_ne (by omega), u2s]
                have y5 : Z5 (p1 + 5) n = 0 := by rw [← hZ5, u2s]
                have hC := CD_new hp hn6 (by omega) hn.1 (u := tkW tp len q1) h5.2.2.1 y2 y3 y4 y5 (by rw [← hJ1, u2s]) (by rw [← hN1]; unfold upN; rw [if_pos rfl])
                have zP5 : Z5 p1 2 = (n : Int) := by rw [h5.2.2.1.1.2.1, hn.1]
                have h6 : CQ len p1 c Z0 J0 (Dnw (Dst D n v w4) n (Z5 (p1 + 7 + n))) N1 (tkB tp len q4) (u2 Z5 p1 2 ((n : Int) + 1)) J1 := by
                  refine ⟨CX_up h5.1 (by omega), h5.2.1, hC, ?_, ?_, ?_⟩
                  · rw [u2_ne (by omega)]; exact h5.2.2.2.1
                  · rw [u2f (by omega)]; exact h5.2.2.2.2.1
                  · rw [u2_ne (by omega)]; exact h5.2.2.2.2.2
                have g6 := h_takeKeyword (d := d) (p0 := p0) (p1 := p1) (p2 := p2) (p3 := p3) (p4 := p4) (p5 := p5) (p6 := p6) (p7 := p7) ht h6 (t := 4) (by decide) (by decide)
                generalize hq5 : tkB tp len q4 = q5 at *
                cases c6' : tkIs tp len q5 4
                · rw [if_neg Bool.false_ne_true]
                  have gg := g6.2 c6'
                  clear g6
                  refine CE_eq gg (fun Z' J' e => ?_)
                  simp (disch := omega) only [k_X5_takePiece_0, k_X5_takePiece_12, k_X5_takePiece_17, k_X5_takePiece_18, k_X5_takePiece_30, k_X5_takePiece_33, k_X5_takePiece_35, k_X5_takePiece_50, k_X5_takePiece_51, k_X5_takePiece_64, k_X5_takePiece_67, k_X5_takePiece_71, k_X5_takePiece_76, k_X5_takePiece_77, k_X5_takePiece_91, k_X5_takePiece_94, k_X5_takePiece_96, k_X5_takePiece_112, k_X5_takePiece_118, k_X5_takePiece_121, k_X5_takePiece_128, k_X5_takePiece_131, k_X5_takePiece_133, k_X5_takePiece_140, k_X5_takePiece_156, k_X5_takePiece_161, k_X5_takePiece_162, k_X5_takePiece_178, k_X5_takePiece_188, k_X5_takePiece_198, k_X5_takePiece_217, k_X5_takePiece_220, k_X5_takePiece_225, k_X5_takePiece_228, k_X5_takePiece_232, k_X5_takePiece_233, li_0, li_1, li_2, li_3, li_4, li_5, li_6, li_9, li_10, li_40, lm_1, lm_2, lm_3, lm_4, zs_ap, i32_add, i32_sub, i32_mul, i32_neg, i32_lt, i32_le, i32_eq, i32_nat, ckn, pka_r, pka_v, if_pos, if_neg, if_true, if_false, zS1, e2, Int.toNat_natCast, v2, zs_u2, e3, e4, pr, v4, li_400, nar0, hZ5, zP5, e, true_or]
                · rw [if_pos rfl]
                  obtain ⟨Z6, ⟨f6, h7⟩, e6⟩ := g6.1 c6'
                  clear g6
                  have r := h_takeWorths (d := d + 4) (p0 := p0) (p1 := p1) (p2 := p2) (p3 := p3) (p4 := p4) (p5 := p5) (p6 := p6) (p7 := p7) (D := Dst D n v w4) (S := S) ht hn6 hS.2.2 (by
                    unfold Dst
                    rw [u2f (by decide), u2_ne (by decide), u2_ne (by decide)]
                    exact hS.1) Dnw_AG h7
                  rw [show (D 140 17).toNat = S by omega]
                  refine CO_eq r (fun z Z' J' e => ?_)
                  cases z
                  · simp (disch := omega) only [k_X5_takePiece_0, k_X5_takePiece_12, k_X5_takePiece_17, k_X5_takePiece_18, k_X5_takePiece_30, k_X5_takePiece_33, k_X5_takePiece_35, k_X5_takePiece_50, k_X5_takePiece_51, k_X5_takePiece_64, k_X5_takePiece_67, k_X5_takePiece_71, k_X5_takePiece_76, k_X5_takePiece_77, k_X5_takePiece_91, k_X5_takePiece_94, k_X5_takePiece_96, k_X5_takePiece_112, k_X5_takePiece_118, k_X5_takePiece_121, k_X5_takePiece_128, k_X5_takePiece_131, k_X5_takePiece_133, k_X5_takePiece_140, k_X5_takePiece_156, k_X5_takePiece_161, k_X5_takePiece_162, k_X5_takePiece_178, k_X5_takePiece_188, k_X5_takePiece_198, k_X5_takePiece_217, k_X5_takePiece_220, k_X5_takePiece_225, k_X5_takePiece_228, k_X5_takePiece_232, k_X5_takePiece_233, li_0, li_1, li_2, li_3, li_4, li_5, li_6, li_9, li_10, li_40, lm_1, lm_2, lm_3, lm_4, zs_ap, i32_add, i32_sub, i32_mul, i32_neg, i32_lt, i32_le, i32_eq, i32_nat, ckn, pka_r, pka_v, if_pos, if_neg, if_true, if_false, zS1, e2, Int.toNat_natCast, v2, zs_u2, e3, e4, pr, v4, li_400, nar0, hZ5, zP5, e6, e, bBf, true_or]
                  · simp (disch := omega) only [k_X5_takePiece_0, k_X5_takePiece_12, k_X5_takePiece_17, k_X5_takePiece_18, k_X5_takePiece_30, k_X5_takePiece_33, k_X5_takePiece_35, k_X5_takePiece_50, k_X5_takePiece_51, k_X5_takePiece_64, k_X5_takePiece_67, k_X5_takePiece_71, k_X5_takePiece_76, k_X5_takePiece_77, k_X5_takePiece_91, k_X5_takePiece_94, k_X5_takePiece_96, k_X5_takePiece_112, k_X5_takePiece_118, k_X5_takePiece_121, k_X5_takePiece_128, k_X5_takePiece_131, k_X5_takePiece_133, k_X5_takePiece_140, k_X5_takePiece_156, k_X5_takePiece_161, k_X5_takePiece_162, k_X5_takePiece_178, k_X5_takePiece_188, k_X5_takePiece_198, k_X5_takePiece_217, k_X5_takePiece_220, k_X5_takePiece_225, k_X5_takePiece_228, k_X5_takePiece_232, k_X5_takePiece_233, li_0, li_1, li_2, li_3, li_4, li_5, li_6, li_9, li_10, li_40, lm_1, lm_2, lm_3, lm_4, zs_ap, i32_add, i32_sub, i32_mul, i32_neg, i32_lt, i32_le, i32_eq, i32_nat, ckn, pka_r, pka_v, if_pos, if_neg, if_true, if_false, zS1, e2, Int.toNat_natCast, v2, zs_u2, e3, e4, pr, v4, li_400, nar0, hZ5, zP5, e6, e, bBt, or_true]
              · rw [if_neg c5]
                refine CE_rf h4.1 h4.2.1 l4 ?_
                simp (disch := omega) only [k_X5_takePiece_0, k_X5_takePiece_12, k_X5_takePiece_17, k_X5_takePiece_18, k_X5_takePiece_30, k_X5_takePiece_33, k_X5_takePiece_35, k_X5_takePiece_50, k_X5_takePiece_51, k_X5_takePiece_64, k_X5_takePiece_67, k_X5_takePiece_71, k_X5_takePiece_76, k_X5_takePiece_77, k_X5_takePiece_91, k_X5_takePiece_94, k_X5_takePiece_96, k_X5_takePiece_112, k_X5_takePiece_118, k_X5_takePiece_121, k_X5_takePiece_128, k_X5_takePiece_131, k_X5_takePiece_133, k_X5_takePiece_140, k_X5_takePiece_156, k_X5_takePiece_161, k_X5_takePiece_162, k_X5_takePiece_178, k_X5_takePiece_188, k_X5_takePiece_198, k_X5_takePiece_217, k_X5_takePiece_220, k_X5_takePiece_225, k_X5_takePiece_228, k_X5_takePiece_232, k_X5_takePiece_233, li_0, li_1, li_2, li_3, li_4, li_5, li_6, li_9, li_10, li_40, lm_1, lm_2, lm_3, lm_4, zs_ap, i32_add, i32_sub, i32_mul, i32_neg, i32_lt, i32_le, i32_eq, i32_nat, ckn, pka_r, pka_v, if_pos, if_neg, if_true, if_false, zS1, e2, Int.toNat_natCast, v2, zs_u2, e3, e4, pr, v4, li_400, h_refuse', true_or]
            · rw [if_neg c4]
              have gg := g4.2 c4
              clear g4
              refine CE_eq gg (fun Z' J' e => ?_)
              simp (disch := omega) only [k_X5_takePiece_0, k_X5_takePiece_12, k_X5_takePiece_17, k_X5_takePiece_18, k_X5_takePiece_30, k_X5_takePiece_33, k_X5_takePiece_35, k_X5_takePiece_50, k_X5_takePiece_51, k_X5_takePiece_64, k_X5_takePiece_67, k_X5_takePiece_71, k_X5_takePiece_76, k_X5_takePiece_77, k_X5_takePiece_91, k_X5_takePiece_94, k_X5_takePiece_96, k_X5_takePiece_112, k_X5_takePiece_118, k_X5_takePiece_121, k_X5_takePiece_128, k_X5_takePiece_131, k_X5_takePiece_133, k_X5_takePiece_140, k_X5_takePiece_156, k_X5_takePiece_161, k_X5_takePiece_162, k_X5_takePiece_178, k_X5_takePiece_188, k_X5_takePiece_198, k_X5_takePiece_217, k_X5_takePiece_220, k_X5_takePiece_225, k_X5_takePiece_228, k_X5_takePiece_232, k_X5_takePiece_233, li_0, li_1, li_2, li_3, li_4, li_5, li_6, li_9, li_10, li_40, lm_1, lm_2, lm_3, lm_4, zs_ap, i32_add, i32_sub, i32_mul, i32_neg, i32_lt, i32_le, i32_eq, i32_nat, ckn, pka_r, pka_v, if_pos, if_neg, if_true, if_false, zS1, e2, Int.toNat_natCast, v2, zs_u2, e3, e]
        · rw [if_neg c2]
          have gg := g2.2 c2
          clear g2
          refine CE_eq gg (fun Z' J' e => ?_)
          simp (disch := omega) only [k_X5_takePiece_0, k_X5_takePiece_12, k_X5_takePiece_17, k_X5_takePiece_18, k_X5_takePiece_30, k_X5_takePiece_33, k_X5_takePiece_35, k_X5_takePiece_50, k_X5_takePiece_51, k_X5_takePiece_64, k_X5_takePiece_67, k_X5_takePiece_71, k_X5_takePiece_76, k_X5_takePiece_77, k_X5_takePiece_91, k_X5_takePiece_94, k_X5_takePiece_96, k_X5_takePiece_112, k_X5_takePiece_118, k_X5_takePiece_121, k_X5_takePiece_128, k_X5_takePiece_131, k_X5_takePiece_133, k_X5_takePiece_140, k_X5_takePiece_156, k_X5_takePiece_161, k_X5_takePiece_162, k_X5_takePiece_178, k_X5_takePiece_188, k_X5_takePiece_198, k_X5_takePiece_217, k_X5_takePiece_220, k_X5_takePiece_225, k_X5_takePiece_228, k_X5_takePiece_232, k_X5_takePiece_233, li_0, li_1, li_2, li_3, li_4, li_5, li_6, li_9, li_10, li_40, lm_1, lm_2, lm_3, lm_4, zs_ap, i32_add, i32_sub, i32_mul, i32_neg, i32_lt, i32_le, i32_eq, i32_nat, ckn, pka_r, pka_v, if_pos, if_neg, if_true, if_false, zS1, e]
      · rw [if_neg cA]
        refine CE_rf h1'.1 h1'.2.1 l1 ?_
        simp (disch := omega) only [k_X5_takePiece_0, k_X5_takePiece_12, k_X5_takePiece_17, k_X5_takePiece_18, k_X5_takePiece_30, k_X5_takePiece_33, k_X5_takePiece_35, k_X5_takePiece_50, k_X5_takePiece_51, k_X5_takePiece_64, k_X5_takePiece_67, k_X5_takePiece_71, k_X5_takePiece_76, k_X5_takePiece_77, k_X5_takePiece_91, k_X5_takePiece_94, k_X5_takePiece_96, k_X5_takePiece_112, k_X5_takePiece_118, k_X5_takePiece_121, k_X5_takePiece_128, k_X5_takePiece_131, k_X5_takePiece_133, k_X5_takePiece_140, k_X5_takePiece_156, k_X5_takePiece_161, k_X5_takePiece_162, k_X5_takePiece_178, k_X5_takePiece_188, k_X5_takePiece_198, k_X5_takePiece_217, k_X5_takePiece_220, k_X5_takePiece_225, k_X5_takePiece_228, k_X5_takePiece_232, k_X5_takePiece_233, li_0, li_1, li_2, li_3, li_4, li_5, li_6, li_9, li_10, li_40, lm_1, lm_2, lm_3, lm_4, zs_ap, i32_add, i32_sub, i32_mul, i32_neg, i32_lt, i32_le, i32_eq, i32_nat, ckn, pka_r, pka_v, if_pos, if_neg, if_true, if_false, h_refuse', true_or]
    · rw [if_neg cK] at e1 ⊢
      refine CE_rf h1.1 h1.2.1 l1 ?_
      rw [e_X5_takePiece, k_X5_takePiece_0 (hv_p1 := hp)]
      simp (disch := omega) only [k_X5_takePiece_12, k_X5_takePiece_17, k_X5_takePiece_18, k_X5_takePiece_30, k_X5_takePiece_33, k_X5_takePiece_35, k_X5_takePiece_50, k_X5_takePiece_51, k_X5_takePiece_64, k_X5_takePiece_67, k_X5_takePiece_71, k_X5_takePiece_76, k_X5_takePiece_77, k_X5_takePiece_91, k_X5_takePiece_94, k_X5_takePiece_96, k_X5_takePiece_112, k_X5_takePiece_118, k_X5_takePiece_121, k_X5_takePiece_128, k_X5_takePiece_131, k_X5_takePiece_133, k_X5_takePiece_140, k_X5_takePiece_156, k_X5_takePiece_161, k_X5_takePiece_162, k_X5_takePiece_178, k_X5_takePiece_188, k_X5_takePiece_198, k_X5_takePiece_217, k_X5_takePiece_220, k_X5_takePiece_225, k_X5_takePiece_228, k_X5_takePiece_232, k_X5_takePiece_233, li_0, li_1, li_2, li_3, li_4, li_5, li_6, li_9, li_10, li_40, lm_1, lm_2, lm_3, lm_4, zs_ap, i32_add, i32_sub, i32_mul, i32_neg, i32_lt, i32_le, i32_eq, i32_nat, ckn, pka_r, pka_v, if_pos, if_neg, if_true, if_false, zP, e1]
end
