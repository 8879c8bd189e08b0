/-! THE CLASS'S Reader: takeWorths, takePiece -/
theorem RPw {p0 p1 p2 p3 p4 p5 p6 p7 k : Nat} (hp : hv2 p1) (hk : k < 6) : RP p0 p1 p2 p3 p4 p5 p6 p7 (p1 + 6) k = some (p1 + 7 + k) ∧ pshn (p1 + 7 + k) = some (.inl (.int, 3)) := by
  have : k = 0 ∨ k = 1 ∨ k = 2 ∨ k = 3 ∨ k = 4 ∨ k = 5 := by omega
  rcases hp with rfl | rfl <;> rcases this with rfl | rfl | rfl | rfl | rfl | rfl <;> exact ⟨rfl, rfl⟩
theorem CD_wor {p : Nat} {D : Nat → Nat → Int} {N : Nat → Int64} {Z : Nat → Nat → Int} {J : Nat → Nat → Int64} (hp : hv2 p) (hS : D 140 17 ≤ 3) (h : CD p D N Z J) {k i : Nat} (hk : k < 6) (hi : i < 3) (v : Int) : CD p (u2 D 154 (3 * k + i) v) N (u2 Z (p + 7 + k) i v) J := by
  obtain ⟨h1, h2, h3, h4, h5⟩ := h
  have e : ∀ c : Nat, c ≠ p + 7 + k → u2 Z (p + 7 + k) i v c = Z c := fun c hc => u2_ne hc
  have e' : ∀ c : Nat, c ≠ 154 → u2 D 154 (3 * k + i) v c = D c := fun c hc => u2_ne hc
  refine ⟨?_, ?_, ?_, ?_, ?_⟩
  · rw [e p (by omega), e' 140 (by omega)]
    exact h1
  · rw [e' 140 (by omega), e (p + 2) (by omega), e (p + 3) (by omega), e (p + 4) (by omega), e (p + 5) (by omega), e' 151 (by omega), e' 152 (by omega), e' 153 (by omega), e' 149 (by omega)]
    exact h2
  · rw [e' 140 (by omega)]
    intro k' hk' i' hi'
    have hh := h3 k' hk' i' hi'
    by_cases c1 : k' = k
    · subst c1
      by_cases c2 : i' = i
      · rw [c2, u2s, u2s]
      · rw [u2f c2, u2f (by omega)]
        exact hh
    · rw [e (p + 7 + k') (by omega), u2f (by omega)]
      exact hh
  · rw [e (p + 13) (by omega), e (p + 14) (by omega), e' 155 (by omega), e' 156 (by omega)]
    exact h4
  · rw [e' 140 (by omega), e 3 (by omega), fsum_c (by omega), e' 149 (by omega), e' 150 (by omega)]
    exact h5
/-- the class's draft while a piece's worths are read -/
def AGw (D D1 : Nat → Nat → Int) (n i : Nat) : Prop := ∀ a j : Nat, ¬ (a = 154 ∧ 3 * n + i ≤ j) → (a = 140 → j ≠ 23) → D1 a j = Fpc D n a j
section
variable {d : Nat} {J J0 : Nat → Nat → Int64} {Z Z0 D : Nat → Nat → Int} {N : Nat → Int64} {p0 p1 p2 p3 p4 p5 p6 p7 : Nat} {tp : Nat → Nat} {len q n S : Nat} {c : Int}
theorem CQ_D {D2 : Nat → Nat → Int} (h : CQ len p1 c Z0 J0 D N q Z J) (h2 : CD p1 D2 N Z J) : CQ len p1 c Z0 J0 D2 N q Z J := ⟨h.1, h.2.1, h2, h.2.2.2⟩
theorem tw_loop (ht : CT tp len p1 Z0) (hn : n < 6) (hS : S ≤ 3) : ∀ (j i q : Nat) (D D1 Z : Nat → Nat → Int) (o3 : Option Value), i + j = S → D 140 17 = (S : Int) → AGw D D1 n i → CQ len p1 c Z0 J0 D1 N q Z J → CO len p1 c Z0 J0 (RP p0 p1 p2 p3 p4 p5 p6 p7) (pWorL tp len N n j i D q) (den none (Mean (d + 3)) (some .boolean) tQ_X5_takeWorths (2, [some (.ref 3), some (.int (i32 (n : Int))), some (.int (i32 (i : Int))), o3], [], 176, zs Z, J, RP p0 p1 p2 p3 p4 p5 p6 p7)) := by
  have hp : hv2 p1 := ht.2.2.2
  intro j
  induction j with
  | zero =>
    intro i q D D1 Z o3 hi h17 hag h
    have d17 : D1 140 17 = (S : Int) := by rw [hag 140 17 (by omega) (by omega)]; exact h17
    have d18 : D1 140 18 = (n : Int) + 1 := by rw [hag 140 18 (by omega) (by omega)]; exact u2s
    have e1 : Z p1 1 = (S : Int) := by rw [h.2.2.1.1.1, d17]
    refine ⟨Z, J, CQ_D h (CD_congr h.2.2.1 (fun j hj => (hag 140 j (by omega) (fun _ => hj)).symm) (fun a h1 h2 => funext fun j => (hag a j (fun z => h2 z.1) (fun z => absurd z h1)).symm) (fun k i' hk hi' => (hag 154 _ (by omega) (by omega)).symm)), ?_⟩
    rw [k_X5_takeWorths_2 (hv_p1 := hp)]
    simp (disch := omega) only [k_X5_takeWorths_0, k_X5_takeWorths_13, k_X5_takeWorths_20, k_X5_takeWorths_31, k_X5_takeWorths_35, k_X5_takeWorths_36, k_X5_takeWorths_41, k_X5_takeWorths_48, k_X5_takeWorths_56, k_X5_takeWorths_59, k_X5_takeWorths_61, k_X5_takeWorths_70, k_X5_takeWorths_75, k_X5_takeWorths_86, k_X5_takeWorths_93, k_X5_takeWorths_94, k_X5_takeWorths_100, li_0, li_1, li_2, li_3, li_4, li_5, li_6, li_9, li_10, li_40, lm_1, lm_2, lm_3, lm_4, zs_ap, i32_add, i32_sub, i32_mul, i32_neg, i32_lt, i32_le, i32_eq, i32_nat, ckn, pka_r, pka_v, if_pos, if_neg, if_true, if_false, e1]
  | succ j ih =>
    intro i q D D1 Z o3 hi h17 hag h
    have d17 : D1 140 17 = (S : Int) := by rw [hag 140 17 (by omega) (by omega)]; exact h17
    have e1 : Z p1 1 = (S : Int) := by rw [h.2.2.1.1.1, d17]
    have hq := h.2.2.2.1.2
    obtain ⟨Z1, f1, l1, h1, a1⟩ := CQ_adv (d := d + 2) (p0 := p0) (p1 := p1) (p2 := p2) (p3 := p3) (p4 := p4) (p5 := p5) (p6 := p6) (p7 := p7) ht h
    have hK5 := tk_K5 (tp := tp) (len := len) (q := q)
    -- where the number stands
    have hs : ∃ Z2 : Nat → Nat → Int, LT tp len (sgQ tp len q) Z2 ∧ CQ len p1 c Z0 J0 D1 N (tkB tp len (sgQ tp len q)) Z2 J ∧ den none (Mean (d + 3)) (some .boolean) tQ_X5_takeWorths (2, [some (.ref 3), some (.int (i32 (n : Int))), some (.int (i32 (i : Int))), o3], [], 176, zs Z, J, RP p0 p1 p2 p3 p4 p5 p6 p7) = den none (Mean (d + 3)) (some .boolean) tQ_X5_takeWorths (48, [some (.ref 3), some (.int (i32 (n : Int))), some (.int (i32 (i : Int))), some (.int (i32 (bB (decide (tkK tp len q = 4)))))], [], 176, zs Z2, J, RP p0 p1 p2 p3 p4 p5 p6 p7) := by
      unfold sgQ
      by_cases c4 : tkK tp len q = 4
      · rw [if_pos c4]
        obtain ⟨Z2, f2, l2, h2, a2⟩ := CQ_adv (d := d + 2) (p0 := p0) (p1 := p1) (p2 := p2) (p3 := p3) (p4 := p4) (p5 := p5) (p6 := p6) (p7 := p7) ht h1
        refine ⟨Z2, l2, h2, ?_⟩
        rw [decide_eq_true c4, bBt, k_X5_takeWorths_2 (hv_p1 := hp)]
        simp (disch := omega) only [k_X5_takeWorths_0, k_X5_takeWorths_13, k_X5_takeWorths_20, k_X5_takeWorths_31, k_X5_takeWorths_35, k_X5_takeWorths_36, k_X5_takeWorths_41, k_X5_takeWorths_56, k_X5_takeWorths_59, k_X5_takeWorths_61, k_X5_takeWorths_70, k_X5_takeWorths_75, k_X5_takeWorths_86, k_X5_takeWorths_93, k_X5_takeWorths_94, k_X5_takeWorths_100, li_0, li_1, li_2, li_3, li_4, li_5, li_6, li_9, li_10, li_40, lm_1, lm_2, lm_3, lm_4, zs_ap, i32_add, i32_sub, i32_mul, i32_neg, i32_lt, i32_le, i32_eq, i32_nat, ckn, pka_r, pka_v, if_pos, if_neg, if_true, if_false, e1, a1, l1.2.1, c4, a2]
      · rw [if_neg c4]
        refine ⟨Z1, l1, h1, ?_⟩
        rw [decide_eq_false c4, bBf, k_X5_takeWorths_2 (hv_p1 := hp)]
        simp (disch := omega) only [k_X5_takeWorths_0, k_X5_takeWorths_13, k_X5_takeWorths_20, k_X5_takeWorths_31, k_X5_takeWorths_35, k_X5_takeWorths_36, k_X5_takeWorths_41, k_X5_takeWorths_56, k_X5_takeWorths_59, k_X5_takeWorths_61, k_X5_takeWorths_70, k_X5_takeWorths_75, k_X5_takeWorths_86, k_X5_takeWorths_93, k_X5_takeWorths_94, k_X5_takeWorths_100, li_0, li_1, li_2, li_3, li_4, li_5, li_6, li_9, li_10, li_40, lm_1, lm_2, lm_3, lm_4, zs_ap, i32_add, i32_sub, i32_mul, i32_neg, i32_lt, i32_le, i32_eq, i32_nat, ckn, pka_r, pka_v, if_pos, if_neg, if_true, if_false, e1, a1, l1.2.1]
    obtain ⟨Z2, l2, h2, e2⟩ := hs
    have hq2 : sgQ tp len q ≤ len := (sgQ_le hq).2
    have hnum := h_isNumber (d := d + 1) (J := J) (p0 := p0) (p1 := p1) (p2 := p2) (p3 := p3) (p4 := p4) (p5 := p5) (p6 := p6) (p7 := p7) (Z := Z2) l2 hq2 (lo := 0) (hi := 999) (by omega) (by omega)
    show CO len p1 c Z0 J0 (RP p0 p1 p2 p3 p4 p5 p6 p7) (pSgn tp len q (fun v q' => pWorL tp len N n j (i + 1) (u2 D 154 (3 * n + i) v) q')) _
    unfold pSgn
    rw [e2]
    by_cases c2 : eNum tp len (sgQ tp len q) 0 999 = 0
    · rw [if_pos c2]
      rw [if_pos c2] at hnum
      have cK : tkK tp len (sgQ tp len q) = 2 := by
        unfold eNum at c2
        split at c2
        · assumption
        · cases c2
      have z4 := l2.2.2.2 cK
      obtain ⟨w1, w2⟩ := RPw (p0 := p0) (p2 := p2) (p3 := p3) (p4 := p4) (p5 := p5) (p6 := p6) (p7 := p7) hp hn
      have hW := CD_wor hp (by omega) h2.2.2.1 (k := n) (i := i) hn (by omega) (sgV tp len q)
      have h3 : CQ len p1 c Z0 J0 (u2 D1 154 (3 * n + i) (sgV tp len q)) N (tkB tp len (sgQ tp len q)) (u2 Z2 (p1 + 7 + n) i (sgV tp len q)) J := by
        refine ⟨CX_up h2.1 (by omega), h2.2.1, hW, ?_, ?_, ?_⟩
        · rw [u2_ne (by omega)]; exact h2.2.2.2.1
        · rw [u2_ne (by omega)]; exact h2.2.2.2.2.1
        · rw [u2_ne (by omega)]; exact h2.2.2.2.2.2
      have hag' : AGw (u2 D 154 (3 * n + i) (sgV tp len q)) (u2 D1 154 (3 * n + i) (sgV tp len q)) n (i + 1) := by
        intro a x hx h23
        have eF : ∀ (D : Nat → Nat → Int), Fpc D n 154 = D 154 := fun D => by
          unfold Fpc
          rw [u2_ne (by decide), u2_ne (by decide), u2_ne (by decide), u2_ne (by decide)]
        by_cases ca : a = 154
        · subst ca
          rw [eF]
          by_cases cx : x = 3 * n + i
          · rw [cx, u2s, u2s]
          · rw [u2f cx, u2f cx, hag 154 x (by omega) (by omega), eF]
        · rw [u2_ne ca, hag a x (fun z => ca z.1) h23]
          unfold Fpc u2
          by_cases c0 : a = 140
          · subst c0; simp
          · by_cases c9 : a = 149
            · subst c9; simp
            · by_cases c5 : a = 150
              · subst c5; simp
              · by_cases c3 : a = 153
                · subst c3; simp
                · simp [ca, c0, c9, c5, c3]
      have r := ih (i + 1) (tkB tp len (sgQ tp len q)) (u2 D 154 (3 * n + i) (sgV tp len q)) _ _ (some (.int (i32 (bB (decide (tkK tp len q = 4)))))) (by omega) (by rw [u2_ne (by decide)]; exact h17) hag' h3
      have e3 : den none (Mean (d + 3)) (some .boolean) tQ_X5_takeWorths (48, [some (.ref 3), some (.int (i32 (n : Int))), some (.int (i32 (i : Int))), some (.int (i32 (bB (decide (tkK tp len q = 4)))))], [], 176, zs Z2, J, RP p0 p1 p2 p3 p4 p5 p6 p7) = den none (Mean (d + 3)) (some .boolean) tQ_X5_takeWorths (2, [some (.ref 3), some (.int (i32 (n : Int))), some (.int (i32 ((i + 1 : Nat) : Int))), some (.int (i32 (bB (decide (tkK tp len q = 4)))))], [], 176, zs (u2 Z2 (p1 + 7 + n) i (sgV tp len q)), J, RP p0 p1 p2 p3 p4 p5 p6 p7) := by
        by_cases c4 : tkK tp len q = 4
        · have hV : sgV tp len q = - tkV tp len (sgQ tp len q) := if_pos c4
          rw [decide_eq_true c4, bBt, k_X5_takeWorths_48, hV]
          simp (disch := omega) only [k_X5_takeWorths_56, k_X5_takeWorths_61, k_X5_takeWorths_70, k_X5_takeWorths_75, k_X5_takeWorths_86, k_X5_takeWorths_93 (hg_f0 := w2), k_X5_takeWorths_94, w1, va_rf, li_0, li_1, li_2, li_3, li_4, li_5, li_6, li_9, li_10, li_40, lm_1, lm_2, lm_3, lm_4, zs_ap, i32_add, i32_sub, i32_mul, i32_neg, i32_lt, i32_le, i32_eq, i32_nat, ckn, pka_r, pka_v, if_pos, if_neg, if_true, if_false, li_999, hnum, z4, zs_u2, Int.toNat_natCast]
          rfl
        · have hV : sgV tp len q = tkV tp len (sgQ tp len q) := if_neg c4
          rw [decide_eq_false c4, bBf, k_X5_takeWorths_48, hV]
          simp (disch := omega) only [k_X5_takeWorths_56, k_X5_takeWorths_61, k_X5_takeWorths_70, k_X5_takeWorths_75, k_X5_takeWorths_86, k_X5_takeWorths_93 (hg_f0 := w2), k_X5_takeWorths_94, w1, va_rf, li_0, li_1, li_2, li_3, li_4, li_5, li_6, li_9, li_10, li_40, lm_1, lm_2, lm_3, lm_4, zs_ap, i32_add, i32_sub, i32_mul, i32_neg, i32_lt, i32_le, i32_eq, i32_nat, ckn, pka_r, pka_v, if_pos, if_neg, if_true, if_false, li_999, hnum, z4, zs_u2, Int.toNat_natCast]
          rfl
      rw [e3]
      exact r
    · rw [if_neg c2]
      rw [if_neg c2] at hnum
      refine CE_mk h2.1 h2.2.1 l2 ?_
      rw [k_X5_takeWorths_48]
      simp (disch := omega) only [k_X5_takeWorths_0, k_X5_takeWorths_13, k_X5_takeWorths_20, k_X5_takeWorths_31, k_X5_takeWorths_35, k_X5_takeWorths_36, k_X5_takeWorths_41, k_X5_takeWorths_48, k_X5_takeWorths_56, k_X5_takeWorths_59, k_X5_takeWorths_61, k_X5_takeWorths_70, k_X5_takeWorths_75, k_X5_takeWorths_86, k_X5_takeWorths_93, k_X5_takeWorths_94, k_X5_takeWorths_100, li_0, li_1, li_2, li_3, li_4, li_5, li_6, li_9, li_10, li_40, lm_1, lm_2, lm_3, lm_4, zs_ap, i32_add, i32_sub, i32_mul, i32_neg, i32_lt, i32_le, i32_eq, i32_nat, ckn, pka_r, pka_v, if_pos, if_neg, if_true, if_false, li_999, hnum]
theorem h_takeWorths (ht : CT tp len p1 Z0) (hn : n < 6) (hS : S ≤ 3) {D1 : Nat → Nat → Int} (h17 : D 140 17 = (S : Int)) (hag : AGw D D1 n 0) (h : CQ len p1 c Z0 J0 D1 N q Z J) : CO len p1 c Z0 J0 (RP p0 p1 p2 p3 p4 p5 p6 p7) (pWorL tp len N n S 0 D q) (Mean (d + 4) 46 [.ref 3, .int (i32 (n : Int))] (176, zs Z, J, RP p0 p1 p2 p3 p4 p5 p6 p7)) := by
  rw [e_X5_takeWorths, k_X5_takeWorths_0]
  exact tw_loop ht hn hS S 0 q D D1 Z none (by omega) h17 hag h
end
