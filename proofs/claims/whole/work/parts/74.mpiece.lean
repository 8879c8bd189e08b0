/-! THE MODEL'S readPiece -/
def upN (N : Nat → Int64) (n : Nat) (w : Int64) : Nat → Int64 := fun k => if k = n then w else N k
section
variable (tp : Nat → Nat) (len : Nat)
def pWorL (N : Nat → Int64) (n : Nat) : Nat → Nat → (Nat → Nat → Int) → Nat → PE
  | 0, _, D, q => .ok (u2 (u2 (u2 (u2 D 153 n 0) 149 n 0) 150 n 0) 140 18 ((n : Int) + 1), N, q)
  | j + 1, i, D, q => pSgn tp len q (fun v q' => pWorL N n j (i + 1) (u2 D 154 (3 * n + i) v) q')
def pPieceB (D : Nat → Nat → Int) (N : Nat → Int64) (n q1 : Nat) : PE :=
  pNum tp len (tkB tp len q1) 0 (D 140 17 - 1) (fun v q3 => pExp tp len q3 3 (fun q4 =>
    if eNum tp len q4 1 9 = 0 then
      (if D 140 23 * (tkV tp len q4 + 1) ≤ 400 then pExp tp len (tkB tp len q4) 4 (fun q6 => pWorL tp len (upN N n (tkW tp len q1)) n (D 140 17).toNat 0 (u2 (u2 (u2 D 151 n v) 152 n (tkV tp len q4)) 140 23 (D 140 23 * (tkV tp len q4 + 1))) q6)
       else .error (2, tkF tp len q4))
    else .error (eNum tp len q4 1 9, tkF tp len q4)))
def pPiece (D : Nat → Nat → Int) (N : Nat → Int64) (q : Nat) : PE :=
  if D 140 18 = 6 then .error (4, tkF tp len q) else
  if tkK tp len (tkB tp len q) = 1 then
    (if pAt N (D 140 18).toNat (tkW tp len (tkB tp len q)) = -1 then pPieceB tp len D N (D 140 18).toNat (tkB tp len q) else .error (3, tkF tp len (tkB tp len q)))
  else .error (1, tkF tp len (tkB tp len q))
end
section
variable {d : Nat} {J J0 : Nat → Nat → Int64} {Z Z0 D : Nat → Nat → Int} {N : Nat → Int64} {p0 p1 p2 p3 p4 p5 p6 p7 : Nat} {tp : Nat → Nat} {len q : Nat}
theorem PQ_nm (h : PQ tp len Z0 J0 D N q Z J) (n : Nat) (w : Int64) : PQ tp len Z0 J0 D (upN N n w) q Z (u2 J 157 n w) := by
  refine ⟨h.1, fun a ha => (u2_ne ha).trans (h.2.1 a ha), ⟨h.2.2.1.1, h.2.2.1.2.1, ?_, h.2.2.1.2.2.2⟩, h.2.2.2⟩
  funext k
  unfold upN
  by_cases c : k = n
  · rw [c, u2s, if_pos rfl]
  · rw [u2f c, if_neg c, h.2.2.1.2.2.1]
theorem pw_loop (hl : len ≤ 700) (ht : TBz tp Z0) {n S : Nat} (hn : n < 6) (hS : S ≤ 3) : ∀ (j i q : Nat) (D Z : Nat → Nat → Int), i + j = S → D 140 17 = (S : Int) → D 140 18 = (n : Int) → PQ tp len Z0 J0 D N q Z J → MO tp len Z0 J0 (RP p0 p1 p2 p3 p4 p5 p6 p7) (pWorL tp len N n j i D q) (den none (Mean (d + 4)) (some .boolean) tQ_X11_readPiece (182, [some (.ref 140), some (.int (i32 (i : Int)))], [], 176, zs Z, J, RP p0 p1 p2 p3 p4 p5 p6 p7)) := by
  intro j
  induction j with
  | zero =>
    intro i q D Z hi hD hD2 h
    have h17 : Z 140 17 = (S : Int) := by rw [h.2.2.1.1 140 17 (by decide), hD]
    have h18 : Z 140 18 = (n : Int) := by rw [h.2.2.1.1 140 18 (by decide), hD2]
    refine ⟨u2 (u2 (u2 (u2 Z 153 n 0) 149 n 0) 150 n 0) 140 18 ((n : Int) + 1), J, PQ_u (PQ_u (PQ_u (PQ_u h (a := 153) (j := n) 0 (by omega) (by omega)) (a := 149) (j := n) 0 (by omega) (by omega)) (a := 150) (j := n) 0 (by omega) (by omega)) (a := 140) (j := 18) _ (by decide) (Or.inl (by decide)), ?_⟩
    rw [k_X11_readPiece_182]
    simp (disch := omega) only [k_X11_readPiece_0, k_X11_readPiece_9, k_X11_readPiece_14, k_X11_readPiece_15, k_X11_readPiece_19, k_X11_readPiece_27, k_X11_readPiece_32, k_X11_readPiece_33, k_X11_readPiece_37, k_X11_readPiece_41, k_X11_readPiece_46, k_X11_readPiece_47, k_X11_readPiece_59, k_X11_readPiece_60, k_X11_readPiece_64, k_X11_readPiece_75, k_X11_readPiece_78, k_X11_readPiece_80, k_X11_readPiece_93, k_X11_readPiece_99, k_X11_readPiece_102, k_X11_readPiece_109, k_X11_readPiece_112, k_X11_readPiece_114, k_X11_readPiece_131, k_X11_readPiece_136, k_X11_readPiece_137, k_X11_readPiece_150, k_X11_readPiece_169, k_X11_readPiece_175, k_X11_readPiece_178, k_X11_readPiece_180, k_X11_readPiece_190, k_X11_readPiece_194, k_X11_readPiece_197, k_X11_readPiece_199, k_X11_readPiece_216, k_X11_readPiece_222, k_X11_readPiece_232, k_X11_readPiece_242, k_X11_readPiece_252, li_0, li_1, li_2, li_3, li_4, li_5, li_6, li_9, li_10, li_40, lm_1, lm_2, lm_3, lm_4, zs_ap, i32_add, i32_sub, i32_mul, i32_neg, i32_lt, i32_le, i32_eq, i32_nat, ckn, pka_r, pka_v, if_pos, if_neg, if_true, if_false, h17, h18, Int.toNat_natCast, nar0, zs_u2, u2a (show 140 ≠ 153 by decide), u2a (show 140 ≠ 149 by decide), u2a (show 140 ≠ 150 by decide), or_true]
  | succ j ih =>
    intro i q D Z hi hD hD2 h
    have h17 : Z 140 17 = (S : Int) := by rw [h.2.2.1.1 140 17 (by decide), hD]
    have h18 : Z 140 18 = (n : Int) := by rw [h.2.2.1.1 140 18 (by decide), hD2]
    have hx : (3 * (n : Int) + (i : Int)).toNat = 3 * n + i := by omega
    have hs := PQ_sgn (d := d) (p0 := p0) (p1 := p1) (p2 := p2) (p3 := p3) (p4 := p4) (p5 := p5) (p6 := p6) (p7 := p7) hl ht h
    unfold pWorL pSgn
    by_cases c : eNum tp len (sgQ tp len q) 0 999 = 0
    · rw [if_pos c]
      obtain ⟨Z', e1, ⟨e2, e4⟩, e3⟩ := hs.1 c
      clear hs
      have h2 := PQ_u e1 (a := 154) (j := 3 * n + i) (sgV tp len q) (by omega) (Or.inr e4)
      have z17 : Z' 140 17 = (S : Int) := by rw [e1.2.2.1.1 140 17 (by decide), hD]
      have z18 : Z' 140 18 = (n : Int) := by rw [e1.2.2.1.1 140 18 (by decide), hD2]
      have key := ih (i + 1) (tkB tp len (sgQ tp len q)) (u2 D 154 (3 * n + i) (sgV tp len q)) (u2 Z' 154 (3 * n + i) (sgV tp len q)) (by omega) (by rw [u2a (by decide), hD]) (by rw [u2a (by decide), hD2]) h2
      have e : den none (Mean (d + 4)) (some .boolean) tQ_X11_readPiece (182, [some (.ref 140), some (.int (i32 (i : Int)))], [], 176, zs Z, J, RP p0 p1 p2 p3 p4 p5 p6 p7) = den none (Mean (d + 4)) (some .boolean) tQ_X11_readPiece (182, [some (.ref 140), some (.int (i32 ((i + 1 : Nat) : Int)))], [], 176, zs (u2 Z' 154 (3 * n + i) (sgV tp len q)), J, RP p0 p1 p2 p3 p4 p5 p6 p7) := by
        rw [k_X11_readPiece_182]
        simp (disch := omega) only [k_X11_readPiece_0, k_X11_readPiece_9, k_X11_readPiece_14, k_X11_readPiece_15, k_X11_readPiece_19, k_X11_readPiece_27, k_X11_readPiece_32, k_X11_readPiece_33, k_X11_readPiece_37, k_X11_readPiece_41, k_X11_readPiece_46, k_X11_readPiece_47, k_X11_readPiece_59, k_X11_readPiece_60, k_X11_readPiece_64, k_X11_readPiece_75, k_X11_readPiece_78, k_X11_readPiece_80, k_X11_readPiece_93, k_X11_readPiece_99, k_X11_readPiece_102, k_X11_readPiece_109, k_X11_readPiece_112, k_X11_readPiece_114, k_X11_readPiece_131, k_X11_readPiece_136, k_X11_readPiece_137, k_X11_readPiece_150, k_X11_readPiece_169, k_X11_readPiece_175, k_X11_readPiece_178, k_X11_readPiece_180, k_X11_readPiece_190, k_X11_readPiece_194, k_X11_readPiece_197, k_X11_readPiece_199, k_X11_readPiece_216, k_X11_readPiece_232, k_X11_readPiece_242, k_X11_readPiece_252, li_0, li_1, li_2, li_3, li_4, li_5, li_6, li_9, li_10, li_40, lm_1, lm_2, lm_3, lm_4, zs_ap, i32_add, i32_sub, i32_mul, i32_neg, i32_lt, i32_le, i32_eq, i32_nat, ckn, pka_r, pka_v, if_pos, if_neg, if_true, if_false, h17, e3, z18, hx, e2, zs_u2]
        rfl
      rw [e]
      exact key
    · rw [if_neg c]
      obtain ⟨Z', e1, e3⟩ := hs.2 c
      clear hs
      refine PQ_fault h e1.1 (by decide) e1.2 ?_
      rw [k_X11_readPiece_182]
      simp (disch := omega) only [k_X11_readPiece_0, k_X11_readPiece_9, k_X11_readPiece_14, k_X11_readPiece_15, k_X11_readPiece_19, k_X11_readPiece_27, k_X11_readPiece_32, k_X11_readPiece_33, k_X11_readPiece_37, k_X11_readPiece_41, k_X11_readPiece_46, k_X11_readPiece_47, k_X11_readPiece_59, k_X11_readPiece_60, k_X11_readPiece_64, k_X11_readPiece_75, k_X11_readPiece_78, k_X11_readPiece_80, k_X11_readPiece_93, k_X11_readPiece_99, k_X11_readPiece_102, k_X11_readPiece_109, k_X11_readPiece_112, k_X11_readPiece_114, k_X11_readPiece_131, k_X11_readPiece_136, k_X11_readPiece_137, k_X11_readPiece_150, k_X11_readPiece_169, k_X11_readPiece_175, k_X11_readPiece_178, k_X11_readPiece_180, k_X11_readPiece_190, k_X11_readPiece_194, k_X11_readPiece_197, k_X11_readPiece_199, k_X11_readPiece_216, k_X11_readPiece_232, k_X11_readPiece_242, k_X11_readPiece_252, li_0, li_1, li_2, li_3, li_4, li_5, li_6, li_9, li_10, li_40, lm_1, lm_2, lm_3, lm_4, zs_ap, i32_add, i32_sub, i32_mul, i32_neg, i32_lt, i32_le, i32_eq, i32_nat, ckn, pka_r, pka_v, if_pos, if_neg, if_true, if_false, h17, e3, true_or]
theorem g_readPiece (hl : len ≤ 700) (ht : TBz tp Z0) {n S : Nat} (hS : 2 ≤ S ∧ S ≤ 3) (hn6 : n ≤ 6) (hD : D 140 17 = (S : Int)) (hD2 : D 140 18 = (n : Int)) (hp : 1 ≤ D 140 23 ∧ D 140 23 ≤ 400) (h : PQ tp len Z0 J0 D N q Z J) : MO tp len Z0 J0 (RP p0 p1 p2 p3 p4 p5 p6 p7) (pPiece tp len D N q) (Mean (d + 9) 153 [.ref 140] (176, zs Z, J, RP p0 p1 p2 p3 p4 p5 p6 p7)) := by
  have h18 : Z 140 18 = (n : Int) := by rw [h.2.2.1.1 140 18 (by decide), hD2]
  unfold pPiece
  rw [e_X11_readPiece, hD2]
  by_cases c6 : (n : Int) = 6
  · rw [if_pos c6]
    obtain ⟨Z', e1, e3⟩ := PQ_wrong (d := d + 7) (p0 := p0) (p1 := p1) (p2 := p2) (p3 := p3) (p4 := p4) (p5 := p5) (p6 := p6) (p7 := p7) h 4
    refine PQ_fault h e1.1 (by decide) e1.2 ?_
    simp (disch := omega) only [k_X11_readPiece_0, k_X11_readPiece_9, k_X11_readPiece_14, k_X11_readPiece_19, k_X11_readPiece_27, k_X11_readPiece_32, k_X11_readPiece_33, k_X11_readPiece_37, k_X11_readPiece_41, k_X11_readPiece_46, k_X11_readPiece_47, k_X11_readPiece_59, k_X11_readPiece_60, k_X11_readPiece_64, k_X11_readPiece_75, k_X11_readPiece_78, k_X11_readPiece_80, k_X11_readPiece_93, k_X11_readPiece_99, k_X11_readPiece_102, k_X11_readPiece_109, k_X11_readPiece_112, k_X11_readPiece_114, k_X11_readPiece_131, k_X11_readPiece_136, k_X11_readPiece_137, k_X11_readPiece_150, k_X11_readPiece_169, k_X11_readPiece_175, k_X11_readPiece_178, k_X11_readPiece_180, k_X11_readPiece_190, k_X11_readPiece_194, k_X11_readPiece_197, k_X11_readPiece_199, k_X11_readPiece_216, k_X11_readPiece_222, k_X11_readPiece_232, k_X11_readPiece_242, k_X11_readPiece_252, li_0, li_1, li_2, li_3, li_4, li_5, li_6, li_9, li_10, li_40, lm_1, lm_2, lm_3, lm_4, zs_ap, i32_add, i32_sub, i32_mul, i32_neg, i32_lt, i32_le, i32_eq, i32_nat, ckn, pka_r, pka_v, if_pos, if_neg, if_true, if_false, h18, e3, true_or]
  · rw [if_neg c6, Int.toNat_natCast]
    obtain ⟨Z1, a1, a2⟩ := PQ_scan (d := d + 6) (p0 := p0) (p1 := p1) (p2 := p2) (p3 := p3) (p4 := p4) (p5 := p5) (p6 := p6) (p7 := p7) hl ht h
    have hk := PQ_kind a1
    by_cases c1 : tkK tp len (tkB tp len q) = 1
    · rw [if_pos c1]
      have k5 := hk.2.1 c1
      clear hk
      have hat := PQ_at (d := d + 5) (p0 := p0) (p1 := p1) (p2 := p2) (p3 := p3) (p4 := p4) (p5 := p5) (p6 := p6) (p7 := p7) hl ht a1 hD2 hn6
      have hpb := pAt_b N n (tkW tp len (tkB tp len q))
      by_cases cp : pAt N n (tkW tp len (tkB tp len q)) = -1
      · rw [if_pos cp]
        rw [cp] at hat
        have hnm := g_name (d := d + 6) (J := J) (p0 := p0) (p1 := p1) (p2 := p2) (p3 := p3) (p4 := p4) (p5 := p5) (p6 := p6) (p7 := p7) hl (RX_TBz a1.1 ht) a1.2.2.1.2.2.2.1 a1.2.2.1.2.2.2.2
        have z18 : Z1 140 18 = (n : Int) := by rw [a1.2.2.1.1 140 18 (by decide), hD2]
        generalize hw : tkW tp len (tkB tp len q) = w at *
        generalize hq1 : tkB tp len q = q1 at *
        have a3 := PQ_nm a1 n w
        obtain ⟨Z2, b1, b2⟩ := PQ_scan (d := d + 6) (p0 := p0) (p1 := p1) (p2 := p2) (p3 := p3) (p4 := p4) (p5 := p5) (p6 := p6) (p7 := p7) hl ht a3
        have y17 : Z2 140 17 = (S : Int) := by rw [b1.2.2.1.1 140 17 (by decide), hD]
        have e0 : den none (Mean (d + 8)) (some .boolean) tQ_X11_readPiece (0, [some (.ref 140), none], [], 176, zs Z, J, RP p0 p1 p2 p3 p4 p5 p6 p7) = den none (Mean (d + 8)) (some .boolean) tQ_X11_readPiece (64, [some (.ref 140), none], [], 176, zs Z2, u2 J 157 n w, RP p0 p1 p2 p3 p4 p5 p6 p7) := by
          simp (disch := omega) only [k_X11_readPiece_0, k_X11_readPiece_9, k_X11_readPiece_14, k_X11_readPiece_15, k_X11_readPiece_19, k_X11_readPiece_27, k_X11_readPiece_32, k_X11_readPiece_33, k_X11_readPiece_37, k_X11_readPiece_41, k_X11_readPiece_46, k_X11_readPiece_47, k_X11_readPiece_59, k_X11_readPiece_60, k_X11_readPiece_75, k_X11_readPiece_78, k_X11_readPiece_80, k_X11_readPiece_93, k_X11_readPiece_99, k_X11_readPiece_102, k_X11_readPiece_109, k_X11_readPiece_112, k_X11_readPiece_114, k_X11_readPiece_131, k_X11_readPiece_136, k_X11_readPiece_137, k_X11_readPiece_150, k_X11_readPiece_169, k_X11_readPiece_175, k_X11_readPiece_178, k_X11_readPiece_180, k_X11_readPiece_190, k_X11_readPiece_194, k_X11_readPiece_197, k_X11_readPiece_199, k_X11_readPiece_216, k_X11_readPiece_222, k_X11_readPiece_232, k_X11_readPiece_242, k_X11_readPiece_252, li_0, li_1, li_2, li_3, li_4, li_5, li_6, li_9, li_10, li_40, lm_1, lm_2, lm_3, lm_4, zs_ap, i32_add, i32_sub, i32_mul, i32_neg, i32_lt, i32_le, i32_eq, i32_nat, ckn, pka_r, pka_v, if_pos, if_neg, if_true, if_false, h18, a2, k5, hat, hnm, z18, Int.toNat_natCast, b2]
        rw [e0]
        unfold pPieceB
        rw [hD, hw]
        have hnn := PQ_num (d := d + 5) (p0 := p0) (p1 := p1) (p2 := p2) (p3 := p3) (p4 := p4) (p5 := p5) (p6 := p6) (p7 := p7) hl ht b1 (lo := 0) (hi := (S : Int) - 1) (by omega) (by omega)
        unfold pNum
        by_cases cn : eNum tp len (tkB tp len q1) 0 ((S : Int) - 1) = 0
        · rw [if_pos cn]
          obtain ⟨Z3, f1, f2, f3⟩ := hnn.1 cn
          clear hnn
          have y18 : Z3 140 18 = (n : Int) := by rw [f1.2.2.1.1 140 18 (by decide), hD2]
          have g1 := PQ_u f1 (a := 151) (j := n) (tkV tp len (tkB tp len q1)) (by omega) (Or.inl (by decide))
          have e1 : den none (Mean (d + 8)) (some .boolean) tQ_X11_readPiece (64, [some (.ref 140), none], [], 176, zs Z2, u2 J 157 n w, RP p0 p1 p2 p3 p4 p5 p6 p7) = den none (Mean (d + 8)) (some .boolean) tQ_X11_readPiece (93, [some (.ref 140), none], [], 176, zs (u2 Z3 151 n (tkV tp len (tkB tp len q1))), u2 J 157 n w, RP p0 p1 p2 p3 p4 p5 p6 p7) := by
            simp (disch := omega) only [k_X11_readPiece_0, k_X11_readPiece_9, k_X11_readPiece_14, k_X11_readPiece_15, k_X11_readPiece_19, k_X11_readPiece_27, k_X11_readPiece_32, k_X11_readPiece_33, k_X11_readPiece_37, k_X11_readPiece_41, k_X11_readPiece_46, k_X11_readPiece_47, k_X11_readPiece_59, k_X11_readPiece_60, k_X11_readPiece_64, k_X11_readPiece_75, k_X11_readPiece_78, k_X11_readPiece_80, k_X11_readPiece_99, k_X11_readPiece_102, k_X11_readPiece_109, k_X11_readPiece_112, k_X11_readPiece_114, k_X11_readPiece_131, k_X11_readPiece_136, k_X11_readPiece_137, k_X11_readPiece_150, k_X11_readPiece_169, k_X11_readPiece_175, k_X11_readPiece_178, k_X11_readPiece_180, k_X11_readPiece_190, k_X11_readPiece_194, k_X11_readPiece_197, k_X11_readPiece_199, k_X11_readPiece_216, k_X11_readPiece_222, k_X11_readPiece_232, k_X11_readPiece_242, k_X11_readPiece_252, li_0, li_1, li_2, li_3, li_4, li_5, li_6, li_9, li_10, li_40, lm_1, lm_2, lm_3, lm_4, zs_ap, i32_add, i32_sub, i32_mul, i32_neg, i32_lt, i32_le, i32_eq, i32_nat, ckn, pka_r, pka_v, if_pos, if_neg, if_true, if_false, y17, f3, y18, Int.toNat_natCast, f2, zs_u2]
          rw [e1]
          generalize hv : tkV tp len (tkB tp len q1) = v at *
          generalize hq3 : tkB tp len (tkB tp len q1) = q3 at *
          have hex := PQ_exp (d := d) (p0 := p0) (p1 := p1) (p2 := p2) (p3 := p3) (p4 := p4) (p5 := p5) (p6 := p6) (p7 := p7) hl ht g1 (t := 3) (by decide) (by decide)
          unfold pExp
          dsimp only
          cases ce : tkIs tp len q3 3
          · rw [if_neg Bool.false_ne_true]
            obtain ⟨Z', x1, x3⟩ := hex.2 ce
            clear hex
            refine PQ_fault g1 x1.1 (by decide) x1.2 ?_
            simp (disch := omega) only [k_X11_readPiece_0, k_X11_readPiece_9, k_X11_readPiece_14, k_X11_readPiece_15, k_X11_readPiece_19, k_X11_readPiece_27, k_X11_readPiece_32, k_X11_readPiece_33, k_X11_readPiece_37, k_X11_readPiece_41, k_X11_readPiece_46, k_X11_readPiece_47, k_X11_readPiece_59, k_X11_readPiece_60, k_X11_readPiece_64, k_X11_readPiece_75, k_X11_readPiece_78, k_X11_readPiece_80, k_X11_readPiece_93, k_X11_readPiece_99, k_X11_readPiece_102, k_X11_readPiece_109, k_X11_readPiece_112, k_X11_readPiece_131, k_X11_readPiece_136, k_X11_readPiece_137, k_X11_readPiece_150, k_X11_readPiece_169, k_X11_readPiece_175, k_X11_readPiece_178, k_X11_readPiece_180, k_X11_readPiece_190, k_X11_readPiece_194, k_X11_readPiece_197, k_X11_readPiece_199, k_X11_readPiece_216, k_X11_readPiece_222, k_X11_readPiece_232, k_X11_readPiece_242, k_X11_readPiece_252, li_0, li_1, li_2, li_3, li_4, li_5, li_6, li_9, li_10, li_40, lm_1, lm_2, lm_3, lm_4, zs_ap, i32_add, i32_sub, i32_mul, i32_neg, i32_lt, i32_le, i32_eq, i32_nat, ckn, pka_r, pka_v, if_pos, if_neg, if_true, if_false, x3, true_or]
          · rw [if_pos rfl]
            obtain ⟨Z4, x1, x3⟩ := hex.1 ce
            clear hex
            generalize hq4 : tkB tp len q3 = q4 at *
            have hlk := PQ_look (d := d + 6) (p0 := p0) (p1 := p1) (p2 := p2) (p3 := p3) (p4 := p4) (p5 := p5) (p6 := p6) (p7 := p7) x1 (lo := 1) (hi := 9) (by omega) (by omega)
            by_cases cl : eNum tp len q4 1 9 = 0
            · rw [if_pos cl]
              obtain ⟨Z5, l1, l2, l3⟩ := hlk.1 cl
              clear hlk
              have hvb : 1 ≤ tkV tp len q4 ∧ tkV tp len q4 ≤ 9 := by
                unfold eNum at cl
                split at cl
                · split at cl
                  · assumption
                  · omega
                · omega
              have y23 : Z5 140 23 = D 140 23 := by
                rw [l1.2.2.1.1 140 23 (by decide), u2a (by decide)]
              have y18b : Z5 140 18 = (n : Int) := by
                rw [l1.2.2.1.1 140 18 (by decide), u2a (by decide), hD2]
              have hpr1 : 0 ≤ D 140 23 * (tkV tp len q4 + 1) := Int.mul_nonneg (by omega) (by omega)
              have hpr2 : D 140 23 * (tkV tp len q4 + 1) ≤ 400 * 10 := Int.mul_le_mul (by omega) (by omega) (by omega) (by omega)
              have e2 : den none (Mean (d + 8)) (some .boolean) tQ_X11_readPiece (93, [some (.ref 140), none], [], 176, zs (u2 Z3 151 n v), u2 J 157 n w, RP p0 p1 p2 p3 p4 p5 p6 p7) = den none (Mean (d + 8)) (some .boolean) tQ_X11_readPiece (114, [some (.ref 140), none], [], 176, zs Z5, u2 J 157 n w, RP p0 p1 p2 p3 p4 p5 p6 p7) := by
                simp (disch := omega) only [k_X11_readPiece_0, k_X11_readPiece_9, k_X11_readPiece_14, k_X11_readPiece_15, k_X11_readPiece_19, k_X11_readPiece_27, k_X11_readPiece_32, k_X11_readPiece_33, k_X11_readPiece_37, k_X11_readPiece_41, k_X11_readPiece_46, k_X11_readPiece_47, k_X11_readPiece_59, k_X11_readPiece_60, k_X11_readPiece_64, k_X11_readPiece_75, k_X11_readPiece_78, k_X11_readPiece_80, k_X11_readPiece_93, k_X11_readPiece_99, k_X11_readPiece_102, k_X11_readPiece_109, k_X11_readPiece_112, k_X11_readPiece_131, k_X11_readPiece_136, k_X11_readPiece_137, k_X11_readPiece_150, k_X11_readPiece_169, k_X11_readPiece_175, k_X11_readPiece_178, k_X11_readPiece_180, k_X11_readPiece_190, k_X11_readPiece_194, k_X11_readPiece_197, k_X11_readPiece_199, k_X11_readPiece_216, k_X11_readPiece_222, k_X11_readPiece_232, k_X11_readPiece_242, k_X11_readPiece_252, li_0, li_1, li_2, li_3, li_4, li_5, li_6, li_9, li_10, li_40, lm_1, lm_2, lm_3, lm_4, zs_ap, i32_add, i32_sub, i32_mul, i32_neg, i32_lt, i32_le, i32_eq, i32_nat, ckn, pka_r, pka_v, if_pos, if_neg, if_true, if_false, x3, l3]
              rw [e2]
              generalize hv4 : tkV tp len q4 = v4 at *
              by_cases c400 : D 140 23 * (v4 + 1) ≤ 400
              · rw [if_pos c400]
                have m1 := PQ_u (PQ_u l1 (a := 152) (j := n) v4 (by omega) (Or.inl (by decide))) (a := 140) (j := 23) (D 140 23 * (v4 + 1)) (by decide) (Or.inl (by decide))
                obtain ⟨Z6, s1, s2⟩ := PQ_scan (d := d + 6) (p0 := p0) (p1 := p1) (p2 := p2) (p3 := p3) (p4 := p4) (p5 := p5) (p6 := p6) (p7 := p7) hl ht m1
                have e3 : den none (Mean (d + 8)) (some .boolean) tQ_X11_readPiece (114, [some (.ref 140), none], [], 176, zs Z5, u2 J 157 n w, RP p0 p1 p2 p3 p4 p5 p6 p7) = den none (Mean (d + 8)) (some .boolean) tQ_X11_readPiece (169, [some (.ref 140), none], [], 176, zs Z6, u2 J 157 n w, RP p0 p1 p2 p3 p4 p5 p6 p7) := by
                  simp (disch := omega) only [k_X11_readPiece_0, k_X11_readPiece_9, k_X11_readPiece_14, k_X11_readPiece_15, k_X11_readPiece_19, k_X11_readPiece_27, k_X11_readPiece_32, k_X11_readPiece_33, k_X11_readPiece_37, k_X11_readPiece_41, k_X11_readPiece_46, k_X11_readPiece_47, k_X11_readPiece_59, k_X11_readPiece_60, k_X11_readPiece_64, k_X11_readPiece_75, k_X11_readPiece_78, k_X11_readPiece_80, k_X11_readPiece_93, k_X11_readPiece_99, k_X11_readPiece_102, k_X11_readPiece_109, k_X11_readPiece_112, k_X11_readPiece_114, k_X11_readPiece_131, k_X11_readPiece_136, k_X11_readPiece_137, k_X11_readPiece_150, k_X11_readPiece_175, k_X11_readPiece_178, k_X11_readPiece_180, k_X11_readPiece_190, k_X11_readPiece_194, k_X11_readPiece_197, k_X11_readPiece_199, k_X11_readPiece_216, k_X11_readPiece_222, k_X11_readPiece_232, k_X11_readPiece_242, k_X11_readPiece_252, li_0, li_1, li_2, li_3, li_4, li_5, li_6, li_9, li_10, li_40, lm_1, lm_2, lm_3, lm_4, zs_ap, i32_add, i32_sub, i32_mul, i32_neg, i32_lt, i32_le, i32_eq, i32_nat, ckn, pka_r, pka_v, if_pos, if_neg, if_true, if_false, y23, l2, li_400, y18b, Int.toNat_natCast, zs_u2, u2a (show 140 ≠ 152 by decide), s2]
                rw [e3]
                have hex2 := PQ_exp (d := d) (p0 := p0) (p1 := p1) (p2 := p2) (p3 := p3) (p4 := p4) (p5 := p5) (p6 := p6) (p7 := p7) hl ht s1 (t := 4) (by decide) (by decide)
                cases ce2 : tkIs tp len (tkB tp len q4) 4
                · rw [if_neg Bool.false_ne_true]
                  obtain ⟨Z', w1, w3⟩ := hex2.2 ce2
                  clear hex2
                  refine PQ_fault s1 w1.1 (by decide) w1.2 ?_
                  simp (disch := omega) only [k_X11_readPiece_0, k_X11_readPiece_9, k_X11_readPiece_14, k_X11_readPiece_15, k_X11_readPiece_19, k_X11_readPiece_27, k_X11_readPiece_32, k_X11_readPiece_33, k_X11_readPiece_37, k_X11_readPiece_41, k_X11_readPiece_46, k_X11_readPiece_47, k_X11_readPiece_59, k_X11_readPiece_60, k_X11_readPiece_64, k_X11_readPiece_75, k_X11_readPiece_78, k_X11_readPiece_80, k_X11_readPiece_93, k_X11_readPiece_99, k_X11_readPiece_102, k_X11_readPiece_109, k_X11_readPiece_112, k_X11_readPiece_114, k_X11_readPiece_131, k_X11_readPiece_136, k_X11_readPiece_137, k_X11_readPiece_150, k_X11_readPiece_169, k_X11_readPiece_175, k_X11_readPiece_178, k_X11_readPiece_180, k_X11_readPiece_190, k_X11_readPiece_194, k_X11_readPiece_197, k_X11_readPiece_199, k_X11_readPiece_216, k_X11_readPiece_222, k_X11_readPiece_232, k_X11_readPiece_242, k_X11_readPiece_252, li_0, li_1, li_2, li_3, li_4, li_5, li_6, li_9, li_10, li_40, lm_1, lm_2, lm_3, lm_4, zs_ap, i32_add, i32_sub, i32_mul, i32_neg, i32_lt, i32_le, i32_eq, i32_nat, ckn, pka_r, pka_v, if_pos, if_neg, if_true, if_false, w3, true_or]
                · rw [if_pos rfl]
                  obtain ⟨Z7, w1, w3⟩ := hex2.1 ce2
                  clear hex2
                  rw [Int.toNat_natCast]
                  have key := pw_loop (d := d + 4) (p0 := p0) (p1 := p1) (p2 := p2) (p3 := p3) (p4 := p4) (p5 := p5) (p6 := p6) (p7 := p7) hl ht (n := n) (S := S) (by omega) hS.2 S 0 _ _ Z7 (by omega) (by rw [u2f (by decide), u2a (by decide), u2a (by decide), hD]) (by rw [u2f (by decide), u2a (by decide), u2a (by decide), hD2]) w1
                  have e4 : den none (Mean (d + 8)) (some .boolean) tQ_X11_readPiece (169, [some (.ref 140), none], [], 176, zs Z6, u2 J 157 n w, RP p0 p1 p2 p3 p4 p5 p6 p7) = den none (Mean (d + 8)) (some .boolean) tQ_X11_readPiece (182, [some (.ref 140), some (.int (i32 ((0 : Nat) : Int)))], [], 176, zs Z7, u2 J 157 n w, RP p0 p1 p2 p3 p4 p5 p6 p7) := by
                    simp (disch := omega) only [k_X11_readPiece_0, k_X11_readPiece_9, k_X11_readPiece_14, k_X11_readPiece_15, k_X11_readPiece_19, k_X11_readPiece_27, k_X11_readPiece_32, k_X11_readPiece_33, k_X11_readPiece_37, k_X11_readPiece_41, k_X11_readPiece_46, k_X11_readPiece_47, k_X11_readPiece_59, k_X11_readPiece_60, k_X11_readPiece_64, k_X11_readPiece_75, k_X11_readPiece_78, k_X11_readPiece_80, k_X11_readPiece_93, k_X11_readPiece_99, k_X11_readPiece_102, k_X11_readPiece_109, k_X11_readPiece_112, k_X11_readPiece_114, k_X11_readPiece_131, k_X11_readPiece_136, k_X11_readPiece_137, k_X11_readPiece_150, k_X11_readPiece_169, k_X11_readPiece_175, k_X11_readPiece_178, k_X11_readPiece_180, k_X11_readPiece_190, k_X11_readPiece_194, k_X11_readPiece_197, k_X11_readPiece_199, k_X11_readPiece_216, k_X11_readPiece_222, k_X11_readPiece_232, k_X11_readPiece_242, k_X11_readPiece_252, li_0, li_1, li_2, li_3, li_4, li_5, li_6, li_9, li_10, li_40, lm_1, lm_2, lm_3, lm_4, zs_ap, i32_add, i32_sub, i32_mul, i32_neg, i32_lt, i32_le, i32_eq, i32_nat, ckn, pka_r, pka_v, if_pos, if_neg, if_true, if_false, w3]
                    rfl
                  rw [e4]
                  exact key
              · rw [if_neg c400]
                obtain ⟨Z', x4, x5⟩ := PQ_wrong (d := d + 7) (p0 := p0) (p1 := p1) (p2 := p2) (p3 := p3) (p4 := p4) (p5 := p5) (p6 := p6) (p7 := p7) l1 2
                refine PQ_fault l1 x4.1 (by decide) x4.2 ?_
                simp (disch := omega) only [k_X11_readPiece_0, k_X11_readPiece_9, k_X11_readPiece_14, k_X11_readPiece_15, k_X11_readPiece_19, k_X11_readPiece_27, k_X11_readPiece_32, k_X11_readPiece_33, k_X11_readPiece_37, k_X11_readPiece_41, k_X11_readPiece_46, k_X11_readPiece_47, k_X11_readPiece_59, k_X11_readPiece_60, k_X11_readPiece_64, k_X11_readPiece_75, k_X11_readPiece_78, k_X11_readPiece_80, k_X11_readPiece_93, k_X11_readPiece_99, k_X11_readPiece_102, k_X11_readPiece_109, k_X11_readPiece_112, k_X11_readPiece_114, k_X11_readPiece_131, k_X11_readPiece_136, k_X11_readPiece_150, k_X11_readPiece_169, k_X11_readPiece_175, k_X11_readPiece_178, k_X11_readPiece_180, k_X11_readPiece_190, k_X11_readPiece_194, k_X11_readPiece_197, k_X11_readPiece_199, k_X11_readPiece_216, k_X11_readPiece_222, k_X11_readPiece_232, k_X11_readPiece_242, k_X11_readPiece_252, li_0, li_1, li_2, li_3, li_4, li_5, li_6, li_9, li_10, li_40, lm_1, lm_2, lm_3, lm_4, zs_ap, i32_add, i32_sub, i32_mul, i32_neg, i32_lt, i32_le, i32_eq, i32_nat, ckn, pka_r, pka_v, if_pos, if_neg, if_true, if_false, y23, l2, li_400, x5, true_or]
            · rw [if_neg cl]
              obtain ⟨Z', l1, l3⟩ := hlk.2 cl
              clear hlk
              refine PQ_fault x1 l1.1 (by decide) l1.2 ?_
              simp (disch := omega) only [k_X11_readPiece_0, k_X11_readPiece_9, k_X11_readPiece_14, k_X11_readPiece_15, k_X11_readPiece_19, k_X11_readPiece_27, k_X11_readPiece_32, k_X11_readPiece_33, k_X11_readPiece_37, k_X11_readPiece_41, k_X11_readPiece_46, k_X11_readPiece_47, k_X11_readPiece_59, k_X11_readPiece_60, k_X11_readPiece_64, k_X11_readPiece_75, k_X11_readPiece_78, k_X11_readPiece_80, k_X11_readPiece_93, k_X11_readPiece_99, k_X11_readPiece_102, k_X11_readPiece_109, k_X11_readPiece_112, k_X11_readPiece_131, k_X11_readPiece_136, k_X11_readPiece_137, k_X11_readPiece_150, k_X11_readPiece_169, k_X11_readPiece_175, k_X11_readPiece_178, k_X11_readPiece_180, k_X11_readPiece_190, k_X11_readPiece_194, k_X11_readPiece_197, k_X11_readPiece_199, k_X11_readPiece_216, k_X11_readPiece_222, k_X11_readPiece_232, k_X11_readPiece_242, k_X11_readPiece_252, li_0, li_1, li_2, li_3, li_4, li_5, li_6, li_9, li_10, li_40, lm_1, lm_2, lm_3, lm_4, zs_ap, i32_add, i32_sub, i32_mul, i32_neg, i32_lt, i32_le, i32_eq, i32_nat, ckn, pka_r, pka_v, if_pos, if_neg, if_true, if_false, x3, l3, true_or]
        · rw [if_neg cn]
          obtain ⟨Z', f1, f3⟩ := hnn.2 cn
          clear hnn
          refine PQ_fault b1 f1.1 (by decide) f1.2 ?_
          simp (disch := omega) only [k_X11_readPiece_0, k_X11_readPiece_9, k_X11_readPiece_14, k_X11_readPiece_15, k_X11_readPiece_19, k_X11_readPiece_27, k_X11_readPiece_32, k_X11_readPiece_33, k_X11_readPiece_37, k_X11_readPiece_41, k_X11_readPiece_46, k_X11_readPiece_47, k_X11_readPiece_59, k_X11_readPiece_60, k_X11_readPiece_64, k_X11_readPiece_75, k_X11_readPiece_78, k_X11_readPiece_93, k_X11_readPiece_99, k_X11_readPiece_102, k_X11_readPiece_109, k_X11_readPiece_112, k_X11_readPiece_114, k_X11_readPiece_131, k_X11_readPiece_136, k_X11_readPiece_137, k_X11_readPiece_150, k_X11_readPiece_169, k_X11_readPiece_175, k_X11_readPiece_178, k_X11_readPiece_180, k_X11_readPiece_190, k_X11_readPiece_194, k_X11_readPiece_197, k_X11_readPiece_199, k_X11_readPiece_216, k_X11_readPiece_222, k_X11_readPiece_232, k_X11_readPiece_242, k_X11_readPiece_252, li_0, li_1, li_2, li_3, li_4, li_5, li_6, li_9, li_10, li_40, lm_1, lm_2, lm_3, lm_4, zs_ap, i32_add, i32_sub, i32_mul, i32_neg, i32_lt, i32_le, i32_eq, i32_nat, ckn, pka_r, pka_v, if_pos, if_neg, if_true, if_false, y17, f3, true_or]
      · rw [if_neg cp]
        obtain ⟨Z', e1, e3⟩ := PQ_wrong (d := d + 7) (p0 := p0) (p1 := p1) (p2 := p2) (p3 := p3) (p4 := p4) (p5 := p5) (p6 := p6) (p7 := p7) a1 3
        refine PQ_fault a1 e1.1 (by decide) e1.2 ?_
        simp (disch := omega) only [k_X11_readPiece_0, k_X11_readPiece_9, k_X11_readPiece_14, k_X11_readPiece_15, k_X11_readPiece_19, k_X11_readPiece_27, k_X11_readPiece_32, k_X11_readPiece_33, k_X11_readPiece_37, k_X11_readPiece_41, k_X11_readPiece_46, k_X11_readPiece_59, k_X11_readPiece_60, k_X11_readPiece_64, k_X11_readPiece_75, k_X11_readPiece_78, k_X11_readPiece_80, k_X11_readPiece_93, k_X11_readPiece_99, k_X11_readPiece_102, k_X11_readPiece_109, k_X11_readPiece_112, k_X11_readPiece_114, k_X11_readPiece_131, k_X11_readPiece_136, k_X11_readPiece_137, k_X11_readPiece_150, k_X11_readPiece_169, k_X11_readPiece_175, k_X11_readPiece_178, k_X11_readPiece_180, k_X11_readPiece_190, k_X11_readPiece_194, k_X11_readPiece_197, k_X11_readPiece_199, k_X11_readPiece_216, k_X11_readPiece_222, k_X11_readPiece_232, k_X11_readPiece_242, k_X11_readPiece_252, li_0, li_1, li_2, li_3, li_4, li_5, li_6, li_9, li_10, li_40, lm_1, lm_2, lm_3, lm_4, zs_ap, i32_add, i32_sub, i32_mul, i32_neg, i32_lt, i32_le, i32_eq, i32_nat, ckn, pka_r, pka_v, if_pos, if_neg, if_true, if_false, h18, a2, k5, hat, e3, true_or]
    · rw [if_neg c1]
      have k5 := hk.2.2.1 c1
      have k6 := hk.1
      clear hk
      obtain ⟨Z', e1, e3⟩ := PQ_wrong (d := d + 7) (p0 := p0) (p1 := p1) (p2 := p2) (p3 := p3) (p4 := p4) (p5 := p5) (p6 := p6) (p7 := p7) a1 1
      refine PQ_fault a1 e1.1 (by decide) e1.2 ?_
      simp (disch := omega) only [k_X11_readPiece_0, k_X11_readPiece_9, k_X11_readPiece_14, k_X11_readPiece_15, k_X11_readPiece_19, k_X11_readPiece_27, k_X11_readPiece_32, k_X11_readPiece_37, k_X11_readPiece_41, k_X11_readPiece_46, k_X11_readPiece_47, k_X11_readPiece_59, k_X11_readPiece_60, k_X11_readPiece_64, k_X11_readPiece_75, k_X11_readPiece_78, k_X11_readPiece_80, k_X11_readPiece_93, k_X11_readPiece_99, k_X11_readPiece_102, k_X11_readPiece_109, k_X11_readPiece_112, k_X11_readPiece_114, k_X11_readPiece_131, k_X11_readPiece_136, k_X11_readPiece_137, k_X11_readPiece_150, k_X11_readPiece_169, k_X11_readPiece_175, k_X11_readPiece_178, k_X11_readPiece_180, k_X11_readPiece_190, k_X11_readPiece_194, k_X11_readPiece_197, k_X11_readPiece_199, k_X11_readPiece_216, k_X11_readPiece_222, k_X11_readPiece_232, k_X11_readPiece_242, k_X11_readPiece_252, li_0, li_1, li_2, li_3, li_4, li_5, li_6, li_9, li_10, li_40, lm_1, lm_2, lm_3, lm_4, zs_ap, i32_add, i32_sub, i32_mul, i32_neg, i32_lt, i32_le, i32_eq, i32_nat, ckn, pka_r, pka_v, if_pos, if_neg, if_true, if_false, h18, a2, e3, true_or]
end
