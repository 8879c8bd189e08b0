/-! WORDS, and THE MODEL'S is, isSign, wrong, look, number, expect, signed, name, pieceAt -/
def wlen (t : Nat) : Nat := pLEN.getD (t - 1) 0
def wch (t i : Nat) : Nat := ((pSTR.getD (t - 1) []).getD i 0).toInt.toNat
def tkIs (tp : Nat → Nat) (len q t : Nat) : Bool := (decide (tkK tp len q = 1) && decide (tkB tp len q - tkF tp len q = wlen t)) && !anyN (fun i => !decide (tp (tkF tp len q + i) = wch t i)) (wlen t)
theorem wok {t : Nat} (h : t < 17) (h0 : 0 < t) : (Nat.blt 0 t && Nat.blt t 17) = true ∧ (wlen t ≤ 6 ∧ ∀ i : Nat, i < wlen t → (pSTR.getD (t - 1) []).getD i 0 = i32 (wch t i : Int) ∧ wch t i < 128) := by
  have : ∀ t : Nat, t < 17 → 0 < t → (Nat.blt 0 t && Nat.blt t 17) = true ∧ (wlen t ≤ 6 ∧ ∀ i : Nat, i < wlen t → (pSTR.getD (t - 1) []).getD i 0 = i32 (wch t i : Int) ∧ wch t i < 128) := by decide
  exact this t h h0
theorem sLen {d t : Nat} {w : pW} (h : t < 17) (h0 : 0 < t) : Mean (d + 6) 240 [.retAddr t] w = some (some (.int (i32 (wlen t : Int))), w) := by
  have e : Mean (d + 6) 240 [.retAddr t] w = bif Nat.ble 5 (d + 5) then pslen [.retAddr t] w else none := rfl
  rw [e, Nat.ble_eq_true_of_le (by omega), cond_true]
  unfold pslen
  simp only [(wok h h0).1, cond_true]
  rfl
theorem sChr {d t i : Nat} {w : pW} (h : t < 17) (h0 : 0 < t) (hi : i < wlen t) : Mean (d + 6) 241 [.retAddr t, .int (i32 (i : Int))] w = some (some (.int (i32 (wch t i : Int))), w) := by
  have e : Mean (d + 6) 241 [.retAddr t, .int (i32 (i : Int))] w = bif Nat.ble 5 (d + 5) then pschr [.retAddr t, .int (i32 (i : Int))] w else none := rfl
  obtain ⟨w1, w2, w3⟩ := wok h h0
  have hi2 : i < pLEN.getD (t - 1) 0 := hi
  have hn : (i32 (i : Int)).toNatClampNeg = i := by rw [i32_nat (by omega), Int.toNat_natCast]
  have hl : ¬ i32 (i : Int) < 0 := by
    rw [li_0, i32_lt (by omega) (by omega)]
    omega
  rw [e, Nat.ble_eq_true_of_le (by omega), cond_true]
  unfold pschr
  simp only [w1, cond_true]
  rw [if_neg (fun q => q.elim hl (fun q => by rw [hn] at q; omega)), hn, (w3 i hi).1]
section
variable {d : Nat} {J : Nat → Nat → Int64} {Z : Nat → Nat → Int} {p0 p1 p2 p3 p4 p5 p6 p7 : Nat} {tp : Nat → Nat} {len q : Nat}
theorem tk_le (hl : q ≤ len) : (q ≤ tkF tp len q ∧ tkF tp len q ≤ len) ∧ (tkF tp len q ≤ tkB tp len q ∧ tkB tp len q ≤ len) ∧ (tkK tp len q ≠ 0 → tkF tp len q < len ∧ tkF tp len q < tkB tp len q) := by
  have h1 := rt_le tp len isSp (len - q) q rfl
  have h2 := h1.2 hl
  have e : tkF tp len q = rt tp len isSp q := rfl
  rw [← e] at h1 h2
  generalize hf : tkF tp len q = f at *
  have hB : tkB tp len q = if len ≤ f then f else if isSm (tp f) then rt tp len isSm f else if isDg (tp f) then rt tp len isDg f else f + 1 := by
    unfold tkB
    rw [hf]
  have hK : len ≤ f → tkK tp len q = 0 := fun c => by
    unfold tkK
    rw [hf, if_pos c]
  refine ⟨⟨h1.1, h2⟩, ?_, fun hk => ?_⟩
  · rw [hB]
    split
    · omega
    · have a1 := rt_le tp len isSm (len - f) f rfl
      have a2 := rt_le tp len isDg (len - f) f rfl
      split
      · exact ⟨a1.1, a1.2 h2⟩
      · split
        · exact ⟨a2.1, a2.2 h2⟩
        · omega
  · have c : f < len := by
      by_cases c : f < len
      · exact c
      · exact absurd (hK (by omega)) hk
    refine ⟨c, ?_⟩
    rw [hB, if_neg (by omega)]
    split
    · rename_i cs
      rw [rt_y c cs]
      have := rt_le tp len isSm (len - (f + 1)) (f + 1) rfl
      omega
    · split
      · rename_i cd
        rw [rt_y c cd]
        have := rt_le tp len isDg (len - (f + 1)) (f + 1) rfl
        omega
      · omega
theorem g_is (hl : len ≤ 700) (hq : q ≤ len) (ht : TBz tp Z) (hk : TK tp len q Z) {t : Nat} (h17 : t < 17) (h00 : 0 < t) : Mean (d + 7) 145 [.ref 140, .retAddr t] (176, zs Z, J, RP p0 p1 p2 p3 p4 p5 p6 p7) = some (some (.int (i32 (bB (tkIs tp len q t)))), (176, zs Z, J, RP p0 p1 p2 p3 p4 p5 p6 p7)) := by
  obtain ⟨k1, k2, k3, k4, k5⟩ := hk
  obtain ⟨⟨a1, a2⟩, ⟨a3, a4⟩, a5⟩ := tk_le (tp := tp) hq
  obtain ⟨w1, w2, w3⟩ := wok h17 h00
  have hKm : (mh (tkK tp len q) = 1) = (tkK tp len q = 1) := by
    unfold mh
    apply propext
    split
    · omega
    · split <;> omega
  have hmb : 0 ≤ mh (tkK tp len q) ∧ mh (tkK tp len q) ≤ 4 := by
    unfold mh
    split
    · omega
    · split <;> omega
  have e0 : Mean (d + 7) 145 [.ref 140, .retAddr t] (176, zs Z, J, RP p0 p1 p2 p3 p4 p5 p6 p7) = den none (Mean (d + 6)) (some .boolean) tQ_X11_is (32, [some (.ref 140), some (.retAddr t), some (.int (i32 (bB (decide (tkK tp len q = 1) && decide (tkB tp len q - tkF tp len q = wlen t))))), some (.int (i32 ((0 : Nat) : Int)))], [], 176, zs Z, J, RP p0 p1 p2 p3 p4 p5 p6 p7) := by
    rw [e_X11_is]
    by_cases c1 : tkK tp len q = 1
    · by_cases c2 : tkB tp len q - tkF tp len q = wlen t
      · rw [decide_eq_true c1, decide_eq_true c2]
        simp (disch := omega) only [k_X11_is_0, k_X11_is_8, k_X11_is_21, k_X11_is_24, k_X11_is_28, k_X11_is_29, k_X11_is_37, k_X11_is_40, k_X11_is_44, k_X11_is_55, k_X11_is_60, k_X11_is_63, k_X11_is_67, k_X11_is_68, k_X11_is_75, li_0, li_1, li_2, li_3, li_4, li_5, li_6, li_9, li_10, li_40, lm_1, lm_2, lm_3, lm_4, zs_ap, i32_add, i32_sub, i32_mul, i32_neg, i32_lt, i32_le, i32_eq, i32_nat, ckn, pka_r, pka_v, if_pos, if_neg, if_true, if_false, w1, k4, hKm, sLen h17 h00, k3, k2]
        rfl
      · rw [decide_eq_true c1, decide_eq_false c2]
        simp (disch := omega) only [k_X11_is_0, k_X11_is_8, k_X11_is_21, k_X11_is_24, k_X11_is_28, k_X11_is_29, k_X11_is_37, k_X11_is_40, k_X11_is_44, k_X11_is_55, k_X11_is_60, k_X11_is_63, k_X11_is_67, k_X11_is_68, k_X11_is_75, li_0, li_1, li_2, li_3, li_4, li_5, li_6, li_9, li_10, li_40, lm_1, lm_2, lm_3, lm_4, zs_ap, i32_add, i32_sub, i32_mul, i32_neg, i32_lt, i32_le, i32_eq, i32_nat, ckn, pka_r, pka_v, if_pos, if_neg, if_true, if_false, w1, k4, hKm, sLen h17 h00, k3, k2]
        rfl
    · rw [decide_eq_false c1]
      simp (disch := omega) only [k_X11_is_0, k_X11_is_8, k_X11_is_21, k_X11_is_24, k_X11_is_28, k_X11_is_29, k_X11_is_37, k_X11_is_40, k_X11_is_44, k_X11_is_55, k_X11_is_60, k_X11_is_63, k_X11_is_67, k_X11_is_68, k_X11_is_75, li_0, li_1, li_2, li_3, li_4, li_5, li_6, li_9, li_10, li_40, lm_1, lm_2, lm_3, lm_4, zs_ap, i32_add, i32_sub, i32_mul, i32_neg, i32_lt, i32_le, i32_eq, i32_nat, ckn, pka_r, pka_v, if_pos, if_neg, if_true, if_false, w1, k4, hKm, sLen h17 h00]
      rfl
  rw [e0]
  unfold tkIs
  cases cb : (decide (tkK tp len q = 1) && decide (tkB tp len q - tkF tp len q = wlen t))
  · rw [Bool.false_and, k_X11_is_32 (hs := w1)]
    by_cases c0 : wlen t = 0
    · simp (disch := omega) only [k_X11_is_0, k_X11_is_8, k_X11_is_21, k_X11_is_24, k_X11_is_28, k_X11_is_29, k_X11_is_37, k_X11_is_40, k_X11_is_44, k_X11_is_55, k_X11_is_60, k_X11_is_63, k_X11_is_67, k_X11_is_68, k_X11_is_75, li_0, li_1, li_2, li_3, li_4, li_5, li_6, li_9, li_10, li_40, lm_1, lm_2, lm_3, lm_4, zs_ap, i32_add, i32_sub, i32_mul, i32_neg, i32_lt, i32_le, i32_eq, i32_nat, ckn, pka_r, pka_v, if_pos, if_neg, if_true, if_false, w1, sLen h17 h00, c0, bBf, true_or]
    · simp (disch := omega) only [k_X11_is_0, k_X11_is_8, k_X11_is_21, k_X11_is_24, k_X11_is_28, k_X11_is_29, k_X11_is_37, k_X11_is_40, k_X11_is_44, k_X11_is_55, k_X11_is_60, k_X11_is_63, k_X11_is_67, k_X11_is_68, k_X11_is_75, li_0, li_1, li_2, li_3, li_4, li_5, li_6, li_9, li_10, li_40, lm_1, lm_2, lm_3, lm_4, zs_ap, i32_add, i32_sub, i32_mul, i32_neg, i32_lt, i32_le, i32_eq, i32_nat, ckn, pka_r, pka_v, if_pos, if_neg, if_true, if_false, w1, sLen h17 h00, bBf, true_or]
  · rw [Bool.true_and]
    rw [Bool.and_eq_true, decide_eq_true_iff, decide_eq_true_iff] at cb
    have key := srch (fun i => den none (Mean (d + 6)) (some .boolean) tQ_X11_is (32, [some (.ref 140), some (.retAddr t), some (.int (i32 1)), some (.int (i32 (i : Int)))], [], 176, zs Z, J, RP p0 p1 p2 p3 p4 p5 p6 p7)) (fun i => !decide (tp (tkF tp len q + i) = wch t i)) (wlen t) (fun _ => some (some (.int (i32 0)), (176, zs Z, J, RP p0 p1 p2 p3 p4 p5 p6 p7))) (fun i hi hp => ?_) (fun i hi hp => ?_)
    · refine Eq.trans key ?_
      cases ca : anyN (fun i => !decide (tp (tkF tp len q + i) = wch t i)) (wlen t)
      · rw [if_neg Bool.false_ne_true, k_X11_is_32 (hs := w1)]
        simp (disch := omega) only [k_X11_is_0, k_X11_is_8, k_X11_is_21, k_X11_is_24, k_X11_is_28, k_X11_is_29, k_X11_is_37, k_X11_is_40, k_X11_is_44, k_X11_is_55, k_X11_is_60, k_X11_is_63, k_X11_is_67, k_X11_is_68, k_X11_is_75, li_0, li_1, li_2, li_3, li_4, li_5, li_6, li_9, li_10, li_40, lm_1, lm_2, lm_3, lm_4, zs_ap, i32_add, i32_sub, i32_mul, i32_neg, i32_lt, i32_le, i32_eq, i32_nat, ckn, pka_r, pka_v, if_pos, if_neg, if_true, if_false, w1, sLen h17 h00, Bool.not_false, bBt, or_true]
      · rw [if_pos rfl]
        rfl
    · have hne : ¬ tp (tkF tp len q + i) = wch t i := by simpa using hp
      have hb := ht (tkF tp len q + i) (by omega)
      have hc := (w3 i hi).2
      rw [k_X11_is_32 (hs := w1)]
      simp (disch := omega) only [k_X11_is_0, k_X11_is_8, k_X11_is_21, k_X11_is_24, k_X11_is_28, k_X11_is_29, k_X11_is_37, k_X11_is_40, k_X11_is_44, k_X11_is_55, k_X11_is_60, k_X11_is_63, k_X11_is_67, k_X11_is_68, k_X11_is_75, li_0, li_1, li_2, li_3, li_4, li_5, li_6, li_9, li_10, li_40, lm_1, lm_2, lm_3, lm_4, zs_ap, i32_add, i32_sub, i32_mul, i32_neg, i32_lt, i32_le, i32_eq, i32_nat, ckn, pka_r, pka_v, if_pos, if_neg, if_true, if_false, w1, sLen h17 h00, k2, show ((tkF tp len q : Int) + (i : Int)).toNat = tkF tp len q + i by omega, sChr h17 h00 hi]
      rw [k_X11_is_32 (hs := w1)]
      by_cases c0 : wlen t ≤ i + 1
      · simp (disch := omega) only [k_X11_is_0, k_X11_is_8, k_X11_is_21, k_X11_is_24, k_X11_is_28, k_X11_is_29, k_X11_is_37, k_X11_is_40, k_X11_is_44, k_X11_is_55, k_X11_is_60, k_X11_is_63, k_X11_is_67, k_X11_is_68, k_X11_is_75, li_0, li_1, li_2, li_3, li_4, li_5, li_6, li_9, li_10, li_40, lm_1, lm_2, lm_3, lm_4, zs_ap, i32_add, i32_sub, i32_mul, i32_neg, i32_lt, i32_le, i32_eq, i32_nat, ckn, pka_r, pka_v, if_pos, if_neg, if_true, if_false, w1, sLen h17 h00, true_or]
      · simp (disch := omega) only [k_X11_is_0, k_X11_is_8, k_X11_is_21, k_X11_is_24, k_X11_is_28, k_X11_is_29, k_X11_is_37, k_X11_is_40, k_X11_is_44, k_X11_is_55, k_X11_is_60, k_X11_is_63, k_X11_is_67, k_X11_is_68, k_X11_is_75, li_0, li_1, li_2, li_3, li_4, li_5, li_6, li_9, li_10, li_40, lm_1, lm_2, lm_3, lm_4, zs_ap, i32_add, i32_sub, i32_mul, i32_neg, i32_lt, i32_le, i32_eq, i32_nat, ckn, pka_r, pka_v, if_pos, if_neg, if_true, if_false, w1, sLen h17 h00, true_or]
    · have heq : tp (tkF tp len q + i) = wch t i := by simpa using hp
      have hb := ht (tkF tp len q + i) (by omega)
      have hc := (w3 i hi).2
      rw [k_X11_is_32 (hs := w1)]
      simp (disch := omega) only [k_X11_is_0, k_X11_is_8, k_X11_is_21, k_X11_is_24, k_X11_is_28, k_X11_is_29, k_X11_is_37, k_X11_is_40, k_X11_is_44, k_X11_is_55, k_X11_is_60, k_X11_is_63, k_X11_is_67, k_X11_is_68, k_X11_is_75, li_0, li_1, li_2, li_3, li_4, li_5, li_6, li_9, li_10, li_40, lm_1, lm_2, lm_3, lm_4, zs_ap, i32_add, i32_sub, i32_mul, i32_neg, i32_lt, i32_le, i32_eq, i32_nat, ckn, pka_r, pka_v, if_pos, if_neg, if_true, if_false, w1, sLen h17 h00, k2, show ((tkF tp len q : Int) + (i : Int)).toNat = tkF tp len q + i by omega, sChr h17 h00 hi]
      rfl
end
