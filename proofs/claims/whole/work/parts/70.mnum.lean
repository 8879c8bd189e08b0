/-! THE MODEL'S wrong, isSign, look, number, expect, signed -/
theorem rt_all {tp : Nat → Nat} {len : Nat} {p : Nat → Bool} : ∀ (n q : Nat), len - q = n → ∀ x : Nat, q ≤ x → x < rt tp len p q → p (tp x) = true
  | 0, q, h, x, h1, h2 => by
    rw [rt_n (by omega)] at h2
    omega
  | n + 1, q, h, x, h1, h2 => by
    by_cases c : q < len ∧ p (tp q) = true
    · rw [rt_y c.1 c.2] at h2
      by_cases e : x = q
      · rw [e]
        exact c.2
      · exact rt_all n (q + 1) (by omega) x (by omega) h2
    · rw [rt_n c] at h2
      omega
theorem vF_b {tp : Nat → Nat} {f : Nat} : ∀ n : Nat, (∀ x : Nat, x < n → isDg (tp (f + x)) = true) → 0 ≤ vF tp f n ∧ vF tp f n < 10 ^ n
  | 0, _ => by unfold vF; omega
  | n + 1, h => by
    have h1 := vF_b n (fun x hx => h x (by omega))
    have h2 := of_decide_eq_true (h n (by omega))
    show 0 ≤ 10 * vF tp f n + ((tp (f + n) : Int) - 48) ∧ 10 * vF tp f n + ((tp (f + n) : Int) - 48) < 10 ^ (n + 1)
    rw [Int.pow_succ]
    omega
section
variable {d : Nat} {J : Nat → Nat → Int64} {Z : Nat → Nat → Int} {p0 p1 p2 p3 p4 p5 p6 p7 : Nat} {tp : Nat → Nat} {len q : Nat}
theorem tk_num (hq : q ≤ len) (h : tkK tp len q = 2) : (0 ≤ tkV tp len q ∧ tkV tp len q ≤ 9999) ∧ tkB tp len q - tkF tp len q ≤ 4 := by
  have hle := tk_le (tp := tp) hq
  unfold tkV
  unfold tkK at h
  split at h
  · omega
  · rename_i c0
    split at h
    · split at h <;> omega
    · rename_i c1
      split at h
      · rename_i c2
        split at h
        · rename_i c4
          have hB : tkB tp len q = rt tp len isDg (tkF tp len q) := by
            unfold tkB
            rw [if_neg c0, if_neg c1, if_pos c2]
          have hv := vF_b (tp := tp) (f := tkF tp len q) (tkB tp len q - tkF tp len q) (fun x hx => by
            refine rt_all (tp := tp) (len := len) (len - tkF tp len q) (tkF tp len q) rfl _ (by omega) ?_
            rw [← hB]
            omega)
          refine ⟨?_, c4⟩
          have h10 : (10 : Int) ^ (tkB tp len q - tkF tp len q) ≤ 10 ^ 4 := by
            have : (10 : Nat) ^ (tkB tp len q - tkF tp len q) ≤ 10 ^ 4 := Nat.pow_le_pow_right (by omega) c4
            exact_mod_cast this
          have : (10 : Int) ^ 4 = 10000 := rfl
          omega
        · omega
      · split at h
        · omega
        · split at h <;> omega
theorem tk_semi : (tkK tp len q = 3 → tp (tkF tp len q) = 59) ∧ (tkK tp len q = 4 → tp (tkF tp len q) = 45) := by
  unfold tkK
  split
  · omega
  · split
    · split <;> omega
    · split
      · split <;> omega
      · split
        · omega
        · split <;> omega
theorem tk_K5 : tkK tp len q ≤ 5 := by
  unfold tkK
  split
  · omega
  · split
    · split <;> omega
    · split
      · split <;> omega
      · split
        · omega
        · split <;> omega
theorem g_wrong {k : Int} {pl : Nat} (h3 : Z 140 3 = (pl : Int)) : ∃ Z' : Nat → Nat → Int, FX [7, 8] Z Z' ∧ (Z' 140 7 = k ∧ Z' 140 8 = (pl : Int)) ∧ Mean (d + 1) 140 [.ref 140, .int (i32 k)] (176, zs Z, J, RP p0 p1 p2 p3 p4 p5 p6 p7) = some (some (.int (i32 0)), (176, zs Z', J, RP p0 p1 p2 p3 p4 p5 p6 p7)) := by
  refine ⟨u2 (u2 Z 140 7 k) 140 8 (pl : Int), FX_u (FX_u FX_rfl (by decide)) (by decide), ⟨by rw [u2f (by decide), u2s], u2s⟩, ?_⟩
  rw [e_X11_wrong]
  simp (disch := omega) only [k_X11_wrong_0, li_0, li_1, li_2, li_3, li_4, li_5, li_6, li_9, li_10, li_40, lm_1, lm_2, lm_3, lm_4, zs_ap, i32_add, i32_sub, i32_mul, i32_neg, i32_lt, i32_le, i32_eq, i32_nat, ckn, pka_r, pka_v, if_pos, if_neg, if_true, if_false, zs_u2, u2f (show 3 ≠ 7 by decide), h3, true_or]
theorem g_isSign (hl : len ≤ 700) (hq : q ≤ len) (ht : TBz tp Z) (hk : TK tp len q Z) {c : Nat} (hc : c = 59 ∨ c = 45) : Mean (d + 1) 146 [.ref 140, .int (i32 (c : Int))] (176, zs Z, J, RP p0 p1 p2 p3 p4 p5 p6 p7) = some (some (.int (i32 (bB (decide (tkK tp len q = if c = 59 then 3 else 4))))), (176, zs Z, J, RP p0 p1 p2 p3 p4 p5 p6 p7)) := by
  obtain ⟨k1, k2, k3, k4, k5⟩ := hk
  obtain ⟨⟨a1, a2⟩, ⟨a3, a4⟩, a5⟩ := tk_le (tp := tp) hq
  have hs := tk_semi (tp := tp) (len := len) (q := q)
  have h5 := tk_K5 (tp := tp) (len := len) (q := q)
  have hmh : (tkK tp len q = 3 ∨ tkK tp len q = 4 → mh (tkK tp len q) = 3) ∧ (¬ (tkK tp len q = 3 ∨ tkK tp len q = 4) → mh (tkK tp len q) ≠ 3) ∧ (0 ≤ mh (tkK tp len q) ∧ mh (tkK tp len q) ≤ 4) := by
    unfold mh
    split
    · omega
    · split <;> omega
  rw [e_X11_isSign]
  by_cases c3 : tkK tp len q = 3
  · have hb := ht (tkF tp len q) (by omega)
    rcases hc with hc | hc
    · rw [decide_eq_true (by rw [if_pos hc]; exact c3)]
      simp (disch := omega) only [k_X11_isSign_0, k_X11_isSign_8, k_X11_isSign_17, k_X11_isSign_21, k_X11_isSign_25, k_X11_isSign_26, li_0, li_1, li_2, li_3, li_4, li_5, li_6, li_9, li_10, li_40, lm_1, lm_2, lm_3, lm_4, zs_ap, i32_add, i32_sub, i32_mul, i32_neg, i32_lt, i32_le, i32_eq, i32_nat, ckn, pka_r, pka_v, if_pos, if_neg, if_true, if_false, k4, k2, Int.toNat_natCast, bBt, or_true]
    · rw [decide_eq_false (by rw [if_neg (by omega)]; omega)]
      simp (disch := omega) only [k_X11_isSign_0, k_X11_isSign_8, k_X11_isSign_17, k_X11_isSign_21, k_X11_isSign_25, k_X11_isSign_26, li_0, li_1, li_2, li_3, li_4, li_5, li_6, li_9, li_10, li_40, lm_1, lm_2, lm_3, lm_4, zs_ap, i32_add, i32_sub, i32_mul, i32_neg, i32_lt, i32_le, i32_eq, i32_nat, ckn, pka_r, pka_v, if_pos, if_neg, if_true, if_false, k4, k2, Int.toNat_natCast, bBf, true_or]
  · by_cases c4 : tkK tp len q = 4
    · have hb := ht (tkF tp len q) (by omega)
      rcases hc with hc | hc
      · rw [decide_eq_false (by rw [if_pos hc]; omega)]
        simp (disch := omega) only [k_X11_isSign_0, k_X11_isSign_8, k_X11_isSign_17, k_X11_isSign_21, k_X11_isSign_25, k_X11_isSign_26, li_0, li_1, li_2, li_3, li_4, li_5, li_6, li_9, li_10, li_40, lm_1, lm_2, lm_3, lm_4, zs_ap, i32_add, i32_sub, i32_mul, i32_neg, i32_lt, i32_le, i32_eq, i32_nat, ckn, pka_r, pka_v, if_pos, if_neg, if_true, if_false, k4, k2, Int.toNat_natCast, bBf, true_or]
      · rw [decide_eq_true (by rw [if_neg (by omega)]; omega)]
        simp (disch := omega) only [k_X11_isSign_0, k_X11_isSign_8, k_X11_isSign_17, k_X11_isSign_21, k_X11_isSign_25, k_X11_isSign_26, li_0, li_1, li_2, li_3, li_4, li_5, li_6, li_9, li_10, li_40, lm_1, lm_2, lm_3, lm_4, zs_ap, i32_add, i32_sub, i32_mul, i32_neg, i32_lt, i32_le, i32_eq, i32_nat, ckn, pka_r, pka_v, if_pos, if_neg, if_true, if_false, k4, k2, Int.toNat_natCast, bBt, or_true]
    · rw [decide_eq_false (by split <;> omega)]
      simp (disch := omega) only [k_X11_isSign_0, k_X11_isSign_8, k_X11_isSign_17, k_X11_isSign_21, k_X11_isSign_25, k_X11_isSign_26, li_0, li_1, li_2, li_3, li_4, li_5, li_6, li_9, li_10, li_40, lm_1, lm_2, lm_3, lm_4, zs_ap, i32_add, i32_sub, i32_mul, i32_neg, i32_lt, i32_le, i32_eq, i32_nat, ckn, pka_r, pka_v, if_pos, if_neg, if_true, if_false, k4, bBf, true_or]
/-- what is wrong with a TOKEN that is to be a number: 0 nothing -/
def eNum (tp : Nat → Nat) (len q : Nat) (lo hi : Int) : Int := if tkK tp len q = 2 then (if lo ≤ tkV tp len q ∧ tkV tp len q ≤ hi then 0 else 2) else 1
theorem g_look (hq : q ≤ len) (hk : TK tp len q Z) {lo hi : Int} (h1 : -10000 ≤ lo ∧ lo ≤ 10000) (h2 : -10000 ≤ hi ∧ hi ≤ 10000) : (eNum tp len q lo hi = 0 → ∃ Z' : Nat → Nat → Int, FX [9] Z Z' ∧ Z' 140 9 = tkV tp len q ∧ Mean (d + 2) 147 [.ref 140, .int (i32 lo), .int (i32 hi)] (176, zs Z, J, RP p0 p1 p2 p3 p4 p5 p6 p7) = some (some (.int (i32 1)), (176, zs Z', J, RP p0 p1 p2 p3 p4 p5 p6 p7))) ∧ (eNum tp len q lo hi ≠ 0 → ∃ Z' : Nat → Nat → Int, FX [7, 8] Z Z' ∧ (Z' 140 7 = eNum tp len q lo hi ∧ Z' 140 8 = (tkF tp len q : Int)) ∧ Mean (d + 2) 147 [.ref 140, .int (i32 lo), .int (i32 hi)] (176, zs Z, J, RP p0 p1 p2 p3 p4 p5 p6 p7) = some (some (.int (i32 0)), (176, zs Z', J, RP p0 p1 p2 p3 p4 p5 p6 p7))) := by
  obtain ⟨k1, k2, k3, k4, k5⟩ := hk
  have hmh : (tkK tp len q = 2 → mh (tkK tp len q) = 2) ∧ (¬ (tkK tp len q = 2) → mh (tkK tp len q) ≠ 2) ∧ (0 ≤ mh (tkK tp len q) ∧ mh (tkK tp len q) ≤ 4) := by
    unfold mh
    split
    · omega
    · split <;> omega
  unfold eNum
  rw [e_X11_look]
  by_cases c2 : tkK tp len q = 2
  · have hv := tk_num hq c2
    have h6 := k5 c2
    rw [if_pos c2]
    by_cases cr : lo ≤ tkV tp len q ∧ tkV tp len q ≤ hi
    · rw [if_pos cr]
      refine ⟨fun _ => ⟨u2 Z 140 9 (tkV tp len q), FX_u FX_rfl (by decide), u2s, ?_⟩, fun q => absurd rfl q⟩
      simp (disch := omega) only [k_X11_look_0, k_X11_look_8, k_X11_look_13, k_X11_look_14, k_X11_look_26, k_X11_look_29, k_X11_look_34, k_X11_look_35, li_0, li_1, li_2, li_3, li_4, li_5, li_6, li_9, li_10, li_40, lm_1, lm_2, lm_3, lm_4, zs_ap, i32_add, i32_sub, i32_mul, i32_neg, i32_lt, i32_le, i32_eq, i32_nat, ckn, pka_r, pka_v, if_pos, if_neg, if_true, if_false, k4, h6, i32_to64, s_inZ, bI_t, bI_f, zs_u2, or_true]
    · rw [if_neg cr]
      refine ⟨fun q => absurd q (by omega), fun _ => ?_⟩
      obtain ⟨Z', e1, e2, e3⟩ := g_wrong (d := d) (J := J) (p0 := p0) (p1 := p1) (p2 := p2) (p3 := p3) (p4 := p4) (p5 := p5) (p6 := p6) (p7 := p7) (k := 2) k2
      refine ⟨Z', e1, e2, ?_⟩
      simp (disch := omega) only [k_X11_look_0, k_X11_look_8, k_X11_look_13, k_X11_look_14, k_X11_look_26, k_X11_look_29, k_X11_look_34, k_X11_look_35, li_0, li_1, li_2, li_3, li_4, li_5, li_6, li_9, li_10, li_40, lm_1, lm_2, lm_3, lm_4, zs_ap, i32_add, i32_sub, i32_mul, i32_neg, i32_lt, i32_le, i32_eq, i32_nat, ckn, pka_r, pka_v, if_pos, if_neg, if_true, if_false, k4, h6, i32_to64, s_inZ, bI_t, bI_f, e3, true_or]
  · rw [if_neg c2]
    refine ⟨fun q => absurd q (by omega), fun _ => ?_⟩
    obtain ⟨Z', e1, e2, e3⟩ := g_wrong (d := d) (J := J) (p0 := p0) (p1 := p1) (p2 := p2) (p3 := p3) (p4 := p4) (p5 := p5) (p6 := p6) (p7 := p7) (k := 1) k2
    refine ⟨Z', e1, e2, ?_⟩
    simp (disch := omega) only [k_X11_look_0, k_X11_look_8, k_X11_look_13, k_X11_look_14, k_X11_look_26, k_X11_look_29, k_X11_look_34, k_X11_look_35, li_0, li_1, li_2, li_3, li_4, li_5, li_6, li_9, li_10, li_40, lm_1, lm_2, lm_3, lm_4, zs_ap, i32_add, i32_sub, i32_mul, i32_neg, i32_lt, i32_le, i32_eq, i32_nat, ckn, pka_r, pka_v, if_pos, if_neg, if_true, if_false, k4, e3, true_or]
theorem TK_fr {l : List Nat} {Z' : Nat → Nat → Int} (hk : TK tp len q Z) (hx : FX l Z Z') (hl : 2 ∉ l ∧ 3 ∉ l ∧ 4 ∉ l ∧ 5 ∉ l ∧ 6 ∉ l) : TK tp len q Z' := by
  unfold TK
  rw [hx.2 2 hl.1, hx.2 3 hl.2.1, hx.2 4 hl.2.2.1, hx.2 5 hl.2.2.2.1, hx.2 6 hl.2.2.2.2]
  exact hk
theorem FX_w {l l' : List Nat} {Z Z' : Nat → Nat → Int} (h : FX l Z Z') (hs : ∀ j : Nat, j ∈ l → j ∈ l') : FX l' Z Z' := ⟨h.1, fun j hj => h.2 j (fun q => hj (hs j q))⟩
/-- scanning on from a TOKEN -/
theorem g_next2 (hl : len ≤ 700) (hq : q ≤ len) (ht : TBz tp Z) (hk : TK tp len q Z) : ∃ Z' : Nat → Nat → Int, FX [3, 4, 5, 6] Z Z' ∧ TK tp len (tkB tp len q) Z' ∧ Mean (d + 2) 144 [.ref 140] (176, zs Z, J, RP p0 p1 p2 p3 p4 p5 p6 p7) = some (none, (176, zs Z', J, RP p0 p1 p2 p3 p4 p5 p6 p7)) := g_scan hl ht hk.1 hk.2.2.1 (tk_le hq).2.1.2
theorem g_number (hl : len ≤ 700) (hq : q ≤ len) (ht : TBz tp Z) (hk : TK tp len q Z) {lo hi : Int} (h1 : -10000 ≤ lo ∧ lo ≤ 10000) (h2 : -10000 ≤ hi ∧ hi ≤ 10000) : (eNum tp len q lo hi = 0 → ∃ Z' : Nat → Nat → Int, FX [3, 4, 5, 6, 9] Z Z' ∧ TK tp len (tkB tp len q) Z' ∧ Z' 140 9 = tkV tp len q ∧ Mean (d + 3) 148 [.ref 140, .int (i32 lo), .int (i32 hi)] (176, zs Z, J, RP p0 p1 p2 p3 p4 p5 p6 p7) = some (some (.int (i32 1)), (176, zs Z', J, RP p0 p1 p2 p3 p4 p5 p6 p7))) ∧ (eNum tp len q lo hi ≠ 0 → ∃ Z' : Nat → Nat → Int, FX [7, 8] Z Z' ∧ (Z' 140 7 = eNum tp len q lo hi ∧ Z' 140 8 = (tkF tp len q : Int)) ∧ Mean (d + 3) 148 [.ref 140, .int (i32 lo), .int (i32 hi)] (176, zs Z, J, RP p0 p1 p2 p3 p4 p5 p6 p7) = some (some (.int (i32 0)), (176, zs Z', J, RP p0 p1 p2 p3 p4 p5 p6 p7))) := by
  have hlk := g_look (d := d) (J := J) (p0 := p0) (p1 := p1) (p2 := p2) (p3 := p3) (p4 := p4) (p5 := p5) (p6 := p6) (p7 := p7) hq hk h1 h2
  constructor
  · intro h
    obtain ⟨Z1, a1, a2, a3⟩ := hlk.1 h
    obtain ⟨Z2, b1, b2, b3⟩ := g_next2 (d := d) (J := J) (p0 := p0) (p1 := p1) (p2 := p2) (p3 := p3) (p4 := p4) (p5 := p5) (p6 := p6) (p7 := p7) hl hq (FX_TBz a1 ht) (TK_fr hk a1 (by decide))
    refine ⟨Z2, FX_tr (FX_w a1 (by decide)) (FX_w b1 (by decide)), b2, by rw [b1.2 9 (by decide), a2], ?_⟩
    rw [e_X11_number]
    simp (disch := omega) only [k_X11_number_0, k_X11_number_6, k_X11_number_9, k_X11_number_11, k_X11_number_15, li_0, li_1, li_2, li_3, li_4, li_5, li_6, li_9, li_10, li_40, lm_1, lm_2, lm_3, lm_4, zs_ap, i32_add, i32_sub, i32_mul, i32_neg, i32_lt, i32_le, i32_eq, i32_nat, ckn, pka_r, pka_v, if_pos, if_neg, if_true, if_false, a3, b3, or_true]
  · intro h
    obtain ⟨Z1, a1, a2, a3⟩ := hlk.2 h
    refine ⟨Z1, a1, a2, ?_⟩
    rw [e_X11_number]
    simp (disch := omega) only [k_X11_number_0, k_X11_number_6, k_X11_number_9, k_X11_number_11, k_X11_number_15, li_0, li_1, li_2, li_3, li_4, li_5, li_6, li_9, li_10, li_40, lm_1, lm_2, lm_3, lm_4, zs_ap, i32_add, i32_sub, i32_mul, i32_neg, i32_lt, i32_le, i32_eq, i32_nat, ckn, pka_r, pka_v, if_pos, if_neg, if_true, if_false, a3, true_or]
theorem g_expect (hl : len ≤ 700) (hq : q ≤ len) (ht : TBz tp Z) (hk : TK tp len q Z) {t : Nat} (h17 : t < 17) (h00 : 0 < t) : (tkIs tp len q t = true → ∃ Z' : Nat → Nat → Int, FX [3, 4, 5, 6] Z Z' ∧ TK tp len (tkB tp len q) Z' ∧ Mean (d + 8) 149 [.ref 140, .retAddr t] (176, zs Z, J, RP p0 p1 p2 p3 p4 p5 p6 p7) = some (some (.int (i32 1)), (176, zs Z', J, RP p0 p1 p2 p3 p4 p5 p6 p7))) ∧ (tkIs tp len q t = false → ∃ Z' : Nat → Nat → Int, FX [7, 8] Z Z' ∧ (Z' 140 7 = 1 ∧ Z' 140 8 = (tkF tp len q : Int)) ∧ Mean (d + 8) 149 [.ref 140, .retAddr t] (176, zs Z, J, RP p0 p1 p2 p3 p4 p5 p6 p7) = some (some (.int (i32 0)), (176, zs Z', J, RP p0 p1 p2 p3 p4 p5 p6 p7))) := by
  have w1 := (wok h17 h00).1
  have hi := g_is (d := d) (J := J) (p0 := p0) (p1 := p1) (p2 := p2) (p3 := p3) (p4 := p4) (p5 := p5) (p6 := p6) (p7 := p7) hl hq ht hk h17 h00
  constructor
  · intro h
    obtain ⟨Z2, b1, b2, b3⟩ := g_next2 (d := d + 5) (J := J) (p0 := p0) (p1 := p1) (p2 := p2) (p3 := p3) (p4 := p4) (p5 := p5) (p6 := p6) (p7 := p7) hl hq ht hk
    refine ⟨Z2, b1, b2, ?_⟩
    rw [h, bBt] at hi
    rw [e_X11_expect]
    simp (disch := omega) only [k_X11_expect_0, k_X11_expect_5, k_X11_expect_8, k_X11_expect_13, k_X11_expect_14, k_X11_expect_18, li_0, li_1, li_2, li_3, li_4, li_5, li_6, li_9, li_10, li_40, lm_1, lm_2, lm_3, lm_4, zs_ap, i32_add, i32_sub, i32_mul, i32_neg, i32_lt, i32_le, i32_eq, i32_nat, ckn, pka_r, pka_v, if_pos, if_neg, if_true, if_false, w1, hi, b3, or_true]
  · intro h
    obtain ⟨Z', e1, e2, e3⟩ := g_wrong (d := d + 6) (J := J) (p0 := p0) (p1 := p1) (p2 := p2) (p3 := p3) (p4 := p4) (p5 := p5) (p6 := p6) (p7 := p7) (k := 1) hk.2.1
    refine ⟨Z', e1, e2, ?_⟩
    rw [h, bBf] at hi
    rw [e_X11_expect]
    simp (disch := omega) only [k_X11_expect_0, k_X11_expect_5, k_X11_expect_8, k_X11_expect_13, k_X11_expect_14, k_X11_expect_18, li_0, li_1, li_2, li_3, li_4, li_5, li_6, li_9, li_10, li_40, lm_1, lm_2, lm_3, lm_4, zs_ap, i32_add, i32_sub, i32_mul, i32_neg, i32_lt, i32_le, i32_eq, i32_nat, ckn, pka_r, pka_v, if_pos, if_neg, if_true, if_false, w1, hi, e3, true_or]
/-- where the number of a worth begins -/
def sgQ (tp : Nat → Nat) (len q : Nat) : Nat := if tkK tp len q = 4 then tkB tp len q else q
def sgV (tp : Nat → Nat) (len q : Nat) : Int := if tkK tp len q = 4 then - tkV tp len (sgQ tp len q) else tkV tp len (sgQ tp len q)
theorem sgQ_le (hq : q ≤ len) : q ≤ sgQ tp len q ∧ sgQ tp len q ≤ len := by
  have := tk_le (tp := tp) hq
  unfold sgQ
  split <;> omega
theorem g_signed (hl : len ≤ 700) (hq : q ≤ len) (ht : TBz tp Z) (hk : TK tp len q Z) : (eNum tp len (sgQ tp len q) 0 999 = 0 → ∃ Z' : Nat → Nat → Int, FX [3, 4, 5, 6, 9] Z Z' ∧ TK tp len (tkB tp len (sgQ tp len q)) Z' ∧ Z' 140 9 = sgV tp len q ∧ Mean (d + 4) 150 [.ref 140] (176, zs Z, J, RP p0 p1 p2 p3 p4 p5 p6 p7) = some (some (.int (i32 1)), (176, zs Z', J, RP p0 p1 p2 p3 p4 p5 p6 p7))) ∧ (eNum tp len (sgQ tp len q) 0 999 ≠ 0 → ∃ Z' : Nat → Nat → Int, FX [3, 4, 5, 6, 7, 8] Z Z' ∧ (Z' 140 7 = eNum tp len (sgQ tp len q) 0 999 ∧ Z' 140 8 = (tkF tp len (sgQ tp len q) : Int)) ∧ Mean (d + 4) 150 [.ref 140] (176, zs Z, J, RP p0 p1 p2 p3 p4 p5 p6 p7) = some (some (.int (i32 0)), (176, zs Z', J, RP p0 p1 p2 p3 p4 p5 p6 p7))) := by
  have hs := g_isSign (d := d + 2) (J := J) (p0 := p0) (p1 := p1) (p2 := p2) (p3 := p3) (p4 := p4) (p5 := p5) (p6 := p6) (p7 := p7) hl hq ht hk (c := 45) (Or.inr rfl)
  rw [if_neg (by decide), show ((45 : Nat) : Int) = 45 from rfl] at hs
  have hle := sgQ_le (tp := tp) hq
  rw [e_X11_signed]
  by_cases c : tkK tp len q = 4
  · rw [decide_eq_true c, bBt] at hs
    obtain ⟨Z1, a1, a2, a3⟩ := g_next2 (d := d + 1) (J := J) (p0 := p0) (p1 := p1) (p2 := p2) (p3 := p3) (p4 := p4) (p5 := p5) (p6 := p6) (p7 := p7) hl hq ht hk
    have eQ : sgQ tp len q = tkB tp len q := if_pos c
    have hn := g_number (d := d) (J := J) (p0 := p0) (p1 := p1) (p2 := p2) (p3 := p3) (p4 := p4) (p5 := p5) (p6 := p6) (p7 := p7) (q := sgQ tp len q) hl hle.2 (FX_TBz a1 ht) (by rw [eQ]; exact a2) (lo := 0) (hi := 999) (by omega) (by omega)
    constructor
    · intro h
      obtain ⟨Z2, b1, b2, b3, b4⟩ := hn.1 h
      refine ⟨u2 Z2 140 9 (sgV tp len q), FX_u (FX_tr (FX_w a1 (by decide)) b1) (by decide), TK_fr b2 (FX_u (l := [9]) FX_rfl (by decide)) (by decide), u2s, ?_⟩
      have eV : sgV tp len q = - tkV tp len (sgQ tp len q) := if_pos c
      simp (disch := omega) only [k_X11_signed_0, k_X11_signed_6, k_X11_signed_11, k_X11_signed_15, k_X11_signed_23, k_X11_signed_26, k_X11_signed_28, k_X11_signed_33, k_X11_signed_41, k_X11_signed_45, li_0, li_1, li_2, li_3, li_4, li_5, li_6, li_9, li_10, li_40, lm_1, lm_2, lm_3, lm_4, zs_ap, i32_add, i32_sub, i32_mul, i32_neg, i32_lt, i32_le, i32_eq, i32_nat, ckn, pka_r, pka_v, if_pos, if_neg, if_true, if_false, li_45, hs, a3, li_999, b4, b3, zs_u2, eV, or_true]
    · intro h
      obtain ⟨Z2, b1, b2, b3⟩ := hn.2 h
      refine ⟨Z2, FX_tr (FX_w a1 (by decide)) (FX_w b1 (by decide)), b2, ?_⟩
      simp (disch := omega) only [k_X11_signed_0, k_X11_signed_6, k_X11_signed_11, k_X11_signed_15, k_X11_signed_23, k_X11_signed_26, k_X11_signed_28, k_X11_signed_33, k_X11_signed_41, k_X11_signed_45, li_0, li_1, li_2, li_3, li_4, li_5, li_6, li_9, li_10, li_40, lm_1, lm_2, lm_3, lm_4, zs_ap, i32_add, i32_sub, i32_mul, i32_neg, i32_lt, i32_le, i32_eq, i32_nat, ckn, pka_r, pka_v, if_pos, if_neg, if_true, if_false, li_45, hs, a3, li_999, b3, true_or]
  · rw [decide_eq_false c, bBf] at hs
    have eQ : sgQ tp len q = q := if_neg c
    have hn := g_number (d := d) (J := J) (p0 := p0) (p1 := p1) (p2 := p2) (p3 := p3) (p4 := p4) (p5 := p5) (p6 := p6) (p7 := p7) (q := sgQ tp len q) hl hle.2 ht (by rw [eQ]; exact hk) (lo := 0) (hi := 999) (by omega) (by omega)
    constructor
    · intro h
      obtain ⟨Z2, b1, b2, b3, b4⟩ := hn.1 h
      refine ⟨u2 Z2 140 9 (sgV tp len q), FX_u b1 (by decide), TK_fr b2 (FX_u (l := [9]) FX_rfl (by decide)) (by decide), u2s, ?_⟩
      have eV : sgV tp len q = tkV tp len (sgQ tp len q) := if_neg c
      simp (disch := omega) only [k_X11_signed_0, k_X11_signed_6, k_X11_signed_11, k_X11_signed_15, k_X11_signed_23, k_X11_signed_26, k_X11_signed_28, k_X11_signed_33, k_X11_signed_41, k_X11_signed_45, li_0, li_1, li_2, li_3, li_4, li_5, li_6, li_9, li_10, li_40, lm_1, lm_2, lm_3, lm_4, zs_ap, i32_add, i32_sub, i32_mul, i32_neg, i32_lt, i32_le, i32_eq, i32_nat, ckn, pka_r, pka_v, if_pos, if_neg, if_true, if_false, li_45, hs, li_999, b4, b3, zs_u2, eV, or_true]
    · intro h
      obtain ⟨Z2, b1, b2, b3⟩ := hn.2 h
      refine ⟨Z2, FX_w b1 (by decide), b2, ?_⟩
      simp (disch := omega) only [k_X11_signed_0, k_X11_signed_6, k_X11_signed_11, k_X11_signed_15, k_X11_signed_23, k_X11_signed_26, k_X11_signed_28, k_X11_signed_33, k_X11_signed_41, k_X11_signed_45, li_0, li_1, li_2, li_3, li_4, li_5, li_6, li_9, li_10, li_40, lm_1, lm_2, lm_3, lm_4, zs_ap, i32_add, i32_sub, i32_mul, i32_neg, i32_lt, i32_le, i32_eq, i32_nat, ckn, pka_r, pka_v, if_pos, if_neg, if_true, if_false, li_45, hs, li_999, b3, true_or]
end
