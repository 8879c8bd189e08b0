/-! THE CLASS'S LeastRow -/
theorem FRg : ∀ k : Fin 40, FR 53 k.val = some (54 + k.val) ∧ pshn (54 + k.val) = some (.inl (.int, 3)) := by decide +kernel
theorem RPg {p0 p1 p2 p3 p4 p5 p6 p7 k : Nat} (hk : k < 40) : RP p0 p1 p2 p3 p4 p5 p6 p7 53 k = some (54 + k) ∧ pshn (54 + k) = some (.inl (.int, 3)) := by
  have h := FRg ⟨k, hk⟩
  have e : RP p0 p1 p2 p3 p4 p5 p6 p7 53 k = FR 53 k := rfl
  rw [e]
  exact h
theorem div10 {k q : Nat} (hk : k < 6) (hq : q ≤ 9) : i32 ((10 * k + q : Nat) : Int) / i32 10 = i32 (k : Int) ∧ i32 ((10 * k + q : Nat) : Int) - i32 ((10 * k + q : Nat) : Int) / i32 10 * i32 10 = i32 (q : Int) := by
  have e : ((10 * k + q : Nat) : Int).tdiv 10 = (k : Int) := by
    have : ((10 * k + q : Nat) : Int).tdiv ((10 : Nat) : Int) = ((((10 * k + q) / 10 : Nat)) : Int) := rfl
    rw [show (10 : Int) = ((10 : Nat) : Int) from rfl, this]
    omega
  have e2 : i32 ((10 * k + q : Nat) : Int) / i32 10 = i32 (k : Int) := by rw [i32_div (by omega) (by omega), e]
  refine ⟨e2, ?_⟩
  rw [e2, i32_mul, i32_sub]
  congr 1
  omega
section
variable {d : Nat} {J : Nat → Nat → Int64} {Z : Nat → Nat → Int} {p0 p1 p5 p6 : Nat} {m : Mat} {b : Nat → Int}
/-- what tracing a row stands on -/
def KL (m : Mat) (b : Nat → Int) (p : Nat) (Z : Nat → Nat → Int) (J : Nat → Nat → Int64) : Prop := KI m p Z ∧ KR m b 43 Z J
theorem KI_fr {p : Nat} {Z' : Nat → Nat → Int} (h : KI m p Z) (e : ∀ a : Nat, (5 ≤ a ∧ a ≤ 41) → Z' a = Z a) : KI m p Z' := by
  obtain ⟨hw, hp, hm, hk⟩ := h
  exact ⟨hw, hp, KM_fr hw.2.1 hm (fun a h1 h2 => e a (by omega)), KS_fr hw.1.2 hk (fun a h1 h2 => e a (by omega))⟩
theorem KL_fr {p : Nat} {Z' : Nat → Nat → Int} (h : KL m b p Z J) (e : ∀ a : Nat, (5 ≤ a ∧ a ≤ 41) ∨ (43 ≤ a ∧ a ≤ 51) → Z' a = Z a) : KL m b p Z' J := by
  refine ⟨KI_fr h.1 (fun a ha => e a (Or.inl ha)), ⟨fun i hi => ?_, fun i hi => ?_⟩, h.2.2⟩
  · rw [e _ (by omega)]; exact h.2.1.1 i hi
  · rw [e _ (by omega)]; exact h.2.1.2 i hi
theorem lg_in (h : KL m b p0 Z J) {s k n L : Nat} (hs : s < qN m) (hk : k < qP m) (hn : n < 64) (hL : L < nlay m) (x2 x6 : Int32) (o9 : Option Value) :
    (giv m s k (fun u => LB m b L u n) = true → den none (Mean (d + 2)) (some .int) tQ_X2_leastGift (58, [some (.ref 52), some (.int (i32 (s : Int))), some (.int x2), some (.int (i32 (n : Int))), some (.ref p0), some (.int (i32 (k : Int))), some (.int x6), some (.int (i32 (L : Int))), some (.int (i32 ((0 + 1 : Nat) : Int))), o9], [], 176, zs Z, J, RP p0 p1 p0 35 p0 p5 p6 97) = some (some (.int (i32 ((10 * k + (fstN (gQp m s k (fun u => LB m b L u n)) 9 + 1) : Nat) : Int))), (176, zs Z, J, RP p0 p1 p0 35 p0 p5 p6 97))) ∧ (giv m s k (fun u => LB m b L u n) = false → ∃ o9' : Option Value, den none (Mean (d + 2)) (some .int) tQ_X2_leastGift (58, [some (.ref 52), some (.int (i32 (s : Int))), some (.int x2), some (.int (i32 (n : Int))), some (.ref p0), some (.int (i32 (k : Int))), some (.int x6), some (.int (i32 (L : Int))), some (.int (i32 ((0 + 1 : Nat) : Int))), o9], [], 176, zs Z, J, RP p0 p1 p0 35 p0 p5 p6 97) = den none (Mean (d + 2)) (some .int) tQ_X2_leastGift (118, [some (.ref 52), some (.int (i32 (s : Int))), some (.int x2), some (.int (i32 (n : Int))), some (.ref p0), some (.int (i32 (k : Int))), some (.int x6), some (.int (i32 (L : Int))), some (.int (i32 ((9 + 1 : Nat) : Int))), o9'], [], 176, zs Z, J, RP p0 p1 p0 35 p0 p5 p6 97)) := by
  obtain ⟨⟨hw, hp, hm, hks⟩, hr⟩ := h
  have hP := hw.2.1
  have hN := qpl_b hw (k := qP m) (Nat.le_refl _)
  have hN' : qN m = qpl m (qP m) := rfl
  have nl := nlay_le hw
  have key := srchS (fun (q : Nat) (o9 : Option Value) => den none (Mean (d + 2)) (some .int) tQ_X2_leastGift (58, [some (.ref 52), some (.int (i32 (s : Int))), some (.int x2), some (.int (i32 (n : Int))), some (.ref p0), some (.int (i32 (k : Int))), some (.int x6), some (.int (i32 (L : Int))), some (.int (i32 ((q + 1 : Nat) : Int))), o9], [], 176, zs Z, J, RP p0 p1 p0 35 p0 p5 p6 97)) (gQp m s k (fun u => LB m b L u n)) 9 (fun q => some (some (.int (i32 ((10 * k + (q + 1) : Nat) : Int))), (176, zs Z, J, RP p0 p1 p0 35 p0 p5 p6 97))) (fun q o9 hq hpq => by
    unfold gQp at hpq
    rw [Bool.and_eq_true] at hpq
    have sb := h_stateBehind (d := d) (J := J) (p0 := p0) (p1 := p1) (p2 := p0) (p3 := 35) (p4 := p0) (p5 := p5) (p6 := p6) (p7 := 97) hp hw hm hks.1 hs hk (q := q + 1) (by omega)
    rw [hpq.1, if_pos rfl] at sb
    have is_ := h_isSafe_a (d := d + 1) (J := J) (Z := Z) (p0 := p0) (p1 := p1) (p2 := p0) (p5 := p5) (p6 := p6) (p7 := 97) hw hr.2 (s := s - (q + 1) * qpl m k) (t := L) (n := n) (by omega) hL hn
    rw [show LB m b L (s - (q + 1) * qpl m k) n = true from hpq.2, bBt] at is_
    have e9 : i32 (k : Int) * i32 10 + i32 ((q + 1 : Nat) : Int) = i32 ((10 * k + (q + 1) : Nat) : Int) := by
      rw [i32_mul, i32_add]
      congr 1
      omega
    try dsimp only
    rw [k_X2_leastGift_58]
    simp (disch := omega) only [k_X2_leastGift_65, k_X2_leastGift_80, k_X2_leastGift_88, k_X2_leastGift_100, k_X2_leastGift_103, li_0, li_9, li_10, lm_1, i32_neg, li_1, e9, i32_lt, i32_eq, if_neg, if_pos, sb, is_, pka_r]) (fun q o9 hq hpq => by
    have sb := h_stateBehind (d := d) (J := J) (p0 := p0) (p1 := p1) (p2 := p0) (p3 := 35) (p4 := p0) (p5 := p5) (p6 := p6) (p7 := 97) hp hw hm hks.1 hs hk (q := q + 1) (by omega)
    unfold gQp at hpq
    try dsimp only
    cases cm : qmay m s k (q + 1)
    · rw [cm, if_neg Bool.false_ne_true] at sb
      refine ⟨some (.int (i32 (-1))), ?_⟩
      rw [k_X2_leastGift_58]
      simp (disch := omega) only [k_X2_leastGift_65, k_X2_leastGift_80, k_X2_leastGift_112, li_0, li_9, lm_1, i32_neg, li_1, i32_lt, i32_eq, if_neg, if_pos, sb, pka_r, i32_add]
      rfl
    · rw [cm, Bool.true_and] at hpq
      rw [cm, if_pos rfl] at sb
      have is_ := h_isSafe_a (d := d + 1) (J := J) (Z := Z) (p0 := p0) (p1 := p1) (p2 := p0) (p5 := p5) (p6 := p6) (p7 := 97) hw hr.2 (s := s - (q + 1) * qpl m k) (t := L) (n := n) (by omega) hL hn
      rw [show LB m b L (s - (q + 1) * qpl m k) n = false from hpq, bBf] at is_
      refine ⟨some (.int (i32 ((s - (q + 1) * qpl m k : Nat) : Int))), ?_⟩
      rw [k_X2_leastGift_58]
      simp (disch := omega) only [k_X2_leastGift_65, k_X2_leastGift_80, k_X2_leastGift_88, k_X2_leastGift_100, k_X2_leastGift_112, li_0, li_9, lm_1, i32_neg, li_1, i32_lt, i32_eq, if_neg, if_pos, sb, is_, pka_r, i32_add]
      rfl) o9
  rw [giv_gQ]
  refine ⟨key.1, fun hf => ?_⟩
  obtain ⟨o9', e⟩ := key.2 hf
  refine ⟨o9', e.trans ?_⟩
  rw [k_X2_leastGift_58]
  simp (disch := omega) only [li_9, i32_lt, if_pos]
theorem h_leastGift (h : KL m b p0 Z J) {s n L : Nat} {side : Int} {sel : Nat → Bool} (hs : s < qN m) (hn : n < 64) (hL : L < nlay m) (hsd : -1 ≤ side ∧ side < 3) (hsel : ∀ k : Nat, k < qP m → (sel k = true ↔ (side = -1 ∨ side = (qown m k : Int)))) (hlb : ∀ k : Nat, k < qP m → sel k = true → lbh m (qown m k) = L) : Mean (d + 3) 25 [.ref 52, .int (i32 (s : Int)), .int (i32 side), .int (i32 (n : Int))] (176, zs Z, J, RP p0 p1 p0 35 p0 p5 p6 97) = some (some (.int (i32 (if givs m s sel (fun u => LB m b L u n) then ((10 * gK m s sel (fun u => LB m b L u n) + gQ m s sel (fun u => LB m b L u n) : Nat) : Int) else -1))), (176, zs Z, J, RP p0 p1 p0 35 p0 p5 p6 97)) := by
  have hw := h.1.1
  have hp := h.1.2.1
  have hm := h.1.2.2.1
  have hP := hw.2.1
  have hS := hw.1
  have nl := nlay_le hw
  have z2 : Z p0 2 = (qP m : Int) := hm.1.2.1
  have key := srchS (fun (k : Nat) (y : Option Value × Option Value × Option Value × Option Value) => den none (Mean (d + 2)) (some .int) tQ_X2_leastGift (12, [some (.ref 52), some (.int (i32 (s : Int))), some (.int (i32 side)), some (.int (i32 (n : Int))), some (.ref p0), some (.int (i32 (k : Int))), y.1, y.2.1, y.2.2.1, y.2.2.2], [], 176, zs Z, J, RP p0 p1 p0 35 p0 p5 p6 97)) (fun k => sel k && giv m s k (fun u => LB m b L u n)) (qP m) (fun k => some (some (.int (i32 ((10 * k + (fstN (gQp m s k (fun u => LB m b L u n)) 9 + 1) : Nat) : Int))), (176, zs Z, J, RP p0 p1 p0 35 p0 p5 p6 97))) (fun k y hk hpk => by
    obtain ⟨o6, o7, o8, o9⟩ := y
    rw [Bool.and_eq_true] at hpk
    have zo : Z (p0 + 2) k = (qown m k : Int) := (hm.2.1 k hk).1
    have ho := (hw.2.2.1 k hk).1
    have zl : Z 48 (qown m k) = (L : Int) := by rw [h.2.1.2 _ ho, hlb k hk hpk.1]
    have e := (lg_in (d := d) (p1 := p1) (p5 := p5) (p6 := p6) h hs hk hn hL (i32 side) (i32 ((qown m k : Nat) : Int)) o9).1 hpk.2
    have hcase := (hsel k hk).mp hpk.1
    try dsimp only
    rw [k_X2_leastGift_12 (hv_p4 := by omega)]
    by_cases c1 : side = -1
    · simp (disch := omega) only [k_X2_leastGift_0, k_X2_leastGift_22, k_X2_leastGift_30, k_X2_leastGift_37, k_X2_leastGift_43, k_X2_leastGift_53, k_X2_leastGift_65, k_X2_leastGift_80, k_X2_leastGift_88, k_X2_leastGift_100, k_X2_leastGift_103, k_X2_leastGift_112, k_X2_leastGift_118, k_X2_leastGift_124, li_0, li_1, li_2, li_3, li_4, li_5, li_6, li_9, li_10, li_40, lm_1, lm_2, lm_3, lm_4, zs_ap, i32_add, i32_sub, i32_mul, i32_neg, i32_lt, i32_le, i32_eq, i32_nat, ckn, pka_r, pka_v, if_pos, if_neg, if_true, if_false, z2, zo, c1, zl, Int.toNat_natCast]
      rw [c1] at e
      exact e
    · have c2 : side = (qown m k : Int) := by omega
      simp (disch := omega) only [k_X2_leastGift_0, k_X2_leastGift_22, k_X2_leastGift_30, k_X2_leastGift_37, k_X2_leastGift_43, k_X2_leastGift_53, k_X2_leastGift_65, k_X2_leastGift_80, k_X2_leastGift_88, k_X2_leastGift_100, k_X2_leastGift_103, k_X2_leastGift_112, k_X2_leastGift_118, k_X2_leastGift_124, li_0, li_1, li_2, li_3, li_4, li_5, li_6, li_9, li_10, li_40, lm_1, lm_2, lm_3, lm_4, zs_ap, i32_add, i32_sub, i32_mul, i32_neg, i32_lt, i32_le, i32_eq, i32_nat, ckn, pka_r, pka_v, if_pos, if_neg, if_true, if_false, z2, zo, zl, Int.toNat_natCast]
      exact e) (fun k y hk hpk => by
    obtain ⟨o6, o7, o8, o9⟩ := y
    have zo : Z (p0 + 2) k = (qown m k : Int) := (hm.2.1 k hk).1
    have ho := (hw.2.2.1 k hk).1
    try dsimp only at hpk ⊢
    cases csl : sel k
    · have hn1 : ¬ (side = -1 ∨ side = (qown m k : Int)) := fun q => by
        have := (hsel k hk).mpr q
        rw [csl] at this
        cases this
      refine ⟨(some (.int (i32 ((qown m k : Nat) : Int))), o7, o8, o9), ?_⟩
      rw [k_X2_leastGift_12 (hv_p4 := by omega)]
      simp (disch := omega) only [k_X2_leastGift_0, k_X2_leastGift_22, k_X2_leastGift_30, k_X2_leastGift_37, k_X2_leastGift_43, k_X2_leastGift_53, k_X2_leastGift_65, k_X2_leastGift_80, k_X2_leastGift_88, k_X2_leastGift_100, k_X2_leastGift_103, k_X2_leastGift_112, k_X2_leastGift_118, k_X2_leastGift_124, li_0, li_1, li_2, li_3, li_4, li_5, li_6, li_9, li_10, li_40, lm_1, lm_2, lm_3, lm_4, zs_ap, i32_add, i32_sub, i32_mul, i32_neg, i32_lt, i32_le, i32_eq, i32_nat, ckn, pka_r, pka_v, if_pos, if_neg, if_true, if_false, z2, zo, Int.toNat_natCast]
      rfl
    · rw [csl, Bool.true_and] at hpk
      have zl : Z 48 (qown m k) = (L : Int) := by rw [h.2.1.2 _ ho, hlb k hk csl]
      obtain ⟨o9', e⟩ := (lg_in (d := d) (p1 := p1) (p5 := p5) (p6 := p6) h hs hk hn hL (i32 side) (i32 ((qown m k : Nat) : Int)) o9).2 hpk
      have hcase := (hsel k hk).mp csl
      refine ⟨(some (.int (i32 ((qown m k : Nat) : Int))), some (.int (i32 (L : Int))), some (.int (i32 ((9 + 1 : Nat) : Int))), o9'), ?_⟩
      rw [k_X2_leastGift_12 (hv_p4 := by omega)]
      by_cases c1 : side = -1
      · simp (disch := omega) only [k_X2_leastGift_0, k_X2_leastGift_22, k_X2_leastGift_30, k_X2_leastGift_37, k_X2_leastGift_43, k_X2_leastGift_53, k_X2_leastGift_65, k_X2_leastGift_80, k_X2_leastGift_88, k_X2_leastGift_100, k_X2_leastGift_103, k_X2_leastGift_112, k_X2_leastGift_124, li_0, li_1, li_2, li_3, li_4, li_5, li_6, li_9, li_10, li_40, lm_1, lm_2, lm_3, lm_4, zs_ap, i32_add, i32_sub, i32_mul, i32_neg, i32_lt, i32_le, i32_eq, i32_nat, ckn, pka_r, pka_v, if_pos, if_neg, if_true, if_false, z2, zo, c1, zl, Int.toNat_natCast]
        rw [c1] at e
        refine Eq.trans e ?_
        rw [k_X2_leastGift_118, li_1, i32_add]
        rfl
      · have c2 : side = (qown m k : Int) := by omega
        simp (disch := omega) only [k_X2_leastGift_0, k_X2_leastGift_22, k_X2_leastGift_30, k_X2_leastGift_37, k_X2_leastGift_43, k_X2_leastGift_53, k_X2_leastGift_65, k_X2_leastGift_80, k_X2_leastGift_88, k_X2_leastGift_100, k_X2_leastGift_103, k_X2_leastGift_112, k_X2_leastGift_124, li_0, li_1, li_2, li_3, li_4, li_5, li_6, li_9, li_10, li_40, lm_1, lm_2, lm_3, lm_4, zs_ap, i32_add, i32_sub, i32_mul, i32_neg, i32_lt, i32_le, i32_eq, i32_nat, ckn, pka_r, pka_v, if_pos, if_neg, if_true, if_false, z2, zo, zl, Int.toNat_natCast]
        refine Eq.trans e ?_
        rw [k_X2_leastGift_118, li_1, i32_add]
        rfl) (none, none, none, none)
  rw [e_X2_leastGift, k_X2_leastGift_0]
  cases cg : givs m s sel (fun u => LB m b L u n)
  · rw [if_neg Bool.false_ne_true]
    obtain ⟨⟨o6, o7, o8, o9⟩, e⟩ := key.2 cg
    refine Eq.trans e ?_
    show den none (Mean (d + 2)) (some .int) tQ_X2_leastGift (12, _, [], 176, zs Z, J, _) = _
    rw [k_X2_leastGift_12 (hv_p4 := by omega)]
    simp (disch := omega) only [k_X2_leastGift_0, k_X2_leastGift_22, k_X2_leastGift_30, k_X2_leastGift_37, k_X2_leastGift_43, k_X2_leastGift_53, k_X2_leastGift_65, k_X2_leastGift_80, k_X2_leastGift_88, k_X2_leastGift_100, k_X2_leastGift_103, k_X2_leastGift_112, k_X2_leastGift_118, k_X2_leastGift_124, li_0, li_1, li_2, li_3, li_4, li_5, li_6, li_9, li_10, li_40, lm_1, lm_2, lm_3, lm_4, zs_ap, i32_add, i32_sub, i32_mul, i32_neg, i32_lt, i32_le, i32_eq, i32_nat, ckn, pka_r, pka_v, if_pos, if_neg, if_true, if_false, z2]
  · rw [if_pos rfl]
    exact key.1 cg
theorem h_behindGift (h : KI m p0 Z) {s k q : Nat} (hk : k < qP m) (hq : 1 ≤ q ∧ q ≤ 9) (hle : q * qpl m k ≤ s) (hs : s < qN m) : Mean (d + 1) 26 [.ref 52, .int (i32 (s : Int)), .int (i32 ((10 * k + q : Nat) : Int))] (176, zs Z, J, RP p0 p1 p0 35 p0 p5 p6 97) = some (some (.int (i32 ((s - q * qpl m k : Nat) : Int))), (176, zs Z, J, RP p0 p1 p0 35 p0 p5 p6 97)) := by
  obtain ⟨hw, hp, hm, hks⟩ := h
  have hP := hw.2.1
  have zw : Z 36 k = (qpl m k : Int) := hks.1.2 k hk
  obtain ⟨d1, d2⟩ := div10 (k := k) (q := q) (by omega) hq.2
  rw [d1] at d2
  have e9 : i32 (s : Int) - i32 (q : Int) * i32 ((qpl m k : Nat) : Int) = i32 ((s - q * qpl m k : Nat) : Int) := by rw [i32_mul, i32_sub, sub_c hle]
  rw [e_X2_behindGift, k_X2_behindGift_0]
  simp (disch := omega) only [k_X2_behindGift_7, k_X2_behindGift_27, lm_1, li_1, i32_neg, li_0, li_10, d1, d2, i32_eq, i32_lt, i32_nat, ckn, if_neg, zs_ap, zw, Int.toNat_natCast, e9]
theorem h_behindNone {s : Int} : Mean (d + 1) 26 [.ref 52, .int (i32 s), .int (i32 (-1))] (176, zs Z, J, RP p0 p1 p0 35 p0 p5 p6 97) = some (some (.int (i32 s)), (176, zs Z, J, RP p0 p1 p0 35 p0 p5 p6 97)) := by
  rw [e_X2_behindGift, k_X2_behindGift_0]
  simp (disch := omega) only [k_X2_behindGift_5, k_X2_behindGift_7, k_X2_behindGift_27, li_0, li_1, li_2, li_3, li_4, li_5, li_6, li_9, li_10, li_40, lm_1, lm_2, lm_3, lm_4, zs_ap, i32_add, i32_sub, i32_mul, i32_neg, i32_lt, i32_le, i32_eq, i32_nat, ckn, pka_r, pka_v, if_pos, if_neg, if_true, if_false]
theorem h_takeShare (h : KL m b p0 Z J) {st i s n : Nat} (hst : st < 40) (hi : i < qS m) (hs : s < qN m) (hn : n < 64) (hon : LB m b (lbh m i) s n = false → givs m s (cselB m i) (fun u => LB m b (lbh m i) u n) = true) : Mean (d + 4) 24 [.ref 52, .int (i32 (st : Int)), .int (i32 (i : Int)), .int (i32 (s : Int)), .int (i32 (n : Int))] (176, zs Z, J, RP p0 p1 p0 35 p0 p5 p6 97) = if LB m b (lbh m i) s n then some (some (.int (i32 (s : Int))), (176, zs Z, J, RP p0 p1 p0 35 p0 p5 p6 97)) else some (some (.int (i32 ((gTo m s (cselB m i) (fun u => LB m b (lbh m i) u n) : Nat) : Int))), (176, zs (u2 Z (54 + st) i ((10 * gK m s (cselB m i) (fun u => LB m b (lbh m i) u n) + gQ m s (cselB m i) (fun u => LB m b (lbh m i) u n) : Nat) : Int)), J, RP p0 p1 p0 35 p0 p5 p6 97)) := by
  have hw := h.1.1
  have hS := hw.1
  have hlb := lbh_lt hw hi
  have zl : Z 48 i = (lbh m i : Int) := h.2.1.2 i hi
  have is_ := h_isSafe_a (d := d + 2) (J := J) (Z := Z) (p0 := p0) (p1 := p1) (p2 := p0) (p5 := p5) (p6 := p6) (p7 := 97) hw h.2.2 (s := s) (t := lbh m i) (n := n) hs hlb.1 hn
  obtain ⟨r1, r2⟩ := RPg (p0 := p0) (p1 := p1) (p2 := p0) (p3 := 35) (p4 := p0) (p5 := p5) (p6 := p6) (p7 := 97) hst
  rw [e_X2_takeShare, k_X2_takeShare_0]
  cases cL : LB m b (lbh m i) s n
  · rw [if_neg Bool.false_ne_true]
    rw [cL, bBf] at is_
    have hg := hon cL
    have lg := h_leastGift (d := d) (p1 := p1) (p5 := p5) (p6 := p6) h (side := (i : Int)) (sel := cselB m i) hs hn hlb.1 (by omega) (fun k hk => by
      show decide (qown m k = i) = true ↔ _
      rw [decide_eq_true_iff]
      omega) (fun k hk hk2 => by rw [of_decide_eq_true hk2])
    rw [hg, if_pos rfl] at lg
    obtain ⟨k1, k2, k3, k4, k5⟩ := gK_ok hg
    have hlt := gTo_lt hg
    have h' : KI m p0 (u2 Z (54 + st) i ((10 * gK m s (cselB m i) (fun u => LB m b (lbh m i) u n) + gQ m s (cselB m i) (fun u => LB m b (lbh m i) u n) : Nat) : Int)) := KI_fr h.1 (fun a ha => u2_ne (by omega))
    have bg := h_behindGift (d := d + 2) (J := J) (p1 := p1) (p5 := p5) (p6 := p6) h' k1 k3 hlt.2 hs
    simp (disch := first | omega | assumption) only [k_X2_takeShare_13, k_X2_takeShare_19, k_X2_takeShare_22, k_X2_takeShare_24, k_X2_takeShare_30, k_X2_takeShare_39, k_X2_takeShare_40, k_X2_takeShare_48, k_X2_takeShare_50, k_X2_takeShare_53, li_0, li_1, li_2, li_3, li_4, li_5, li_6, li_9, li_10, li_40, lm_1, lm_2, lm_3, lm_4, zs_ap, i32_add, i32_sub, i32_mul, i32_neg, i32_lt, i32_le, i32_eq, i32_nat, ckn, pka_r, pka_v, if_pos, if_neg, if_true, if_false, zl, Int.toNat_natCast, is_, r1, va_rf, lg, zs_u2, u2s, bg]
    rfl
  · rw [if_pos rfl]
    rw [cL, bBt] at is_
    simp (disch := omega) only [k_X2_takeShare_13, k_X2_takeShare_19, k_X2_takeShare_22, k_X2_takeShare_24, k_X2_takeShare_30, k_X2_takeShare_39, k_X2_takeShare_40, k_X2_takeShare_48, k_X2_takeShare_50, k_X2_takeShare_53, li_0, li_1, li_2, li_3, li_4, li_5, li_6, li_9, li_10, li_40, lm_1, lm_2, lm_3, lm_4, zs_ap, i32_add, i32_sub, i32_mul, i32_neg, i32_lt, i32_le, i32_eq, i32_nat, ckn, pka_r, pka_v, if_pos, if_neg, if_true, if_false, zl, Int.toNat_natCast, is_]
end
