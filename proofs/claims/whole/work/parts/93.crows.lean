/-! THE CLASS'S Rows: small methods, stayBits, nextState -/
theorem RPl {p0 p1 p2 p3 p4 p5 p6 p7 q k : Nat} (hv : q = 43 ∨ q = 112) (hk : k < 3) : RP p0 p1 p2 p3 p4 p5 p6 p7 (q + 1) k = some (q + 2 + k) ∧ pshn (q + 2 + k) = some (.inl (.long, 400)) := by
  have : k = 0 ∨ k = 1 ∨ k = 2 := by omega
  rcases hv with rfl | rfl <;> rcases this with rfl | rfl | rfl <;> exact ⟨rfl, rfl⟩
def lbh (m : Mat) (i : Nat) : Nat := if qmode m = 0 then (i + 1) % qS m else if qmode m = 2 then qS m - 1 - i else 0
theorem lbh_lt {m : Mat} (hw : wf m) {i : Nat} (hi : i < qS m) : lbh m i < nlay m ∧ lbh m i < 3 := by
  have hS := hw.1
  have hm := hw.2.2.2.2.2.1.2.2.1
  unfold lbh nlay
  by_cases c0 : qmode m = 0
  · rw [if_pos c0, if_neg (by omega)]
    have := Nat.mod_lt (i + 1) (show 0 < qS m by omega)
    omega
  · by_cases c2 : qmode m = 2
    · rw [if_neg c0, if_pos c2, if_neg (by omega)]
      omega
    · rw [if_neg c0, if_neg c2, if_pos (by omega)]
      omega
/-- what the rows stand on -/
def KB (m : Mat) (b : Nat → Int) (q : Nat) (Z : Nat → Nat → Int) : Prop := (∀ i : Nat, i < qS m → Z (q + 8) i = qgoal m i + b i) ∧ ∀ i : Nat, i < qS m → Z (q + 5) i = lbh m i
def bOK (m : Mat) (b : Nat → Int) : Prop := ∀ i : Nat, i < qS m → -300000 ≤ b i ∧ b i ≤ 300000
def msl (f : Nat → Int) : Nat → Int
  | 0 => f 0
  | n + 1 => if f (n + 1) < msl f n then f (n + 1) else msl f n
theorem msl_iff {f : Nat → Int} {x : Int} : ∀ n : Nat, x ≤ msl f n ↔ ∀ i : Nat, i ≤ n → x ≤ f i
  | 0 => ⟨fun h i hi => by rw [show i = 0 by omega]; exact h, fun h => h 0 (Nat.le_refl _)⟩
  | n + 1 => by
    have ih := msl_iff (f := f) (x := x) n
    unfold msl
    constructor
    · intro h i hi
      split at h
      · by_cases c : i = n + 1
        · rw [c]; exact h
        · exact ih.mp (by omega) i (by omega)
      · by_cases c : i = n + 1
        · rw [c]; omega
        · exact ih.mp h i (by omega)
    · intro h
      have h1 := ih.mpr (fun i hi => h i (by omega))
      have h2 := h (n + 1) (Nat.le_refl _)
      split <;> omega
theorem msl_b {f : Nat → Int} {A : Int} : ∀ n : Nat, (∀ i : Nat, i ≤ n → -A ≤ f i ∧ f i ≤ A) → -A ≤ msl f n ∧ msl f n ≤ A
  | 0, h => h 0 (Nat.le_refl _)
  | n + 1, h => by
    have h1 := msl_b n (fun i hi => h i (by omega))
    have h2 := h (n + 1) (Nat.le_refl _)
    unfold msl
    split <;> omega
theorem gb_mask2 : ∀ M : Fin 42, ∀ n : Fin 64, 1 ≤ M.val → gb (((1 : Int64) <<< ((i32 ((M.val : Nat) : Int)).toInt64 &&& 63)) - 2) n.val = decide (1 ≤ n.val ∧ n.val < M.val) := by decide +kernel
theorem li_n12 : (12 : Int32) = i32 12 := rfl
section
variable {d : Nat} {J : Nat → Nat → Int64} {Z : Nat → Nat → Int} {p0 p1 p2 p5 p6 p7 : Nat} {m : Mat} {b : Nat → Int}
theorem h_layerBehind_a (hp : p2 = 5 ∨ p2 = 20) (hw : wf m) (hm : KM m p2 Z) {i : Nat} (hi : i < qS m) : Mean (d + 2) 65 [.ref 43, .int (i32 (i : Int))] (176, zs Z, J, RP p0 p1 p2 35 p2 p5 p6 p7) = some (some (.int (i32 ((lbh m i : Nat) : Int))), (176, zs Z, J, RP p0 p1 p2 35 p2 p5 p6 p7)) := by
  have hS := hw.1
  have hmd := hw.2.2.2.2.2.1.2.2.1
  have z1 : Z p2 1 = (qS m : Int) := hm.1.1
  have z13 : Z p2 13 = (qmode m : Int) := hm.1.2.2.2.2.1
  have sa := h_sideAfter (d := d) (J := J) (Z := Z) (p0 := p0) (p1 := p1) (p2 := p2) (p3 := 35) (p4 := p2) (p5 := p5) (p6 := p6) (p7 := p7) (h := p2) (by omega) hS.2 z1 hi
  unfold lbh
  rw [e_X6_layerBehindSide, k_X6_layerBehindSide_0_a (hv_p4 := by omega)]
  by_cases c0 : qmode m = 0
  · rw [if_pos c0]
    simp (disch := omega) only [k_X6_layerBehindSide_10_a, k_X6_layerBehindSide_18_a, k_X6_layerBehindSide_19_a, k_X6_layerBehindSide_30_a, k_X6_layerBehindSide_44_a, k_X6_layerBehindSide_45_a, li_0, li_1, li_2, li_3, li_4, li_5, li_6, li_9, li_10, li_40, lm_1, lm_2, lm_3, lm_4, zs_ap, i32_add, i32_sub, i32_mul, i32_neg, i32_lt, i32_le, i32_eq, i32_nat, ckn, pka_r, pka_v, if_pos, if_neg, if_true, if_false, z13, c0, sa]
  · rw [if_neg c0]
    by_cases c2 : qmode m = 2
    · rw [if_pos c2]
      simp (disch := omega) only [k_X6_layerBehindSide_10_a, k_X6_layerBehindSide_18_a, k_X6_layerBehindSide_19_a, k_X6_layerBehindSide_30_a, k_X6_layerBehindSide_44_a, k_X6_layerBehindSide_45_a, li_0, li_1, li_2, li_3, li_4, li_5, li_6, li_9, li_10, li_40, lm_1, lm_2, lm_3, lm_4, zs_ap, i32_add, i32_sub, i32_mul, i32_neg, i32_lt, i32_le, i32_eq, i32_nat, ckn, pka_r, pka_v, if_pos, if_neg, if_true, if_false, z13, c2, z1]
      rw [show (qS m : Int) - 1 - (i : Int) = ((qS m - 1 - i : Nat) : Int) by omega]
    · rw [if_neg c2]
      simp (disch := omega) only [k_X6_layerBehindSide_10_a, k_X6_layerBehindSide_18_a, k_X6_layerBehindSide_19_a, k_X6_layerBehindSide_30_a, k_X6_layerBehindSide_44_a, k_X6_layerBehindSide_45_a, li_0, li_1, li_2, li_3, li_4, li_5, li_6, li_9, li_10, li_40, lm_1, lm_2, lm_3, lm_4, zs_ap, i32_add, i32_sub, i32_mul, i32_neg, i32_lt, i32_le, i32_eq, i32_nat, ckn, pka_r, pka_v, if_pos, if_neg, if_true, if_false, z13]
      rfl
theorem h_clearLayer_a (hw : wf m) (hk : KW m 35 Z) {t : Nat} (ht : t < 3) : ∃ J' : Nat → Nat → Int64, (∀ a : Nat, a ≠ 45 + t → J' a = J a) ∧ (∀ s : Nat, s < qN m → J' (45 + t) s = if s = qfin m then 1 else 0) ∧ Mean (d + 1) 66 [.ref 43, .ref (45 + t)] (176, zs Z, J, RP p0 p1 p2 35 p2 p5 p6 p7) = some (none, (176, zs Z, J', RP p0 p1 p2 35 p2 p5 p6 p7)) := by
  obtain ⟨r1, r2⟩ := RPl (p0 := p0) (p1 := p1) (p2 := p2) (p3 := 35) (p4 := p2) (p5 := p5) (p6 := p6) (p7 := p7) (q := 43) (by omega) ht
  have r2' : pshn (45 + t) = some (.inl (.long, 400)) := r2
  have hN := qpl_b hw (k := qP m) (Nat.le_refl _)
  have hN' : qN m = qpl m (qP m) := rfl
  have hfin := qfin_lt hw
  have z1 : Z 35 1 = (qN m : Int) := hk.1.1
  have z3 : Z 35 3 = (qfin m : Int) := hk.1.2.2
  obtain ⟨J', ⟨v1, v2⟩, e⟩ := up_inv (fun (s : Nat) (J : Nat → Nat → Int64) => den none (Mean d) none tQ_X6_clearLayer (2, [some (.ref 43), some (.ref (45 + t)), some (.int (i32 (s : Int)))], [], 176, zs Z, J, RP p0 p1 p2 35 p2 p5 p6 p7)) (qN m) (fun s J' => (∀ a : Nat, a ≠ 45 + t → J' a = J a) ∧ ∀ x : Nat, x < s → J' (45 + t) x = if x = qfin m then 1 else 0) (fun s J' hs hv => by
    refine ⟨u2 J' (45 + t) s (if s = qfin m then 1 else 0), ⟨fun a ha => (u2_ne ha).trans (hv.1 a ha), fun x hx => ?_⟩, ?_⟩
    · by_cases c : x = s
      · rw [c, u2s]
      · rw [u2f c]
        exact hv.2 x (by omega)
    · show den none (Mean d) none tQ_X6_clearLayer (2, _, [], 176, zs Z, J', _) = _
      rw [k_X6_clearLayer_2_a]
      by_cases c : s = qfin m
      · rw [if_pos c]
        simp (disch := first | omega | assumption) only [k_X6_clearLayer_0_a, k_X6_clearLayer_13_a, k_X6_clearLayer_26_a, k_X6_clearLayer_30_a, k_X6_clearLayer_31_a, k_X6_clearLayer_32_a, k_X6_clearLayer_38_a, li_0, li_1, li_2, li_3, li_4, li_5, li_6, li_9, li_10, li_40, lm_1, lm_2, lm_3, lm_4, zs_ap, i32_add, i32_sub, i32_mul, i32_neg, i32_lt, i32_le, i32_eq, i32_nat, ckn, pka_r, pka_v, if_pos, if_neg, if_true, if_false, z1, z3, c, Int.toNat_natCast]
        rfl
      · rw [if_neg c]
        simp (disch := first | omega | assumption) only [k_X6_clearLayer_0_a, k_X6_clearLayer_13_a, k_X6_clearLayer_26_a, k_X6_clearLayer_30_a, k_X6_clearLayer_31_a, k_X6_clearLayer_32_a, k_X6_clearLayer_38_a, li_0, li_1, li_2, li_3, li_4, li_5, li_6, li_9, li_10, li_40, lm_1, lm_2, lm_3, lm_4, zs_ap, i32_add, i32_sub, i32_mul, i32_neg, i32_lt, i32_le, i32_eq, i32_nat, ckn, pka_r, pka_v, if_pos, if_neg, if_true, if_false, z1, z3, Int.toNat_natCast]
        rfl) J ⟨fun _ _ => rfl, fun x hx => by omega⟩
  refine ⟨J', v1, v2, ?_⟩
  rw [e_X6_clearLayer, k_X6_clearLayer_0_a]
  refine Eq.trans e ?_
  show den none (Mean d) none tQ_X6_clearLayer (2, _, [], 176, zs Z, J', _) = _
  rw [k_X6_clearLayer_2_a]
  simp (disch := omega) only [k_X6_clearLayer_0_a, k_X6_clearLayer_13_a, k_X6_clearLayer_26_a, k_X6_clearLayer_30_a, k_X6_clearLayer_31_a, k_X6_clearLayer_32_a, k_X6_clearLayer_38_a, li_0, li_1, li_2, li_3, li_4, li_5, li_6, li_9, li_10, li_40, lm_1, lm_2, lm_3, lm_4, zs_ap, i32_add, i32_sub, i32_mul, i32_neg, i32_lt, i32_le, i32_eq, i32_nat, ckn, pka_r, pka_v, if_pos, if_neg, if_true, if_false, z1]
theorem h_stayBits_a (hp : p2 = 5 ∨ p2 = 20) (hw : wf m) (hb : bOK m b) (hm : KM m p2 Z) (hk : KS m 35 Z) (hr : KB m b 43 Z) {s : Nat} (hs : s < qN m) : ∃ x : Int64, (∀ n : Nat, n < 64 → gb x n = sty m b s n) ∧ Mean (d + 1) 69 [.ref 43, .int (i32 (s : Int))] (176, zs Z, J, RP p0 p1 p2 35 p2 p5 p6 p7) = some (some (.long x), (176, zs Z, J, RP p0 p1 p2 35 p2 p5 p6 p7)) := by
  have hS := hw.1
  have hday := hw.2.2.2.2.2.1.1
  have hN := qpl_b hw (k := qP m) (Nat.le_refl _)
  have hN' : qN m = qpl m (qP m) := rfl
  have z1 : Z p2 1 = (qS m : Int) := hm.1.1
  have z11 : Z p2 11 = (qday m : Int) := hm.1.2.2.1
  have hf : ∀ i : Nat, i < qS m → -500000 ≤ qgoal m i + b i - qstop m s i ∧ qgoal m i + b i - qstop m s i ≤ 500000 := fun i hi => by
    have h1 := qgoal_b hw hi
    have h2 := qstop_b hw s hi
    have h3 := hb i hi
    omega
  have hml := msl_b (f := fun i => qgoal m i + b i - qstop m s i) (A := 500000) (qS m - 1) (fun i hi => hf i (by omega))
  have key := up_eq (fun (n : Nat) => den none (Mean d) (some .long) tQ_X6_stayBits (21, [some (.ref 43), some (.int (i32 (s : Int))), some (.int (i32 (msl (fun i => qgoal m i + b i - qstop m s i) n))), some (.int (i32 ((n + 1 : Nat) : Int)))], [], 176, zs Z, J, RP p0 p1 p2 35 p2 p5 p6 p7)) (qS m - 1) (fun n hn => by
    obtain ⟨r1, r2⟩ := RPs (p0 := p0) (p1 := p1) (p2 := p2) (p3 := 35) (p4 := p2) (p5 := p5) (p6 := p6) (p7 := p7) (g := 35) (by omega) (show n + 1 < 3 by omega)
    have r1' : RP p0 p1 p2 35 p2 p5 p6 p7 37 (n + 1) = some (38 + (n + 1)) := r1
    have r2' : pshn (38 + (n + 1)) = some (.inl (.int, 400)) := r2
    have b1 := msl_b (f := fun i => qgoal m i + b i - qstop m s i) (A := 500000) n (fun i hi => hf i (by omega))
    have b2 := hf (n + 1) (by omega)
    have zb : Z 51 (n + 1) = qgoal m (n + 1) + b (n + 1) := hr.1 (n + 1) (by omega)
    have zst : Z (38 + (n + 1)) s = qstop m s (n + 1) := hk.2.1 (n + 1) (by omega) s hs
    have en : ((n + 1 : Nat) : Int).toNat = n + 1 := Int.toNat_natCast _
    rw [k_X6_stayBits_21_a (hv_p4 := by omega)]
    simp (disch := first | omega | assumption) only [k_X6_stayBits_0_a, k_X6_stayBits_6_a, k_X6_stayBits_15_a, k_X6_stayBits_17_a, k_X6_stayBits_32_a, k_X6_stayBits_39_a, k_X6_stayBits_48_a, k_X6_stayBits_50_a, k_X6_stayBits_61_a, k_X6_stayBits_65_a, k_X6_stayBits_67_a, k_X6_stayBits_77_a, k_X6_stayBits_88_a, k_X6_stayBits_94_a, k_X6_stayBits_96_a, li_0, li_1, li_2, li_3, li_4, li_5, li_6, li_9, li_10, li_40, lm_1, lm_2, lm_3, lm_4, zs_ap, i32_add, i32_sub, i32_mul, i32_neg, i32_lt, i32_le, i32_eq, i32_nat, ckn, pka_r, pka_v, if_pos, if_neg, if_true, if_false, z1, en, Int.toNat_natCast, zb, r1', va_rf, zst]
    show _ = den none (Mean d) (some .long) tQ_X6_stayBits (21, [some (.ref 43), some (.int (i32 (s : Int))), some (.int (i32 (if qgoal m (n + 1) + b (n + 1) - qstop m s (n + 1) < msl (fun i => qgoal m i + b i - qstop m s i) n then qgoal m (n + 1) + b (n + 1) - qstop m s (n + 1) else msl (fun i => qgoal m i + b i - qstop m s i) n))), some (.int (i32 ((n + 1 + 1 : Nat) : Int)))], [], 176, zs Z, J, RP p0 p1 p2 35 p2 p5 p6 p7)
    by_cases cl : qgoal m (n + 1) + b (n + 1) - qstop m s (n + 1) < msl (fun i => qgoal m i + b i - qstop m s i) n
    · rw [if_pos cl, if_pos cl]
      rfl
    · rw [if_neg cl, if_neg cl]
      rfl)
  obtain ⟨r1, r2⟩ := RPs (p0 := p0) (p1 := p1) (p2 := p2) (p3 := 35) (p4 := p2) (p5 := p5) (p6 := p6) (p7 := p7) (g := 35) (by omega) (show 0 < 3 by omega)
  have r1' : RP p0 p1 p2 35 p2 p5 p6 p7 37 0 = some 38 := r1
  have r2' : pshn 38 = some (.inl (.int, 400)) := r2
  have zb : Z 51 0 = qgoal m 0 + b 0 := hr.1 0 (by omega)
  have zst : Z 38 s = qstop m s 0 := hk.2.1 0 (by omega) s hs
  have t0 : (0 : Int).toNat = 0 := rfl
  have e1 : Mean (d + 1) 69 [.ref 43, .int (i32 (s : Int))] (176, zs Z, J, RP p0 p1 p2 35 p2 p5 p6 p7) = den none (Mean d) (some .long) tQ_X6_stayBits (61, [some (.ref 43), some (.int (i32 (s : Int))), some (.int (i32 (msl (fun i => qgoal m i + b i - qstop m s i) (qS m - 1)))), some (.int (i32 ((qS m : Nat) : Int)))], [], 176, zs Z, J, RP p0 p1 p2 35 p2 p5 p6 p7) := by
    rw [e_X6_stayBits, k_X6_stayBits_0_a]
    simp (disch := first | omega | assumption) only [k_X6_stayBits_6_a, k_X6_stayBits_15_a, k_X6_stayBits_17_a, k_X6_stayBits_32_a, k_X6_stayBits_39_a, k_X6_stayBits_48_a, k_X6_stayBits_50_a, k_X6_stayBits_65_a, k_X6_stayBits_67_a, k_X6_stayBits_77_a, k_X6_stayBits_88_a, k_X6_stayBits_94_a, k_X6_stayBits_96_a, li_0, li_1, li_2, li_3, li_4, li_5, li_6, li_9, li_10, li_40, lm_1, lm_2, lm_3, lm_4, zs_ap, i32_add, i32_sub, i32_mul, i32_neg, i32_lt, i32_le, i32_eq, i32_nat, ckn, pka_r, pka_v, if_pos, if_neg, if_true, if_false, t0, zb, r1', va_rf, Int.toNat_natCast, zst]
    refine Eq.trans key ?_
    show den none (Mean d) (some .long) tQ_X6_stayBits (21, _, [], 176, zs Z, J, _) = _
    rw [k_X6_stayBits_21_a (hv_p4 := by omega), show ((qS m - 1 + 1 : Nat) : Int) = ((qS m : Nat) : Int) by omega]
    simp (disch := omega) only [k_X6_stayBits_0_a, k_X6_stayBits_6_a, k_X6_stayBits_15_a, k_X6_stayBits_17_a, k_X6_stayBits_32_a, k_X6_stayBits_39_a, k_X6_stayBits_48_a, k_X6_stayBits_50_a, k_X6_stayBits_65_a, k_X6_stayBits_67_a, k_X6_stayBits_77_a, k_X6_stayBits_88_a, k_X6_stayBits_94_a, k_X6_stayBits_96_a, li_0, li_1, li_2, li_3, li_4, li_5, li_6, li_9, li_10, li_40, lm_1, lm_2, lm_3, lm_4, zs_ap, i32_add, i32_sub, i32_mul, i32_neg, i32_lt, i32_le, i32_eq, i32_nat, ckn, pka_r, pka_v, if_pos, if_neg, if_true, if_false, z1]
  generalize hsl : msl (fun i => qgoal m i + b i - qstop m s i) (qS m - 1) = sl at *
  have hiff : ∀ n : Nat, (∀ i : Nat, i < qS m → qstop m s i + (n : Int) * (qday m : Int) ≤ b i + qgoal m i) ↔ (n : Int) * (qday m : Int) ≤ sl := fun n => by
    rw [← hsl, msl_iff]
    constructor
    · intro h i hi
      have := h i (by omega)
      omega
    · intro h i hi
      have := h i (by omega)
      omega
  by_cases c0 : 0 ≤ sl
  · have hmost : ∃ M : Nat, M ≤ 40 ∧ (∀ n : Nat, n ≤ 40 → (n ≤ M ↔ (n : Int) * (qday m : Int) ≤ sl)) ∧ Mean (d + 1) 69 [.ref 43, .int (i32 (s : Int))] (176, zs Z, J, RP p0 p1 p2 35 p2 p5 p6 p7) = some (some (.long (((1 : Int64) <<< ((i32 ((M + 1 : Nat) : Int)).toInt64 &&& 63)) - 2)), (176, zs Z, J, RP p0 p1 p2 35 p2 p5 p6 p7)) := by
      by_cases cd : qday m = 0
      · refine ⟨40, Nat.le_refl _, fun n hn => ?_, ?_⟩
        · rw [cd]
          simp
          omega
        · rw [e1, k_X6_stayBits_61_a]
          simp (disch := omega) only [k_X6_stayBits_0_a, k_X6_stayBits_6_a, k_X6_stayBits_15_a, k_X6_stayBits_17_a, k_X6_stayBits_32_a, k_X6_stayBits_39_a, k_X6_stayBits_48_a, k_X6_stayBits_50_a, k_X6_stayBits_65_a, k_X6_stayBits_67_a, k_X6_stayBits_77_a, k_X6_stayBits_88_a, k_X6_stayBits_94_a, k_X6_stayBits_96_a, li_0, li_1, li_2, li_3, li_4, li_5, li_6, li_9, li_10, li_40, lm_1, lm_2, lm_3, lm_4, zs_ap, i32_add, i32_sub, i32_mul, i32_neg, i32_lt, i32_le, i32_eq, i32_nat, ckn, pka_r, pka_v, if_pos, if_neg, if_true, if_false, z11, cd]
          rfl
      · have hdiv : sl.tdiv (qday m : Int) = sl / (qday m : Int) := Int.tdiv_eq_ediv_of_nonneg c0
        have hle : sl / (qday m : Int) ≤ sl := Int.ediv_le_self _ c0
        have h0 : 0 ≤ sl / (qday m : Int) := Int.ediv_nonneg c0 (by omega)
        have hii : ∀ n : Nat, ((n : Int) ≤ sl / (qday m : Int) ↔ (n : Int) * (qday m : Int) ≤ sl) := fun n => Int.le_ediv_iff_mul_le (by omega)
        generalize hy : sl / (qday m : Int) = y at *
        by_cases cy : y < 40
        · refine ⟨y.toNat, by omega, fun n hn => ?_, ?_⟩
          · rw [← hii n]
            omega
          · rw [e1, k_X6_stayBits_61_a]
            simp (disch := omega) only [k_X6_stayBits_0_a, k_X6_stayBits_6_a, k_X6_stayBits_15_a, k_X6_stayBits_17_a, k_X6_stayBits_32_a, k_X6_stayBits_39_a, k_X6_stayBits_48_a, k_X6_stayBits_50_a, k_X6_stayBits_65_a, k_X6_stayBits_67_a, k_X6_stayBits_77_a, k_X6_stayBits_88_a, k_X6_stayBits_94_a, k_X6_stayBits_96_a, li_0, li_1, li_2, li_3, li_4, li_5, li_6, li_9, li_10, li_40, lm_1, lm_2, lm_3, lm_4, zs_ap, i32_add, i32_sub, i32_mul, i32_neg, i32_lt, i32_le, i32_eq, i32_nat, ckn, pka_r, pka_v, if_pos, if_neg, if_true, if_false, z11, i32_div, hdiv]
            rw [show ((y.toNat + 1 : Nat) : Int) = y + 1 by omega]
        · refine ⟨40, Nat.le_refl _, fun n hn => ?_, ?_⟩
          · rw [← hii n]
            omega
          · rw [e1, k_X6_stayBits_61_a]
            simp (disch := omega) only [k_X6_stayBits_0_a, k_X6_stayBits_6_a, k_X6_stayBits_15_a, k_X6_stayBits_17_a, k_X6_stayBits_32_a, k_X6_stayBits_39_a, k_X6_stayBits_48_a, k_X6_stayBits_50_a, k_X6_stayBits_65_a, k_X6_stayBits_67_a, k_X6_stayBits_77_a, k_X6_stayBits_88_a, k_X6_stayBits_94_a, k_X6_stayBits_96_a, li_0, li_1, li_2, li_3, li_4, li_5, li_6, li_9, li_10, li_40, lm_1, lm_2, lm_3, lm_4, zs_ap, i32_add, i32_sub, i32_mul, i32_neg, i32_lt, i32_le, i32_eq, i32_nat, ckn, pka_r, pka_v, if_pos, if_neg, if_true, if_false, z11, i32_div, hdiv]
            rfl
    obtain ⟨M, h1, h2, h3⟩ := hmost
    refine ⟨_, fun n hn => ?_, h3⟩
    have g := gb_mask2 ⟨M + 1, by omega⟩ ⟨n, hn⟩ (by simp)
    simp only at g
    rw [g]
    apply beq_iff
    unfold sty
    rw [Bool.and_eq_true, decide_eq_true_iff, decide_eq_true_iff, qstay_iff hw, hiff]
    constructor
    · intro ⟨q1, q2⟩
      exact ⟨q1, by omega, (h2 n (by omega)).mp (by omega)⟩
    · intro ⟨q1, q2, q3⟩
      have := (h2 n q2).mpr q3
      omega
  · refine ⟨0, fun n hn => ?_, ?_⟩
    · rw [gb_0]
      symm
      cases c : sty m b s n
      · rfl
      · unfold sty at c
        rw [Bool.and_eq_true, qstay_iff hw, hiff] at c
        have := Int.mul_nonneg (show 0 ≤ (n : Int) by omega) (show 0 ≤ (qday m : Int) by omega)
        omega
    · rw [e1, k_X6_stayBits_61_a]
      simp (disch := omega) only [k_X6_stayBits_0_a, k_X6_stayBits_6_a, k_X6_stayBits_15_a, k_X6_stayBits_17_a, k_X6_stayBits_32_a, k_X6_stayBits_39_a, k_X6_stayBits_48_a, k_X6_stayBits_50_a, k_X6_stayBits_65_a, k_X6_stayBits_67_a, k_X6_stayBits_77_a, k_X6_stayBits_88_a, k_X6_stayBits_94_a, k_X6_stayBits_96_a, li_0, li_1, li_2, li_3, li_4, li_5, li_6, li_9, li_10, li_40, lm_1, lm_2, lm_3, lm_4, zs_ap, i32_add, i32_sub, i32_mul, i32_neg, i32_lt, i32_le, i32_eq, i32_nat, ckn, pka_r, pka_v, if_pos, if_neg, if_true, if_false]
end
section
variable {d : Nat} {J : Nat → Nat → Int64} {Z : Nat → Nat → Int} {p0 p1 p2 p3 p4 p7 : Nat} {m : Mat} {b : Nat → Int}
theorem h_layerBehind_b (hp : p2 = 5 ∨ p2 = 20) (hw : wf m) (hm : KM m p2 Z) {i : Nat} (hi : i < qS m) : Mean (d + 2) 65 [.ref 112, .int (i32 (i : Int))] (176, zs Z, J, RP p0 p1 p2 p3 p4 35 p2 p7) = some (some (.int (i32 ((lbh m i : Nat) : Int))), (176, zs Z, J, RP p0 p1 p2 p3 p4 35 p2 p7)) := by
  have hS := hw.1
  have hmd := hw.2.2.2.2.2.1.2.2.1
  have z1 : Z p2 1 = (qS m : Int) := hm.1.1
  have z13 : Z p2 13 = (qmode m : Int) := hm.1.2.2.2.2.1
  have sa := h_sideAfter (d := d) (J := J) (Z := Z) (p0 := p0) (p1 := p1) (p2 := p2) (p3 := p3) (p4 := p4) (p5 := 35) (p6 := p2) (p7 := p7) (h := p2) (by omega) hS.2 z1 hi
  unfold lbh
  rw [e_X6_layerBehindSide, k_X6_layerBehindSide_0_b (hv_p6 := by omega)]
  by_cases c0 : qmode m = 0
  · rw [if_pos c0]
    simp (disch := omega) only [k_X6_layerBehindSide_10_b, k_X6_layerBehindSide_18_b, k_X6_layerBehindSide_19_b, k_X6_layerBehindSide_30_b, k_X6_layerBehindSide_44_b, k_X6_layerBehindSide_45_b, li_0, li_1, li_2, li_3, li_4, li_5, li_6, li_9, li_10, li_40, lm_1, lm_2, lm_3, lm_4, zs_ap, i32_add, i32_sub, i32_mul, i32_neg, i32_lt, i32_le, i32_eq, i32_nat, ckn, pka_r, pka_v, if_pos, if_neg, if_true, if_false, z13, c0, sa]
  · rw [if_neg c0]
    by_cases c2 : qmode m = 2
    · rw [if_pos c2]
      simp (disch := omega) only [k_X6_layerBehindSide_10_b, k_X6_layerBehindSide_18_b, k_X6_layerBehindSide_19_b, k_X6_layerBehindSide_30_b, k_X6_layerBehindSide_44_b, k_X6_layerBehindSide_45_b, li_0, li_1, li_2, li_3, li_4, li_5, li_6, li_9, li_10, li_40, lm_1, lm_2, lm_3, lm_4, zs_ap, i32_add, i32_sub, i32_mul, i32_neg, i32_lt, i32_le, i32_eq, i32_nat, ckn, pka_r, pka_v, if_pos, if_neg, if_true, if_false, z13, c2, z1]
      rw [show (qS m : Int) - 1 - (i : Int) = ((qS m - 1 - i : Nat) : Int) by omega]
    · rw [if_neg c2]
      simp (disch := omega) only [k_X6_layerBehindSide_10_b, k_X6_layerBehindSide_18_b, k_X6_layerBehindSide_19_b, k_X6_layerBehindSide_30_b, k_X6_layerBehindSide_44_b, k_X6_layerBehindSide_45_b, li_0, li_1, li_2, li_3, li_4, li_5, li_6, li_9, li_10, li_40, lm_1, lm_2, lm_3, lm_4, zs_ap, i32_add, i32_sub, i32_mul, i32_neg, i32_lt, i32_le, i32_eq, i32_nat, ckn, pka_r, pka_v, if_pos, if_neg, if_true, if_false, z13]
      rfl
theorem h_clearLayer_b (hw : wf m) (hk : KW m 35 Z) {t : Nat} (ht : t < 3) : ∃ J' : Nat → Nat → Int64, (∀ a : Nat, a ≠ 114 + t → J' a = J a) ∧ (∀ s : Nat, s < qN m → J' (114 + t) s = if s = qfin m then 1 else 0) ∧ Mean (d + 1) 66 [.ref 112, .ref (114 + t)] (176, zs Z, J, RP p0 p1 p2 p3 p4 35 p2 p7) = some (none, (176, zs Z, J', RP p0 p1 p2 p3 p4 35 p2 p7)) := by
  obtain ⟨r1, r2⟩ := RPl (p0 := p0) (p1 := p1) (p2 := p2) (p3 := p3) (p4 := p4) (p5 := 35) (p6 := p2) (p7 := p7) (q := 112) (by omega) ht
  have r2' : pshn (114 + t) = some (.inl (.long, 400)) := r2
  have hN := qpl_b hw (k := qP m) (Nat.le_refl _)
  have hN' : qN m = qpl m (qP m) := rfl
  have hfin := qfin_lt hw
  have z1 : Z 35 1 = (qN m : Int) := hk.1.1
  have z3 : Z 35 3 = (qfin m : Int) := hk.1.2.2
  obtain ⟨J', ⟨v1, v2⟩, e⟩ := up_inv (fun (s : Nat) (J : Nat → Nat → Int64) => den none (Mean d) none tQ_X6_clearLayer (2, [some (.ref 112), some (.ref (114 + t)), some (.int (i32 (s : Int)))], [], 176, zs Z, J, RP p0 p1 p2 p3 p4 35 p2 p7)) (qN m) (fun s J' => (∀ a : Nat, a ≠ 114 + t → J' a = J a) ∧ ∀ x : Nat, x < s → J' (114 + t) x = if x = qfin m then 1 else 0) (fun s J' hs hv => by
    refine ⟨u2 J' (114 + t) s (if s = qfin m then 1 else 0), ⟨fun a ha => (u2_ne ha).trans (hv.1 a ha), fun x hx => ?_⟩, ?_⟩
    · by_cases c : x = s
      · rw [c, u2s]
      · rw [u2f c]
        exact hv.2 x (by omega)
    · show den none (Mean d) none tQ_X6_clearLayer (2, _, [], 176, zs Z, J', _) = _
      rw [k_X6_clearLayer_2_b]
      by_cases c : s = qfin m
      · rw [if_pos c]
        simp (disch := first | omega | assumption) only [k_X6_clearLayer_0_b, k_X6_clearLayer_13_b, k_X6_clearLayer_26_b, k_X6_clearLayer_30_b, k_X6_clearLayer_31_b, k_X6_clearLayer_32_b, k_X6_clearLayer_38_b, li_0, li_1, li_2, li_3, li_4, li_5, li_6, li_9, li_10, li_40, lm_1, lm_2, lm_3, lm_4, zs_ap, i32_add, i32_sub, i32_mul, i32_neg, i32_lt, i32_le, i32_eq, i32_nat, ckn, pka_r, pka_v, if_pos, if_neg, if_true, if_false, z1, z3, c, Int.toNat_natCast]
        rfl
      · rw [if_neg c]
        simp (disch := first | omega | assumption) only [k_X6_clearLayer_0_b, k_X6_clearLayer_13_b, k_X6_clearLayer_26_b, k_X6_clearLayer_30_b, k_X6_clearLayer_31_b, k_X6_clearLayer_32_b, k_X6_clearLayer_38_b, li_0, li_1, li_2, li_3, li_4, li_5, li_6, li_9, li_10, li_40, lm_1, lm_2, lm_3, lm_4, zs_ap, i32_add, i32_sub, i32_mul, i32_neg, i32_lt, i32_le, i32_eq, i32_nat, ckn, pka_r, pka_v, if_pos, if_neg, if_true, if_false, z1, z3, Int.toNat_natCast]
        rfl) J ⟨fun _ _ => rfl, fun x hx => by omega⟩
  refine ⟨J', v1, v2, ?_⟩
  rw [e_X6_clearLayer, k_X6_clearLayer_0_b]
  refine Eq.trans e ?_
  show den none (Mean d) none tQ_X6_clearLayer (2, _, [], 176, zs Z, J', _) = _
  rw [k_X6_clearLayer_2_b]
  simp (disch := omega) only [k_X6_clearLayer_0_b, k_X6_clearLayer_13_b, k_X6_clearLayer_26_b, k_X6_clearLayer_30_b, k_X6_clearLayer_31_b, k_X6_clearLayer_32_b, k_X6_clearLayer_38_b, li_0, li_1, li_2, li_3, li_4, li_5, li_6, li_9, li_10, li_40, lm_1, lm_2, lm_3, lm_4, zs_ap, i32_add, i32_sub, i32_mul, i32_neg, i32_lt, i32_le, i32_eq, i32_nat, ckn, pka_r, pka_v, if_pos, if_neg, if_true, if_false, z1]
theorem h_stayBits_b (hp : p2 = 5 ∨ p2 = 20) (hw : wf m) (hb : bOK m b) (hm : KM m p2 Z) (hk : KS m 35 Z) (hr : KB m b 112 Z) {s : Nat} (hs : s < qN m) : ∃ x : Int64, (∀ n : Nat, n < 64 → gb x n = sty m b s n) ∧ Mean (d + 1) 69 [.ref 112, .int (i32 (s : Int))] (176, zs Z, J, RP p0 p1 p2 p3 p4 35 p2 p7) = some (some (.long x), (176, zs Z, J, RP p0 p1 p2 p3 p4 35 p2 p7)) := by
  have hS := hw.1
  have hday := hw.2.2.2.2.2.1.1
  have hN := qpl_b hw (k := qP m) (Nat.le_refl _)
  have hN' : qN m = qpl m (qP m) := rfl
  have z1 : Z p2 1 = (qS m : Int) := hm.1.1
  have z11 : Z p2 11 = (qday m : Int) := hm.1.2.2.1
  have hf : ∀ i : Nat, i < qS m → -500000 ≤ qgoal m i + b i - qstop m s i ∧ qgoal m i + b i - qstop m s i ≤ 500000 := fun i hi => by
    have h1 := qgoal_b hw hi
    have h2 := qstop_b hw s hi
    have h3 := hb i hi
    omega
  have hml := msl_b (f := fun i => qgoal m i + b i - qstop m s i) (A := 500000) (qS m - 1) (fun i hi => hf i (by omega))
  have key := up_eq (fun (n : Nat) => den none (Mean d) (some .long) tQ_X6_stayBits (21, [some (.ref 112), some (.int (i32 (s : Int))), some (.int (i32 (msl (fun i => qgoal m i + b i - qstop m s i) n))), some (.int (i32 ((n + 1 : Nat) : Int)))], [], 176, zs Z, J, RP p0 p1 p2 p3 p4 35 p2 p7)) (qS m - 1) (fun n hn => by
    obtain ⟨r1, r2⟩ := RPs (p0 := p0) (p1 := p1) (p2 := p2) (p3 := p3) (p4 := p4) (p5 := 35) (p6 := p2) (p7 := p7) (g := 35) (by omega) (show n + 1 < 3 by omega)
    have r1' : RP p0 p1 p2 p3 p4 35 p2 p7 37 (n + 1) = some (38 + (n + 1)) := r1
    have r2' : pshn (38 + (n + 1)) = some (.inl (.int, 400)) := r2
    have b1 := msl_b (f := fun i => qgoal m i + b i - qstop m s i) (A := 500000) n (fun i hi => hf i (by omega))
    have b2 := hf (n + 1) (by omega)
    have zb : Z 120 (n + 1) = qgoal m (n + 1) + b (n + 1) := hr.1 (n + 1) (by omega)
    have zst : Z (38 + (n + 1)) s = qstop m s (n + 1) := hk.2.1 (n + 1) (by omega) s hs
    have en : ((n + 1 : Nat) : Int).toNat = n + 1 := Int.toNat_natCast _
    rw [k_X6_stayBits_21_b (hv_p6 := by omega)]
    simp (disch := first | omega | assumption) only [k_X6_stayBits_0_b, k_X6_stayBits_6_b, k_X6_stayBits_15_b, k_X6_stayBits_17_b, k_X6_stayBits_32_b, k_X6_stayBits_39_b, k_X6_stayBits_48_b, k_X6_stayBits_50_b, k_X6_stayBits_61_b, k_X6_stayBits_65_b, k_X6_stayBits_67_b, k_X6_stayBits_77_b, k_X6_stayBits_88_b, k_X6_stayBits_94_b, k_X6_stayBits_96_b, li_0, li_1, li_2, li_3, li_4, li_5, li_6, li_9, li_10, li_40, lm_1, lm_2, lm_3, lm_4, zs_ap, i32_add, i32_sub, i32_mul, i32_neg, i32_lt, i32_le, i32_eq, i32_nat, ckn, pka_r, pka_v, if_pos, if_neg, if_true, if_false, z1, en, Int.toNat_natCast, zb, r1', va_rf, zst]
    show _ = den none (Mean d) (some .long) tQ_X6_stayBits (21, [some (.ref 112), some (.int (i32 (s : Int))), some (.int (i32 (if qgoal m (n + 1) + b (n + 1) - qstop m s (n + 1) < msl (fun i => qgoal m i + b i - qstop m s i) n then qgoal m (n + 1) + b (n + 1) - qstop m s (n + 1) else msl (fun i => qgoal m i + b i - qstop m s i) n))), some (.int (i32 ((n + 1 + 1 : Nat) : Int)))], [], 176, zs Z, J, RP p0 p1 p2 p3 p4 35 p2 p7)
    by_cases cl : qgoal m (n + 1) + b (n + 1) - qstop m s (n + 1) < msl (fun i => qgoal m i + b i - qstop m s i) n
    · rw [if_pos cl, if_pos cl]
      rfl
    · rw [if_neg cl, if_neg cl]
      rfl)
  obtain ⟨r1, r2⟩ := RPs (p0 := p0) (p1 := p1) (p2 := p2) (p3 := p3) (p4 := p4) (p5 := 35) (p6 := p2) (p7 := p7) (g := 35) (by omega) (show 0 < 3 by omega)
  have r1' : RP p0 p1 p2 p3 p4 35 p2 p7 37 0 = some 38 := r1
  have r2' : pshn 38 = some (.inl (.int, 400)) := r2
  have zb : Z 120 0 = qgoal m 0 + b 0 := hr.1 0 (by omega)
  have zst : Z 38 s = qstop m s 0 := hk.2.1 0 (by omega) s hs
  have t0 : (0 : Int).toNat = 0 := rfl
  have e1 : Mean (d + 1) 69 [.ref 112, .int (i32 (s : Int))] (176, zs Z, J, RP p0 p1 p2 p3 p4 35 p2 p7) = den none (Mean d) (some .long) tQ_X6_stayBits (61, [some (.ref 112), some (.int (i32 (s : Int))), some (.int (i32 (msl (fun i => qgoal m i + b i - qstop m s i) (qS m - 1)))), some (.int (i32 ((qS m : Nat) : Int)))], [], 176, zs Z, J, RP p0 p1 p2 p3 p4 35 p2 p7) := by
    rw [e_X6_stayBits, k_X6_stayBits_0_b]
    simp (disch := first | omega | assumption) only [k_X6_stayBits_6_b, k_X6_stayBits_15_b, k_X6_stayBits_17_b, k_X6_stayBits_32_b, k_X6_stayBits_39_b, k_X6_stayBits_48_b, k_X6_stayBits_50_b, k_X6_stayBits_65_b, k_X6_stayBits_67_b, k_X6_stayBits_77_b, k_X6_stayBits_88_b, k_X6_stayBits_94_b, k_X6_stayBits_96_b, li_0, li_1, li_2, li_3, li_4, li_5, li_6, li_9, li_10, li_40, lm_1, lm_2, lm_3, lm_4, zs_ap, i32_add, i32_sub, i32_mul, i32_neg, i32_lt, i32_le, i32_eq, i32_nat, ckn, pka_r, pka_v, if_pos, if_neg, if_true, if_false, t0, zb, r1', va_rf, Int.toNat_natCast, zst]
    refine Eq.trans key ?_
    show den none (Mean d) (some .long) tQ_X6_stayBits (21, _, [], 176, zs Z, J, _) = _
    rw [k_X6_stayBits_21_b (hv_p6 := by omega), show ((qS m - 1 + 1 : Nat) : Int) = ((qS m : Nat) : Int) by omega]
    simp (disch := omega) only [k_X6_stayBits_0_b, k_X6_stayBits_6_b, k_X6_stayBits_15_b, k_X6_stayBits_17_b, k_X6_stayBits_32_b, k_X6_stayBits_39_b, k_X6_stayBits_48_b, k_X6_stayBits_50_b, k_X6_stayBits_65_b, k_X6_stayBits_67_b, k_X6_stayBits_77_b, k_X6_stayBits_88_b, k_X6_stayBits_94_b, k_X6_stayBits_96_b, li_0, li_1, li_2, li_3, li_4, li_5, li_6, li_9, li_10, li_40, lm_1, lm_2, lm_3, lm_4, zs_ap, i32_add, i32_sub, i32_mul, i32_neg, i32_lt, i32_le, i32_eq, i32_nat, ckn, pka_r, pka_v, if_pos, if_neg, if_true, if_false, z1]
  generalize hsl : msl (fun i => qgoal m i + b i - qstop m s i) (qS m - 1) = sl at *
  have hiff : ∀ n : Nat, (∀ i : Nat, i < qS m → qstop m s i + (n : Int) * (qday m : Int) ≤ b i + qgoal m i) ↔ (n : Int) * (qday m : Int) ≤ sl := fun n => by
    rw [← hsl, msl_iff]
    constructor
    · intro h i hi
      have := h i (by omega)
      omega
    · intro h i hi
      have := h i (by omega)
      omega
  by_cases c0 : 0 ≤ sl
  · have hmost : ∃ M : Nat, M ≤ 40 ∧ (∀ n : Nat, n ≤ 40 → (n ≤ M ↔ (n : Int) * (qday m : Int) ≤ sl)) ∧ Mean (d + 1) 69 [.ref 112, .int (i32 (s : Int))] (176, zs Z, J, RP p0 p1 p2 p3 p4 35 p2 p7) = some (some (.long (((1 : Int64) <<< ((i32 ((M + 1 : Nat) : Int)).toInt64 &&& 63)) - 2)), (176, zs Z, J, RP p0 p1 p2 p3 p4 35 p2 p7)) := by
      by_cases cd : qday m = 0
      · refine ⟨40, Nat.le_refl _, fun n hn => ?_, ?_⟩
        · rw [cd]
          simp
          omega
        · rw [e1, k_X6_stayBits_61_b]
          simp (disch := omega) only [k_X6_stayBits_0_b, k_X6_stayBits_6_b, k_X6_stayBits_15_b, k_X6_stayBits_17_b, k_X6_stayBits_32_b, k_X6_stayBits_39_b, k_X6_stayBits_48_b, k_X6_stayBits_50_b, k_X6_stayBits_65_b, k_X6_stayBits_67_b, k_X6_stayBits_77_b, k_X6_stayBits_88_b, k_X6_stayBits_94_b, k_X6_stayBits_96_b, li_0, li_1, li_2, li_3, li_4, li_5, li_6, li_9, li_10, li_40, lm_1, lm_2, lm_3, lm_4, zs_ap, i32_add, i32_sub, i32_mul, i32_neg, i32_lt, i32_le, i32_eq, i32_nat, ckn, pka_r, pka_v, if_pos, if_neg, if_true, if_false, z11, cd]
          rfl
      · have hdiv : sl.tdiv (qday m : Int) = sl / (qday m : Int) := Int.tdiv_eq_ediv_of_nonneg c0
        have hle : sl / (qday m : Int) ≤ sl := Int.ediv_le_self _ c0
        have h0 : 0 ≤ sl / (qday m : Int) := Int.ediv_nonneg c0 (by omega)
        have hii : ∀ n : Nat, ((n : Int) ≤ sl / (qday m : Int) ↔ (n : Int) * (qday m : Int) ≤ sl) := fun n => Int.le_ediv_iff_mul_le (by omega)
        generalize hy : sl / (qday m : Int) = y at *
        by_cases cy : y < 40
        · refine ⟨y.toNat, by omega, fun n hn => ?_, ?_⟩
          · rw [← hii n]
            omega
          · rw [e1, k_X6_stayBits_61_b]
            simp (disch := omega) only [k_X6_stayBits_0_b, k_X6_stayBits_6_b, k_X6_stayBits_15_b, k_X6_stayBits_17_b, k_X6_stayBits_32_b, k_X6_stayBits_39_b, k_X6_stayBits_48_b, k_X6_stayBits_50_b, k_X6_stayBits_65_b, k_X6_stayBits_67_b, k_X6_stayBits_77_b, k_X6_stayBits_88_b, k_X6_stayBits_94_b, k_X6_stayBits_96_b, li_0, li_1, li_2, li_3, li_4, li_5, li_6, li_9, li_10, li_40, lm_1, lm_2, lm_3, lm_4, zs_ap, i32_add, i32_sub, i32_mul, i32_neg, i32_lt, i32_le, i32_eq, i32_nat, ckn, pka_r, pka_v, if_pos, if_neg, if_true, if_false, z11, i32_div, hdiv]
            rw [show ((y.toNat + 1 : Nat) : Int) = y + 1 by omega]
        · refine ⟨40, Nat.le_refl _, fun n hn => ?_, ?_⟩
          · rw [← hii n]
            omega
          · rw [e1, k_X6_stayBits_61_b]
            simp (disch := omega) only [k_X6_stayBits_0_b, k_X6_stayBits_6_b, k_X6_stayBits_15_b, k_X6_stayBits_17_b, k_X6_stayBits_32_b, k_X6_stayBits_39_b, k_X6_stayBits_48_b, k_X6_stayBits_50_b, k_X6_stayBits_65_b, k_X6_stayBits_67_b, k_X6_stayBits_77_b, k_X6_stayBits_88_b, k_X6_stayBits_94_b, k_X6_stayBits_96_b, li_0, li_1, li_2, li_3, li_4, li_5, li_6, li_9, li_10, li_40, lm_1, lm_2, lm_3, lm_4, zs_ap, i32_add, i32_sub, i32_mul, i32_neg, i32_lt, i32_le, i32_eq, i32_nat, ckn, pka_r, pka_v, if_pos, if_neg, if_true, if_false, z11, i32_div, hdiv]
            rfl
    obtain ⟨M, h1, h2, h3⟩ := hmost
    refine ⟨_, fun n hn => ?_, h3⟩
    have g := gb_mask2 ⟨M + 1, by omega⟩ ⟨n, hn⟩ (by simp)
    simp only at g
    rw [g]
    apply beq_iff
    unfold sty
    rw [Bool.and_eq_true, decide_eq_true_iff, decide_eq_true_iff, qstay_iff hw, hiff]
    constructor
    · intro ⟨q1, q2⟩
      exact ⟨q1, by omega, (h2 n (by omega)).mp (by omega)⟩
    · intro ⟨q1, q2, q3⟩
      have := (h2 n q2).mpr q3
      omega
  · refine ⟨0, fun n hn => ?_, ?_⟩
    · rw [gb_0]
      symm
      cases c : sty m b s n
      · rfl
      · unfold sty at c
        rw [Bool.and_eq_true, qstay_iff hw, hiff] at c
        have := Int.mul_nonneg (show 0 ≤ (n : Int) by omega) (show 0 ≤ (qday m : Int) by omega)
        omega
    · rw [e1, k_X6_stayBits_61_b]
      simp (disch := omega) only [k_X6_stayBits_0_b, k_X6_stayBits_6_b, k_X6_stayBits_15_b, k_X6_stayBits_17_b, k_X6_stayBits_32_b, k_X6_stayBits_39_b, k_X6_stayBits_48_b, k_X6_stayBits_50_b, k_X6_stayBits_65_b, k_X6_stayBits_67_b, k_X6_stayBits_77_b, k_X6_stayBits_88_b, k_X6_stayBits_94_b, k_X6_stayBits_96_b, li_0, li_1, li_2, li_3, li_4, li_5, li_6, li_9, li_10, li_40, lm_1, lm_2, lm_3, lm_4, zs_ap, i32_add, i32_sub, i32_mul, i32_neg, i32_lt, i32_le, i32_eq, i32_nat, ckn, pka_r, pka_v, if_pos, if_neg, if_true, if_false]
end
section
variable {d : Nat} {J : Nat → Nat → Int64} {Z : Nat → Nat → Int} {p0 p1 p2 p3 p4 : Nat} {m : Mat} {b : Nat → Int}
theorem h_layerBehind_c  (hw : wf m) (hm : KM m 97 Z) {i : Nat} (hi : i < qS m) : Mean (d + 2) 65 [.ref 112, .int (i32 (i : Int))] (176, zs Z, J, RP p0 p1 p2 p3 p4 121 97 97) = some (some (.int (i32 ((lbh m i : Nat) : Int))), (176, zs Z, J, RP p0 p1 p2 p3 p4 121 97 97)) := by
  have hS := hw.1
  have hmd := hw.2.2.2.2.2.1.2.2.1
  have z1 : Z 97 1 = (qS m : Int) := hm.1.1
  have z13 : Z 97 13 = (qmode m : Int) := hm.1.2.2.2.2.1
  have sa := h_sideAfter (d := d) (J := J) (Z := Z) (p0 := p0) (p1 := p1) (p2 := p2) (p3 := p3) (p4 := p4) (p5 := 121) (p6 := 97) (p7 := 97) (h := 97) (by omega) hS.2 z1 hi
  unfold lbh
  rw [e_X6_layerBehindSide, k_X6_layerBehindSide_0_c]
  by_cases c0 : qmode m = 0
  · rw [if_pos c0]
    simp (disch := omega) only [k_X6_layerBehindSide_10_c, k_X6_layerBehindSide_18_c, k_X6_layerBehindSide_19_c, k_X6_layerBehindSide_30_c, k_X6_layerBehindSide_44_c, k_X6_layerBehindSide_45_c, li_0, li_1, li_2, li_3, li_4, li_5, li_6, li_9, li_10, li_40, lm_1, lm_2, lm_3, lm_4, zs_ap, i32_add, i32_sub, i32_mul, i32_neg, i32_lt, i32_le, i32_eq, i32_nat, ckn, pka_r, pka_v, if_pos, if_neg, if_true, if_false, z13, c0, sa]
  · rw [if_neg c0]
    by_cases c2 : qmode m = 2
    · rw [if_pos c2]
      simp (disch := omega) only [k_X6_layerBehindSide_10_c, k_X6_layerBehindSide_18_c, k_X6_layerBehindSide_19_c, k_X6_layerBehindSide_30_c, k_X6_layerBehindSide_44_c, k_X6_layerBehindSide_45_c, li_0, li_1, li_2, li_3, li_4, li_5, li_6, li_9, li_10, li_40, lm_1, lm_2, lm_3, lm_4, zs_ap, i32_add, i32_sub, i32_mul, i32_neg, i32_lt, i32_le, i32_eq, i32_nat, ckn, pka_r, pka_v, if_pos, if_neg, if_true, if_false, z13, c2, z1]
      rw [show (qS m : Int) - 1 - (i : Int) = ((qS m - 1 - i : Nat) : Int) by omega]
    · rw [if_neg c2]
      simp (disch := omega) only [k_X6_layerBehindSide_10_c, k_X6_layerBehindSide_18_c, k_X6_layerBehindSide_19_c, k_X6_layerBehindSide_30_c, k_X6_layerBehindSide_44_c, k_X6_layerBehindSide_45_c, li_0, li_1, li_2, li_3, li_4, li_5, li_6, li_9, li_10, li_40, lm_1, lm_2, lm_3, lm_4, zs_ap, i32_add, i32_sub, i32_mul, i32_neg, i32_lt, i32_le, i32_eq, i32_nat, ckn, pka_r, pka_v, if_pos, if_neg, if_true, if_false, z13]
      rfl
theorem h_clearLayer_c (hw : wf m) (hk : KW m 121 Z) {t : Nat} (ht : t < 3) : ∃ J' : Nat → Nat → Int64, (∀ a : Nat, a ≠ 114 + t → J' a = J a) ∧ (∀ s : Nat, s < qN m → J' (114 + t) s = if s = qfin m then 1 else 0) ∧ Mean (d + 1) 66 [.ref 112, .ref (114 + t)] (176, zs Z, J, RP p0 p1 p2 p3 p4 121 97 97) = some (none, (176, zs Z, J', RP p0 p1 p2 p3 p4 121 97 97)) := by
  obtain ⟨r1, r2⟩ := RPl (p0 := p0) (p1 := p1) (p2 := p2) (p3 := p3) (p4 := p4) (p5 := 121) (p6 := 97) (p7 := 97) (q := 112) (by omega) ht
  have r2' : pshn (114 + t) = some (.inl (.long, 400)) := r2
  have hN := qpl_b hw (k := qP m) (Nat.le_refl _)
  have hN' : qN m = qpl m (qP m) := rfl
  have hfin := qfin_lt hw
  have z1 : Z 121 1 = (qN m : Int) := hk.1.1
  have z3 : Z 121 3 = (qfin m : Int) := hk.1.2.2
  obtain ⟨J', ⟨v1, v2⟩, e⟩ := up_inv (fun (s : Nat) (J : Nat → Nat → Int64) => den none (Mean d) none tQ_X6_clearLayer (2, [some (.ref 112), some (.ref (114 + t)), some (.int (i32 (s : Int)))], [], 176, zs Z, J, RP p0 p1 p2 p3 p4 121 97 97)) (qN m) (fun s J' => (∀ a : Nat, a ≠ 114 + t → J' a = J a) ∧ ∀ x : Nat, x < s → J' (114 + t) x = if x = qfin m then 1 else 0) (fun s J' hs hv => by
    refine ⟨u2 J' (114 + t) s (if s = qfin m then 1 else 0), ⟨fun a ha => (u2_ne ha).trans (hv.1 a ha), fun x hx => ?_⟩, ?_⟩
    · by_cases c : x = s
      · rw [c, u2s]
      · rw [u2f c]
        exact hv.2 x (by omega)
    · show den none (Mean d) none tQ_X6_clearLayer (2, _, [], 176, zs Z, J', _) = _
      rw [k_X6_clearLayer_2_c]
      by_cases c : s = qfin m
      · rw [if_pos c]
        simp (disch := first | omega | assumption) only [k_X6_clearLayer_0_c, k_X6_clearLayer_13_c, k_X6_clearLayer_26_c, k_X6_clearLayer_30_c, k_X6_clearLayer_31_c, k_X6_clearLayer_32_c, k_X6_clearLayer_38_c, li_0, li_1, li_2, li_3, li_4, li_5, li_6, li_9, li_10, li_40, lm_1, lm_2, lm_3, lm_4, zs_ap, i32_add, i32_sub, i32_mul, i32_neg, i32_lt, i32_le, i32_eq, i32_nat, ckn, pka_r, pka_v, if_pos, if_neg, if_true, if_false, z1, z3, c, Int.toNat_natCast]
        rfl
      · rw [if_neg c]
        simp (disch := first | omega | assumption) only [k_X6_clearLayer_0_c, k_X6_clearLayer_13_c, k_X6_clearLayer_26_c, k_X6_clearLayer_30_c, k_X6_clearLayer_31_c, k_X6_clearLayer_32_c, k_X6_clearLayer_38_c, li_0, li_1, li_2, li_3, li_4, li_5, li_6, li_9, li_10, li_40, lm_1, lm_2, lm_3, lm_4, zs_ap, i32_add, i32_sub, i32_mul, i32_neg, i32_lt, i32_le, i32_eq, i32_nat, ckn, pka_r, pka_v, if_pos, if_neg, if_true, if_false, z1, z3, Int.toNat_natCast]
        rfl) J ⟨fun _ _ => rfl, fun x hx => by omega⟩
  refine ⟨J', v1, v2, ?_⟩
  rw [e_X6_clearLayer, k_X6_clearLayer_0_c]
  refine Eq.trans e ?_
  show den none (Mean d) none tQ_X6_clearLayer (2, _, [], 176, zs Z, J', _) = _
  rw [k_X6_clearLayer_2_c]
  simp (disch := omega) only [k_X6_clearLayer_0_c, k_X6_clearLayer_13_c, k_X6_clearLayer_26_c, k_X6_clearLayer_30_c, k_X6_clearLayer_31_c, k_X6_clearLayer_32_c, k_X6_clearLayer_38_c, li_0, li_1, li_2, li_3, li_4, li_5, li_6, li_9, li_10, li_40, lm_1, lm_2, lm_3, lm_4, zs_ap, i32_add, i32_sub, i32_mul, i32_neg, i32_lt, i32_le, i32_eq, i32_nat, ckn, pka_r, pka_v, if_pos, if_neg, if_true, if_false, z1]
theorem h_stayBits_c  (hw : wf m) (hb : bOK m b) (hm : KM m 97 Z) (hk : KS m 121 Z) (hr : KB m b 112 Z) {s : Nat} (hs : s < qN m) : ∃ x : Int64, (∀ n : Nat, n < 64 → gb x n = sty m b s n) ∧ Mean (d + 1) 69 [.ref 112, .int (i32 (s : Int))] (176, zs Z, J, RP p0 p1 p2 p3 p4 121 97 97) = some (some (.long x), (176, zs Z, J, RP p0 p1 p2 p3 p4 121 97 97)) := by
  have hS := hw.1
  have hday := hw.2.2.2.2.2.1.1
  have hN := qpl_b hw (k := qP m) (Nat.le_refl _)
  have hN' : qN m = qpl m (qP m) := rfl
  have z1 : Z 97 1 = (qS m : Int) := hm.1.1
  have z11 : Z 97 11 = (qday m : Int) := hm.1.2.2.1
  have hf : ∀ i : Nat, i < qS m → -500000 ≤ qgoal m i + b i - qstop m s i ∧ qgoal m i + b i - qstop m s i ≤ 500000 := fun i hi => by
    have h1 := qgoal_b hw hi
    have h2 := qstop_b hw s hi
    have h3 := hb i hi
    omega
  have hml := msl_b (f := fun i => qgoal m i + b i - qstop m s i) (A := 500000) (qS m - 1) (fun i hi => hf i (by omega))
  have key := up_eq (fun (n : Nat) => den none (Mean d) (some .long) tQ_X6_stayBits (21, [some (.ref 112), some (.int (i32 (s : Int))), some (.int (i32 (msl (fun i => qgoal m i + b i - qstop m s i) n))), some (.int (i32 ((n + 1 : Nat) : Int)))], [], 176, zs Z, J, RP p0 p1 p2 p3 p4 121 97 97)) (qS m - 1) (fun n hn => by
    obtain ⟨r1, r2⟩ := RPs (p0 := p0) (p1 := p1) (p2 := p2) (p3 := p3) (p4 := p4) (p5 := 121) (p6 := 97) (p7 := 97) (g := 121) (by omega) (show n + 1 < 3 by omega)
    have r1' : RP p0 p1 p2 p3 p4 121 97 97 123 (n + 1) = some (124 + (n + 1)) := r1
    have r2' : pshn (124 + (n + 1)) = some (.inl (.int, 400)) := r2
    have b1 := msl_b (f := fun i => qgoal m i + b i - qstop m s i) (A := 500000) n (fun i hi => hf i (by omega))
    have b2 := hf (n + 1) (by omega)
    have zb : Z 120 (n + 1) = qgoal m (n + 1) + b (n + 1) := hr.1 (n + 1) (by omega)
    have zst : Z (124 + (n + 1)) s = qstop m s (n + 1) := hk.2.1 (n + 1) (by omega) s hs
    have en : ((n + 1 : Nat) : Int).toNat = n + 1 := Int.toNat_natCast _
    rw [k_X6_stayBits_21_c]
    simp (disch := first | omega | assumption) only [k_X6_stayBits_0_c, k_X6_stayBits_6_c, k_X6_stayBits_15_c, k_X6_stayBits_17_c, k_X6_stayBits_32_c, k_X6_stayBits_39_c, k_X6_stayBits_48_c, k_X6_stayBits_50_c, k_X6_stayBits_61_c, k_X6_stayBits_65_c, k_X6_stayBits_67_c, k_X6_stayBits_77_c, k_X6_stayBits_88_c, k_X6_stayBits_94_c, k_X6_stayBits_96_c, li_0, li_1, li_2, li_3, li_4, li_5, li_6, li_9, li_10, li_40, lm_1, lm_2, lm_3, lm_4, zs_ap, i32_add, i32_sub, i32_mul, i32_neg, i32_lt, i32_le, i32_eq, i32_nat, ckn, pka_r, pka_v, if_pos, if_neg, if_true, if_false, z1, en, Int.toNat_natCast, zb, r1', va_rf, zst]
    show _ = den none (Mean d) (some .long) tQ_X6_stayBits (21, [some (.ref 112), some (.int (i32 (s : Int))), some (.int (i32 (if qgoal m (n + 1) + b (n + 1) - qstop m s (n + 1) < msl (fun i => qgoal m i + b i - qstop m s i) n then qgoal m (n + 1) + b (n + 1) - qstop m s (n + 1) else msl (fun i => qgoal m i + b i - qstop m s i) n))), some (.int (i32 ((n + 1 + 1 : Nat) : Int)))], [], 176, zs Z, J, RP p0 p1 p2 p3 p4 121 97 97)
    by_cases cl : qgoal m (n + 1) + b (n + 1) - qstop m s (n + 1) < msl (fun i => qgoal m i + b i - qstop m s i) n
    · rw [if_pos cl, if_pos cl]
      rfl
    · rw [if_neg cl, if_neg cl]
      rfl)
  obtain ⟨r1, r2⟩ := RPs (p0 := p0) (p1 := p1) (p2 := p2) (p3 := p3) (p4 := p4) (p5 := 121) (p6 := 97) (p7 := 97) (g := 121) (by omega) (show 0 < 3 by omega)
  have r1' : RP p0 p1 p2 p3 p4 121 97 97 123 0 = some 124 := r1
  have r2' : pshn 124 = some (.inl (.int, 400)) := r2
  have zb : Z 120 0 = qgoal m 0 + b 0 := hr.1 0 (by omega)
  have zst : Z 124 s = qstop m s 0 := hk.2.1 0 (by omega) s hs
  have t0 : (0 : Int).toNat = 0 := rfl
  have e1 : Mean (d + 1) 69 [.ref 112, .int (i32 (s : Int))] (176, zs Z, J, RP p0 p1 p2 p3 p4 121 97 97) = den none (Mean d) (some .long) tQ_X6_stayBits (61, [some (.ref 112), some (.int (i32 (s : Int))), some (.int (i32 (msl (fun i => qgoal m i + b i - qstop m s i) (qS m - 1)))), some (.int (i32 ((qS m : Nat) : Int)))], [], 176, zs Z, J, RP p0 p1 p2 p3 p4 121 97 97) := by
    rw [e_X6_stayBits, k_X6_stayBits_0_c]
    simp (disch := first | omega | assumption) only [k_X6_stayBits_6_c, k_X6_stayBits_15_c, k_X6_stayBits_17_c, k_X6_stayBits_32_c, k_X6_stayBits_39_c, k_X6_stayBits_48_c, k_X6_stayBits_50_c, k_X6_stayBits_65_c, k_X6_stayBits_67_c, k_X6_stayBits_77_c, k_X6_stayBits_88_c, k_X6_stayBits_94_c, k_X6_stayBits_96_c, li_0, li_1, li_2, li_3, li_4, li_5, li_6, li_9, li_10, li_40, lm_1, lm_2, lm_3, lm_4, zs_ap, i32_add, i32_sub, i32_mul, i32_neg, i32_lt, i32_le, i32_eq, i32_nat, ckn, pka_r, pka_v, if_pos, if_neg, if_true, if_false, t0, zb, r1', va_rf, Int.toNat_natCast, zst]
    refine Eq.trans key ?_
    show den none (Mean d) (some .long) tQ_X6_stayBits (21, _, [], 176, zs Z, J, _) = _
    rw [k_X6_stayBits_21_c, show ((qS m - 1 + 1 : Nat) : Int) = ((qS m : Nat) : Int) by omega]
    simp (disch := omega) only [k_X6_stayBits_0_c, k_X6_stayBits_6_c, k_X6_stayBits_15_c, k_X6_stayBits_17_c, k_X6_stayBits_32_c, k_X6_stayBits_39_c, k_X6_stayBits_48_c, k_X6_stayBits_50_c, k_X6_stayBits_65_c, k_X6_stayBits_67_c, k_X6_stayBits_77_c, k_X6_stayBits_88_c, k_X6_stayBits_94_c, k_X6_stayBits_96_c, li_0, li_1, li_2, li_3, li_4, li_5, li_6, li_9, li_10, li_40, lm_1, lm_2, lm_3, lm_4, zs_ap, i32_add, i32_sub, i32_mul, i32_neg, i32_lt, i32_le, i32_eq, i32_nat, ckn, pka_r, pka_v, if_pos, if_neg, if_true, if_false, z1]
  generalize hsl : msl (fun i => qgoal m i + b i - qstop m s i) (qS m - 1) = sl at *
  have hiff : ∀ n : Nat, (∀ i : Nat, i < qS m → qstop m s i + (n : Int) * (qday m : Int) ≤ b i + qgoal m i) ↔ (n : Int) * (qday m : Int) ≤ sl := fun n => by
    rw [← hsl, msl_iff]
    constructor
    · intro h i hi
      have := h i (by omega)
      omega
    · intro h i hi
      have := h i (by omega)
      omega
  by_cases c0 : 0 ≤ sl
  · have hmost : ∃ M : Nat, M ≤ 40 ∧ (∀ n : Nat, n ≤ 40 → (n ≤ M ↔ (n : Int) * (qday m : Int) ≤ sl)) ∧ Mean (d + 1) 69 [.ref 112, .int (i32 (s : Int))] (176, zs Z, J, RP p0 p1 p2 p3 p4 121 97 97) = some (some (.long (((1 : Int64) <<< ((i32 ((M + 1 : Nat) : Int)).toInt64 &&& 63)) - 2)), (176, zs Z, J, RP p0 p1 p2 p3 p4 121 97 97)) := by
      by_cases cd : qday m = 0
      · refine ⟨40, Nat.le_refl _, fun n hn => ?_, ?_⟩
        · rw [cd]
          simp
          omega
        · rw [e1, k_X6_stayBits_61_c]
          simp (disch := omega) only [k_X6_stayBits_0_c, k_X6_stayBits_6_c, k_X6_stayBits_15_c, k_X6_stayBits_17_c, k_X6_stayBits_32_c, k_X6_stayBits_39_c, k_X6_stayBits_48_c, k_X6_stayBits_50_c, k_X6_stayBits_65_c, k_X6_stayBits_67_c, k_X6_stayBits_77_c, k_X6_stayBits_88_c, k_X6_stayBits_94_c, k_X6_stayBits_96_c, li_0, li_1, li_2, li_3, li_4, li_5, li_6, li_9, li_10, li_40, lm_1, lm_2, lm_3, lm_4, zs_ap, i32_add, i32_sub, i32_mul, i32_neg, i32_lt, i32_le, i32_eq, i32_nat, ckn, pka_r, pka_v, if_pos, if_neg, if_true, if_false, z11, cd]
          rfl
      · have hdiv : sl.tdiv (qday m : Int) = sl / (qday m : Int) := Int.tdiv_eq_ediv_of_nonneg c0
        have hle : sl / (qday m : Int) ≤ sl := Int.ediv_le_self _ c0
        have h0 : 0 ≤ sl / (qday m : Int) := Int.ediv_nonneg c0 (by omega)
        have hii : ∀ n : Nat, ((n : Int) ≤ sl / (qday m : Int) ↔ (n : Int) * (qday m : Int) ≤ sl) := fun n => Int.le_ediv_iff_mul_le (by omega)
        generalize hy : sl / (qday m : Int) = y at *
        by_cases cy : y < 40
        · refine ⟨y.toNat, by omega, fun n hn => ?_, ?_⟩
          · rw [← hii n]
            omega
          · rw [e1, k_X6_stayBits_61_c]
            simp (disch := omega) only [k_X6_stayBits_0_c, k_X6_stayBits_6_c, k_X6_stayBits_15_c, k_X6_stayBits_17_c, k_X6_stayBits_32_c, k_X6_stayBits_39_c, k_X6_stayBits_48_c, k_X6_stayBits_50_c, k_X6_stayBits_65_c, k_X6_stayBits_67_c, k_X6_stayBits_77_c, k_X6_stayBits_88_c, k_X6_stayBits_94_c, k_X6_stayBits_96_c, li_0, li_1, li_2, li_3, li_4, li_5, li_6, li_9, li_10, li_40, lm_1, lm_2, lm_3, lm_4, zs_ap, i32_add, i32_sub, i32_mul, i32_neg, i32_lt, i32_le, i32_eq, i32_nat, ckn, pka_r, pka_v, if_pos, if_neg, if_true, if_false, z11, i32_div, hdiv]
            rw [show ((y.toNat + 1 : Nat) : Int) = y + 1 by omega]
        · refine ⟨40, Nat.le_refl _, fun n hn => ?_, ?_⟩
          · rw [← hii n]
            omega
          · rw [e1, k_X6_stayBits_61_c]
            simp (disch := omega) only [k_X6_stayBits_0_c, k_X6_stayBits_6_c, k_X6_stayBits_15_c, k_X6_stayBits_17_c, k_X6_stayBits_32_c, k_X6_stayBits_39_c, k_X6_stayBits_48_c, k_X6_stayBits_50_c, k_X6_stayBits_65_c, k_X6_stayBits_67_c, k_X6_stayBits_77_c, k_X6_stayBits_88_c, k_X6_stayBits_94_c, k_X6_stayBits_96_c, li_0, li_1, li_2, li_3, li_4, li_5, li_6, li_9, li_10, li_40, lm_1, lm_2, lm_3, lm_4, zs_ap, i32_add, i32_sub, i32_mul, i32_neg, i32_lt, i32_le, i32_eq, i32_nat, ckn, pka_r, pka_v, if_pos, if_neg, if_true, if_false, z11, i32_div, hdiv]
            rfl
    obtain ⟨M, h1, h2, h3⟩ := hmost
    refine ⟨_, fun n hn => ?_, h3⟩
    have g := gb_mask2 ⟨M + 1, by omega⟩ ⟨n, hn⟩ (by simp)
    simp only at g
    rw [g]
    apply beq_iff
    unfold sty
    rw [Bool.and_eq_true, decide_eq_true_iff, decide_eq_true_iff, qstay_iff hw, hiff]
    constructor
    · intro ⟨q1, q2⟩
      exact ⟨q1, by omega, (h2 n (by omega)).mp (by omega)⟩
    · intro ⟨q1, q2, q3⟩
      have := (h2 n q2).mpr q3
      omega
  · refine ⟨0, fun n hn => ?_, ?_⟩
    · rw [gb_0]
      symm
      cases c : sty m b s n
      · rfl
      · unfold sty at c
        rw [Bool.and_eq_true, qstay_iff hw, hiff] at c
        have := Int.mul_nonneg (show 0 ≤ (n : Int) by omega) (show 0 ≤ (qday m : Int) by omega)
        omega
    · rw [e1, k_X6_stayBits_61_c]
      simp (disch := omega) only [k_X6_stayBits_0_c, k_X6_stayBits_6_c, k_X6_stayBits_15_c, k_X6_stayBits_17_c, k_X6_stayBits_32_c, k_X6_stayBits_39_c, k_X6_stayBits_48_c, k_X6_stayBits_50_c, k_X6_stayBits_65_c, k_X6_stayBits_67_c, k_X6_stayBits_77_c, k_X6_stayBits_88_c, k_X6_stayBits_94_c, k_X6_stayBits_96_c, li_0, li_1, li_2, li_3, li_4, li_5, li_6, li_9, li_10, li_40, lm_1, lm_2, lm_3, lm_4, zs_ap, i32_add, i32_sub, i32_mul, i32_neg, i32_lt, i32_le, i32_eq, i32_nat, ckn, pka_r, pka_v, if_pos, if_neg, if_true, if_false]
end
