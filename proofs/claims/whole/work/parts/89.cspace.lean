/-! THE CLASS'S Space -/
/-- the class's matter h is m -/
def KM (m : Mat) (h : Nat) (Z : Nat → Nat → Int) : Prop := (Z h 1 = qS m ∧ Z h 2 = qP m ∧ Z h 11 = qday m ∧ Z h 12 = qlump m ∧ Z h 13 = qmode m ∧ Z h 14 = qfst m ∧ Z h 15 = qprs m) ∧ (∀ k : Nat, k < qP m → Z (h + 2) k = qown m k ∧ Z (h + 3) k = qcut m k ∧ Z (h + 4) k = qkept m k ∧ Z (h + 5) k = qund m k) ∧ (∀ k : Nat, k < qP m → ∀ i : Nat, i < qS m → Z (h + 7 + k) i = qwor m k i) ∧ (∀ i : Nat, i < 3 → Z (h + 13) i = qpea m i ∧ Z (h + 14) i = qbre m i)
theorem KM_fr {m : Mat} {h : Nat} {Z Z' : Nat → Nat → Int} (hP : qP m ≤ 6) (hk : KM m h Z) (e : ∀ a : Nat, h ≤ a → a ≤ h + 14 → Z' a = Z a) : KM m h Z' := by
  obtain ⟨h1, h2, h3, h4⟩ := hk
  refine ⟨?_, fun k hk => ?_, fun k hk i hi => ?_, fun i hi => ?_⟩
  · rw [e h (by omega) (by omega)]; exact h1
  · rw [e (h + 2) (by omega) (by omega), e (h + 3) (by omega) (by omega), e (h + 4) (by omega) (by omega), e (h + 5) (by omega) (by omega)]; exact h2 k hk
  · rw [e (h + 7 + k) (by omega) (by omega)]; exact h3 k hk i hi
  · rw [e (h + 13) (by omega) (by omega), e (h + 14) (by omega) (by omega)]; exact h4 i hi
/-- the space's weights and corners -/
def KW (m : Mat) (g : Nat) (Z : Nat → Nat → Int) : Prop := (Z g 1 = qN m ∧ Z g 2 = qbeg m ∧ Z g 3 = qfin m) ∧ ∀ k : Nat, k < qP m → Z (g + 1) k = qpl m k
def KS (m : Mat) (g : Nat) (Z : Nat → Nat → Int) : Prop := KW m g Z ∧ (∀ i : Nat, i < qS m → ∀ s : Nat, s < qN m → Z (g + 3 + i) s = qstop m s i) ∧ ∀ i : Nat, i < qS m → Z (g + 6) i = qgoal m i
theorem RPm {p0 p1 p2 p3 p4 p5 p6 p7 h k : Nat} (hv : hv3 h) (hk : k < 6) : RP p0 p1 p2 p3 p4 p5 p6 p7 (h + 6) k = some (h + 7 + k) ∧ pshn (h + 7 + k) = some (.inl (.int, 3)) := by
  have : k = 0 ∨ k = 1 ∨ k = 2 ∨ k = 3 ∨ k = 4 ∨ k = 5 := by omega
  rcases hv with rfl | rfl | rfl <;> rcases this with rfl | rfl | rfl | rfl | rfl | rfl <;> exact ⟨rfl, rfl⟩
theorem RPs {p0 p1 p2 p3 p4 p5 p6 p7 g k : Nat} (hv : g = 35 ∨ g = 121) (hk : k < 3) : RP p0 p1 p2 p3 p4 p5 p6 p7 (g + 2) k = some (g + 3 + k) ∧ pshn (g + 3 + k) = some (.inl (.int, 400)) := by
  have : k = 0 ∨ k = 1 ∨ k = 2 := by omega
  rcases hv with rfl | rfl <;> rcases this with rfl | rfl | rfl <;> exact ⟨rfl, rfl⟩
theorem qsm_c {m : Mat} {g g' : Nat → Nat} {i : Nat} : ∀ n : Nat, (∀ k : Nat, k < n → g k = g' k) → qsm m g i n = qsm m g' i n
  | 0, _ => rfl
  | n + 1, h => by
    rw [show qsm m g i (n + 1) = qsm m g i n + (qwor m n i * (g n : Int)).tdiv (qcut m n : Int) from rfl, show qsm m g' i (n + 1) = qsm m g' i n + (qwor m n i * (g' n : Int)).tdiv (qcut m n : Int) from rfl, qsm_c n (fun k hk => h k (by omega)), h n (by omega)]
theorem has_lo {m : Mat} {k j t s : Nat} (hj : j < k) : qhas m (t * qpl m k + s) j = qhas m s j := by
  rw [has_mod, has_mod]
  obtain ⟨c, hc⟩ := pl_dvd m (a := j + 1) k (by omega)
  rw [hc, show t * (qpl m (j + 1) * c) + s = s + qpl m (j + 1) * (t * c) by rw [Nat.mul_left_comm, Nat.add_comm], Nat.add_mul_mod_self_left]
theorem has_hi {m : Mat} {k t s : Nat} (hs : s < qpl m k) (ht : t ≤ qcut m k) : qhas m (t * qpl m k + s) k = t := by
  unfold qhas
  rw [Nat.add_comm, Nat.add_mul_div_right _ _ (qpl_pos m k), Nat.div_eq_of_lt hs, Nat.zero_add, Nat.mod_eq_of_lt (by omega)]
/-- one piece's part of a stop -/
def shr (m : Mat) (k i t : Nat) : Int := (qwor m k i * (t : Int)).tdiv (qcut m k : Int)
theorem shr_0 (m : Mat) (k i : Nat) : shr m k i 0 = 0 := by unfold shr; simp
theorem qsm_w {m : Mat} {k i t s : Nat} (hs : s < qpl m k) (ht : t ≤ qcut m k) : qsm m (qhas m (t * qpl m k + s)) i (k + 1) = qsm m (qhas m s) i k + shr m k i t := by
  rw [show qsm m (qhas m (t * qpl m k + s)) i (k + 1) = qsm m (qhas m (t * qpl m k + s)) i k + (qwor m k i * (qhas m (t * qpl m k + s) k : Int)).tdiv (qcut m k : Int) from rfl, has_hi hs ht, qsm_c k (fun j hj => has_lo hj)]
  rfl
theorem split_w {m : Mat} {k x : Nat} (hx : x < qpl m (k + 1)) : ∃ t s : Nat, t ≤ qcut m k ∧ s < qpl m k ∧ x = t * qpl m k + s := by
  have hp := qpl_pos m k
  refine ⟨x / qpl m k, x % qpl m k, ?_, Nat.mod_lt _ (by omega), ?_⟩
  · rw [pl_succ] at hx
    have := (Nat.div_lt_iff_lt_mul (by omega : 0 < qpl m k)).mpr (show x < (qcut m k + 1) * qpl m k by rw [Nat.mul_comm]; exact hx)
    omega
  · have := Nat.div_add_mod x (qpl m k)
    rw [Nat.mul_comm] at this
    omega
theorem shr_b {m : Mat} (hw : wf m) {k i t : Nat} (hk : k < qP m) (hi : i < qS m) (ht : t ≤ qcut m k) : (-9900 ≤ qwor m k i * (t : Int) ∧ qwor m k i * (t : Int) ≤ 9900) ∧ (-9900 ≤ shr m k i t ∧ shr m k i t ≤ 9900) := by
  have h1 := hw.2.2.2.1 k hk i hi
  have h2 := (hw.2.2.1 k hk).2.1
  have h3 := mul_b (a := qwor m k i) (b := (t : Int)) (A := 1100) (B := 9) (by omega) (by omega) (by omega) (by omega) (by omega)
  refine ⟨by omega, ?_⟩
  unfold shr
  have := tdiv_b (a := qwor m k i * (t : Int)) (b := (qcut m k : Int)) (c := 9900) (by omega) (by omega) (by omega)
  omega
section
variable {d : Nat} {J : Nat → Nat → Int64} {Z : Nat → Nat → Int} {p0 p1 p2 p3 p4 p5 p6 p7 : Nat} {m : Mat}
theorem h_shareOf_a {w : Int} {t c : Nat} (hw : -9900 ≤ w * (t : Int) ∧ w * (t : Int) ≤ 9900) (hc : 1 ≤ c ∧ c ≤ 9) : Mean (d + 1) 79 [.int (i32 w), .int (i32 (t : Int)), .int (i32 (c : Int))] (176, zs Z, J, RP p0 p1 p2 p3 p4 p5 p6 p7) = some (some (.int (i32 ((w * (t : Int)).tdiv (c : Int)))), (176, zs Z, J, RP p0 p1 p2 p3 p4 p5 p6 p7)) := by
  rw [e_X7_shareOf, k_X7_shareOf_0_a]
  simp (disch := omega) only [k_X7_shareOf_4_a, k_X7_shareOf_9_a, k_X7_shareOf_12_a, k_X7_shareOf_13_a, li_0, li_1, li_2, li_3, li_4, li_5, li_6, li_9, li_10, li_40, lm_1, lm_2, lm_3, lm_4, zs_ap, i32_add, i32_sub, i32_mul, i32_neg, i32_lt, i32_le, i32_eq, i32_nat, ckn, pka_r, pka_v, if_pos, if_neg, if_true, if_false, i32_div]
theorem ls_in_a (hp : p2 = 5 ∨ p2 = 20) {c w t : Nat} (hg : pshn c = some (.inl (.int, 400))) (hc : c ≠ 36) {k : Nat} (hk6 : k < 6) (hwk : Z 36 k = (w : Int)) (hb : t * w + w ≤ 400) {sh : Int} (x1 x4 x5 : Int32) :
    ∃ Z' : Nat → Nat → Int, (∀ a : Nat, a ≠ c → Z' a = Z a) ∧ (∀ x : Nat, Z' c x = if t * w ≤ x ∧ x < t * w + w then Z c (x - t * w) + sh else Z c x) ∧ den none (Mean d) none tQ_X7_layStops (78, [some (.ref 35), some (.int x1), some (.ref c), some (.int (i32 (k : Int))), some (.int x4), some (.int x5), some (.int (i32 sh)), some (.int (i32 ((t * w : Nat) : Int))), some (.int (i32 ((0 : Nat) : Int)))], [], 176, zs Z, J, RP p0 p1 p2 p3 p4 p5 p6 p7) = den none (Mean d) none tQ_X7_layStops (109, [some (.ref 35), some (.int x1), some (.ref c), some (.int (i32 (k : Int))), some (.int x4), some (.int x5), some (.int (i32 sh)), some (.int (i32 ((t * w : Nat) : Int))), some (.int (i32 (w : Int)))], [], 176, zs Z', J, RP p0 p1 p2 p3 p4 p5 p6 p7) := by
  obtain ⟨Z', hv, e⟩ := up_inv (fun (s : Nat) (Z : Nat → Nat → Int) => den none (Mean d) none tQ_X7_layStops (78, [some (.ref 35), some (.int x1), some (.ref c), some (.int (i32 (k : Int))), some (.int x4), some (.int x5), some (.int (i32 sh)), some (.int (i32 ((t * w : Nat) : Int))), some (.int (i32 (s : Int)))], [], 176, zs Z, J, RP p0 p1 p2 p3 p4 p5 p6 p7)) w (fun s Z' => (∀ a : Nat, a ≠ c → Z' a = Z a) ∧ ∀ x : Nat, Z' c x = if t * w ≤ x ∧ x < t * w + s then Z c (x - t * w) + sh else Z c x) (fun s Z' hs hv => by
    have hn : ¬ (t * w ≤ s ∧ s < t * w + s) := by
      intro ⟨q1, q2⟩
      rcases Nat.eq_zero_or_pos t with h0 | h0
      · rw [h0, Nat.zero_mul] at q2
        omega
      · have : w ≤ t * w := Nat.le_mul_of_pos_left w h0
        omega
    have e0 : Z' c s = Z c s := by rw [hv.2 s, if_neg hn]
    have e1 : Z' 36 k = (w : Int) := by rw [hv.1 _ (fun z => hc z.symm)]; exact hwk
    have e2 : (((t * w : Nat) : Int) + (s : Int)).toNat = t * w + s := by omega
    refine ⟨u2 Z' c (t * w + s) (Z c s + sh), ⟨fun a ha => ?_, fun x => ?_⟩, ?_⟩
    · rw [u2_ne ha]
      exact hv.1 a ha
    · by_cases cx : x = t * w + s
      · rw [cx, u2s, if_pos (by omega), show t * w + s - t * w = s by omega]
      · rw [u2f cx, hv.2 x]
        by_cases c2 : t * w ≤ x ∧ x < t * w + s
        · rw [if_pos c2, if_pos (by omega)]
        · rw [if_neg c2, if_neg (by omega)]
    · show den none (Mean d) none tQ_X7_layStops (78, _, [], 176, zs Z', J, _) = _
      rw [k_X7_layStops_78_a]
      simp (disch := first | omega | assumption) only [k_X7_layStops_0_a, k_X7_layStops_6_a, k_X7_layStops_11_a, k_X7_layStops_24_a, k_X7_layStops_33_a, k_X7_layStops_44_a, k_X7_layStops_53_a, k_X7_layStops_55_a, k_X7_layStops_62_a, k_X7_layStops_72_a, k_X7_layStops_86_a, k_X7_layStops_89_a, k_X7_layStops_99_a, k_X7_layStops_103_a, k_X7_layStops_109_a, k_X7_layStops_115_a, k_X7_layStops_121_a, k_X7_layStops_132_a, k_X7_layStops_141_a, k_X7_layStops_143_a, li_0, li_1, li_2, li_3, li_4, li_5, li_6, li_9, li_10, li_40, lm_1, lm_2, lm_3, lm_4, zs_ap, i32_add, i32_sub, i32_mul, i32_neg, i32_lt, i32_le, i32_eq, i32_nat, ckn, pka_r, pka_v, if_pos, if_neg, if_true, if_false, e0, e1, e2, Int.toNat_natCast, zs_u2]
      rfl) Z ⟨fun _ _ => rfl, fun x => by rw [if_neg (by omega)]⟩
  refine ⟨Z', hv.1, hv.2, e.trans ?_⟩
  have e1 : Z' 36 k = (w : Int) := by rw [hv.1 _ (fun z => hc z.symm)]; exact hwk
  show den none (Mean d) none tQ_X7_layStops (78, _, [], 176, zs Z', J, _) = _
  rw [k_X7_layStops_78_a]
  simp (disch := first | omega | assumption) only [k_X7_layStops_0_a, k_X7_layStops_6_a, k_X7_layStops_11_a, k_X7_layStops_24_a, k_X7_layStops_33_a, k_X7_layStops_44_a, k_X7_layStops_53_a, k_X7_layStops_55_a, k_X7_layStops_62_a, k_X7_layStops_72_a, k_X7_layStops_86_a, k_X7_layStops_89_a, k_X7_layStops_99_a, k_X7_layStops_103_a, k_X7_layStops_115_a, k_X7_layStops_121_a, k_X7_layStops_132_a, k_X7_layStops_141_a, k_X7_layStops_143_a, li_0, li_1, li_2, li_3, li_4, li_5, li_6, li_9, li_10, li_40, lm_1, lm_2, lm_3, lm_4, zs_ap, i32_add, i32_sub, i32_mul, i32_neg, i32_lt, i32_le, i32_eq, i32_nat, ckn, pka_r, pka_v, if_pos, if_neg, if_true, if_false, e1, Int.toNat_natCast]
theorem ls_st_a (hp : p2 = 5 ∨ p2 = 20) (hw : wf m) {i k : Nat} (hi : i < qS m) (hk : k < qP m) : ∀ (t : Nat) (Z0 Z : Nat → Nat → Int) (o6 o7 o8 : Option Value), t ≤ qcut m k + 1 → KM m p2 Z0 → (∀ k : Nat, k < qP m → Z0 36 k = qpl m k) → (∀ a : Nat, a ≠ 38 + i → Z a = Z0 a) → (∀ s : Nat, s < qpl m k → Z (38 + i) s = Z0 (38 + i) s) → (∀ t' s : Nat, t ≤ t' → t' ≤ qcut m k → s < qpl m k → Z (38 + i) (t' * qpl m k + s) = Z0 (38 + i) s + shr m k i t') →
    ∃ (Z' : Nat → Nat → Int) (o6' o7' o8' : Option Value), (∀ a : Nat, a ≠ 38 + i → Z' a = Z0 a) ∧ (∀ t' s : Nat, t' ≤ qcut m k → s < qpl m k → Z' (38 + i) (t' * qpl m k + s) = Z0 (38 + i) s + shr m k i t') ∧ den none (Mean (d + 1)) none tQ_X7_layStops (39, [some (.ref 35), some (.int (i32 (i : Int))), some (.ref (38 + i)), some (.int (i32 (k : Int))), some (.int (i32 ((qcut m k : Nat) : Int))), some (.int (i32 ((t : Int) - 1))), o6, o7, o8], [], 176, zs Z, J, RP p0 p1 p2 p3 p4 p5 p6 p7) = den none (Mean (d + 1)) none tQ_X7_layStops (115, [some (.ref 35), some (.int (i32 (i : Int))), some (.ref (38 + i)), some (.int (i32 (k : Int))), some (.int (i32 ((qcut m k : Nat) : Int))), some (.int (i32 (-1))), o6', o7', o8'], [], 176, zs Z', J, RP p0 p1 p2 p3 p4 p5 p6 p7) := by
  have hS := hw.1
  have hP := hw.2.1
  obtain ⟨r1, r2⟩ := RPs (p0 := p0) (p1 := p1) (p2 := p2) (p3 := p3) (p4 := p4) (p5 := p5) (p6 := p6) (p7 := p7) (g := 35) (by omega) (show i < 3 by omega)
  have hh : hv3 p2 := by omega
  obtain ⟨w1, w2⟩ := RPm (p0 := p0) (p1 := p1) (p2 := p2) (p3 := p3) (p4 := p4) (p5 := p5) (p6 := p6) (p7 := p7) hh (show k < 6 by omega)
  have hcut := (hw.2.2.1 k hk).2.1
  have hpl := qpl_b hw (k := k + 1) (by omega)
  rw [pl_succ] at hpl
  intro t
  induction t with
  | zero =>
    intro Z0 Z o6 o7 o8 ht hm hwt h1 h2 h3
    refine ⟨Z, o6, o7, o8, h1, fun t' s => h3 t' s (Nat.zero_le _), ?_⟩
    rw [k_X7_layStops_39_a]
    simp (disch := omega) only [k_X7_layStops_0_a, k_X7_layStops_6_a, k_X7_layStops_11_a, k_X7_layStops_24_a, k_X7_layStops_33_a, k_X7_layStops_44_a, k_X7_layStops_53_a, k_X7_layStops_55_a, k_X7_layStops_62_a, k_X7_layStops_72_a, k_X7_layStops_86_a, k_X7_layStops_89_a, k_X7_layStops_99_a, k_X7_layStops_103_a, k_X7_layStops_109_a, k_X7_layStops_121_a, k_X7_layStops_132_a, k_X7_layStops_141_a, k_X7_layStops_143_a, li_0, li_1, li_2, li_3, li_4, li_5, li_6, li_9, li_10, li_40, lm_1, lm_2, lm_3, lm_4, zs_ap, i32_add, i32_sub, i32_mul, i32_neg, i32_lt, i32_le, i32_eq, i32_nat, ckn, pka_r, pka_v, if_pos, if_neg, if_true, if_false]
    rfl
  | succ t ih =>
    intro Z0 Z o6 o7 o8 ht hm hwt h1 h2 h3
    have hb := shr_b hw hk hi (t := t) (by omega)
    have hmul : t * qpl m k + qpl m k ≤ 400 := by
      have : (t + 1) * qpl m k ≤ (qcut m k + 1) * qpl m k := Nat.mul_le_mul_right _ (by omega)
      rw [Nat.add_mul, Nat.one_mul] at this
      rw [Nat.mul_comm] at hpl
      omega
    have e7 : Z ((p2 + 7) + k) i = qwor m k i := by rw [h1 _ (by omega)]; exact hm.2.2.1 k hk i hi
    have e1 : Z 36 k = (qpl m k : Int) := by rw [h1 _ (by omega)]; exact hwt k hk
    obtain ⟨Z1, a1, a2, a3⟩ := ls_in_a (d := d + 1) (J := J) (p0 := p0) (p1 := p1) (p2 := p2) (p3 := p3) (p4 := p4) (p5 := p5) (p6 := p6) (p7 := p7) hp (c := 38 + i) (w := qpl m k) (t := t) r2 (by omega) (k := k) (by omega) e1 hmul (sh := shr m k i t) (i32 (i : Int)) (i32 ((qcut m k : Nat) : Int)) (i32 (t : Int))
    obtain ⟨Z', o6', o7', o8', b1, b2, b3⟩ := ih Z0 Z1 (some (.int (i32 (shr m k i t)))) (some (.int (i32 ((t * qpl m k : Nat) : Int)))) (some (.int (i32 ((qpl m k : Nat) : Int)))) (by omega) hm hwt (fun a ha => (a1 a ha).trans (h1 a ha)) (fun s hs => by
      rw [a2 s]
      by_cases cx : t * qpl m k ≤ s ∧ s < t * qpl m k + qpl m k
      · have t0 : t = 0 := by
          rcases Nat.eq_zero_or_pos t with h0 | h0
          · exact h0
          · have : qpl m k ≤ t * qpl m k := Nat.le_mul_of_pos_left _ h0
            omega
        subst t0
        rw [if_pos cx, shr_0, Nat.zero_mul, Nat.sub_zero, Int.add_zero]
        exact h2 s hs
      · rw [if_neg cx]
        exact h2 s hs) (fun t' s h4 h5 hs => by
      by_cases ct : t' = t
      · subst ct
        rw [a2, if_pos (by omega), show t' * qpl m k + s - t' * qpl m k = s by omega, h2 s hs]
      · have hgt : t * qpl m k + qpl m k ≤ t' * qpl m k := by
          have : (t + 1) * qpl m k ≤ t' * qpl m k := Nat.mul_le_mul_right _ (by omega)
          rw [Nat.add_mul, Nat.one_mul] at this
          exact this
        rw [a2, if_neg (by omega)]
        exact h3 t' s (by omega) h5 hs)
    refine ⟨Z', o6', o7', o8', b1, b2, ?_⟩
    rw [show ((t + 1 : Nat) : Int) - 1 = (t : Int) by omega, k_X7_layStops_39_a]
    have hsh := h_shareOf_a (d := d) (J := J) (Z := Z) (p0 := p0) (p1 := p1) (p2 := p2) (p3 := p3) (p4 := p4) (p5 := p5) (p6 := p6) (p7 := p7) hb.1 hcut
    have e9 : i32 (t : Int) * i32 ((qpl m k : Nat) : Int) = i32 ((t * qpl m k : Nat) : Int) := by rw [i32_mul]; rfl
    have e10 : den none (Mean (d + 1)) none tQ_X7_layStops (44, [some (.ref 35), some (.int (i32 (i : Int))), some (.ref (38 + i)), some (.int (i32 (k : Int))), some (.int (i32 ((qcut m k : Nat) : Int))), some (.int (i32 (t : Int))), o6, o7, o8], [], 176, zs Z, J, RP p0 p1 p2 p3 p4 p5 p6 p7) = den none (Mean (d + 1)) none tQ_X7_layStops (78, [some (.ref 35), some (.int (i32 (i : Int))), some (.ref (38 + i)), some (.int (i32 (k : Int))), some (.int (i32 ((qcut m k : Nat) : Int))), some (.int (i32 (t : Int))), some (.int (i32 (shr m k i t))), some (.int (i32 ((t * qpl m k : Nat) : Int))), some (.int (i32 ((0 : Nat) : Int)))], [], 176, zs Z, J, RP p0 p1 p2 p3 p4 p5 p6 p7) := by
      rw [k_X7_layStops_44_a (hv_p2 := by omega)]
      simp (disch := first | omega | assumption) only [k_X7_layStops_53_a, k_X7_layStops_55_a, k_X7_layStops_62_a, k_X7_layStops_72_a, w1, va_rf, zs_ap, i32_lt, i32_nat, ckn, li_0, Int.toNat_natCast, e7, hsh, pka_r, e1, e9]
      rfl
    simp (disch := omega) only [k_X7_layStops_0_a, k_X7_layStops_6_a, k_X7_layStops_11_a, k_X7_layStops_24_a, k_X7_layStops_33_a, k_X7_layStops_53_a, k_X7_layStops_55_a, k_X7_layStops_62_a, k_X7_layStops_72_a, k_X7_layStops_86_a, k_X7_layStops_89_a, k_X7_layStops_99_a, k_X7_layStops_103_a, k_X7_layStops_121_a, k_X7_layStops_132_a, k_X7_layStops_141_a, k_X7_layStops_143_a, li_0, li_1, li_2, li_3, li_4, li_5, li_6, li_9, li_10, li_40, lm_1, lm_2, lm_3, lm_4, zs_ap, i32_add, i32_sub, i32_mul, i32_neg, i32_lt, i32_le, i32_eq, i32_nat, ckn, pka_r, pka_v, if_pos, if_neg, if_true, if_false, e10, a3]
    rw [k_X7_layStops_109_a, lm_1, i32_add]
    exact b3
end
section
variable {d : Nat} {J : Nat → Nat → Int64} {Z : Nat → Nat → Int} {p0 p1 p2 p3 p4 p5 p6 : Nat} {m : Mat}
theorem h_shareOf_b {w : Int} {t c : Nat} (hw : -9900 ≤ w * (t : Int) ∧ w * (t : Int) ≤ 9900) (hc : 1 ≤ c ∧ c ≤ 9) : Mean (d + 1) 79 [.int (i32 w), .int (i32 (t : Int)), .int (i32 (c : Int))] (176, zs Z, J, RP p0 p1 p2 p3 p4 p5 p6 97) = some (some (.int (i32 ((w * (t : Int)).tdiv (c : Int)))), (176, zs Z, J, RP p0 p1 p2 p3 p4 p5 p6 97)) := by
  rw [e_X7_shareOf, k_X7_shareOf_0_b]
  simp (disch := omega) only [k_X7_shareOf_4_b, k_X7_shareOf_9_b, k_X7_shareOf_12_b, k_X7_shareOf_13_b, li_0, li_1, li_2, li_3, li_4, li_5, li_6, li_9, li_10, li_40, lm_1, lm_2, lm_3, lm_4, zs_ap, i32_add, i32_sub, i32_mul, i32_neg, i32_lt, i32_le, i32_eq, i32_nat, ckn, pka_r, pka_v, if_pos, if_neg, if_true, if_false, i32_div]
theorem ls_in_b  {c w t : Nat} (hg : pshn c = some (.inl (.int, 400))) (hc : c ≠ 122) {k : Nat} (hk6 : k < 6) (hwk : Z 122 k = (w : Int)) (hb : t * w + w ≤ 400) {sh : Int} (x1 x4 x5 : Int32) :
    ∃ Z' : Nat → Nat → Int, (∀ a : Nat, a ≠ c → Z' a = Z a) ∧ (∀ x : Nat, Z' c x = if t * w ≤ x ∧ x < t * w + w then Z c (x - t * w) + sh else Z c x) ∧ den none (Mean d) none tQ_X7_layStops (78, [some (.ref 121), some (.int x1), some (.ref c), some (.int (i32 (k : Int))), some (.int x4), some (.int x5), some (.int (i32 sh)), some (.int (i32 ((t * w : Nat) : Int))), some (.int (i32 ((0 : Nat) : Int)))], [], 176, zs Z, J, RP p0 p1 p2 p3 p4 p5 p6 97) = den none (Mean d) none tQ_X7_layStops (109, [some (.ref 121), some (.int x1), some (.ref c), some (.int (i32 (k : Int))), some (.int x4), some (.int x5), some (.int (i32 sh)), some (.int (i32 ((t * w : Nat) : Int))), some (.int (i32 (w : Int)))], [], 176, zs Z', J, RP p0 p1 p2 p3 p4 p5 p6 97) := by
  obtain ⟨Z', hv, e⟩ := up_inv (fun (s : Nat) (Z : Nat → Nat → Int) => den none (Mean d) none tQ_X7_layStops (78, [some (.ref 121), some (.int x1), some (.ref c), some (.int (i32 (k : Int))), some (.int x4), some (.int x5), some (.int (i32 sh)), some (.int (i32 ((t * w : Nat) : Int))), some (.int (i32 (s : Int)))], [], 176, zs Z, J, RP p0 p1 p2 p3 p4 p5 p6 97)) w (fun s Z' => (∀ a : Nat, a ≠ c → Z' a = Z a) ∧ ∀ x : Nat, Z' c x = if t * w ≤ x ∧ x < t * w + s then Z c (x - t * w) + sh else Z c x) (fun s Z' hs hv => by
    have hn : ¬ (t * w ≤ s ∧ s < t * w + s) := by
      intro ⟨q1, q2⟩
      rcases Nat.eq_zero_or_pos t with h0 | h0
      · rw [h0, Nat.zero_mul] at q2
        omega
      · have : w ≤ t * w := Nat.le_mul_of_pos_left w h0
        omega
    have e0 : Z' c s = Z c s := by rw [hv.2 s, if_neg hn]
    have e1 : Z' 122 k = (w : Int) := by rw [hv.1 _ (fun z => hc z.symm)]; exact hwk
    have e2 : (((t * w : Nat) : Int) + (s : Int)).toNat = t * w + s := by omega
    refine ⟨u2 Z' c (t * w + s) (Z c s + sh), ⟨fun a ha => ?_, fun x => ?_⟩, ?_⟩
    · rw [u2_ne ha]
      exact hv.1 a ha
    · by_cases cx : x = t * w + s
      · rw [cx, u2s, if_pos (by omega), show t * w + s - t * w = s by omega]
      · rw [u2f cx, hv.2 x]
        by_cases c2 : t * w ≤ x ∧ x < t * w + s
        · rw [if_pos c2, if_pos (by omega)]
        · rw [if_neg c2, if_neg (by omega)]
    · show den none (Mean d) none tQ_X7_layStops (78, _, [], 176, zs Z', J, _) = _
      rw [k_X7_layStops_78_b]
      simp (disch := first | omega | assumption) only [k_X7_layStops_0_b, k_X7_layStops_6_b, k_X7_layStops_11_b, k_X7_layStops_24_b, k_X7_layStops_33_b, k_X7_layStops_44_b, k_X7_layStops_53_b, k_X7_layStops_55_b, k_X7_layStops_62_b, k_X7_layStops_72_b, k_X7_layStops_86_b, k_X7_layStops_89_b, k_X7_layStops_99_b, k_X7_layStops_103_b, k_X7_layStops_109_b, k_X7_layStops_115_b, k_X7_layStops_121_b, k_X7_layStops_132_b, k_X7_layStops_141_b, k_X7_layStops_143_b, li_0, li_1, li_2, li_3, li_4, li_5, li_6, li_9, li_10, li_40, lm_1, lm_2, lm_3, lm_4, zs_ap, i32_add, i32_sub, i32_mul, i32_neg, i32_lt, i32_le, i32_eq, i32_nat, ckn, pka_r, pka_v, if_pos, if_neg, if_true, if_false, e0, e1, e2, Int.toNat_natCast, zs_u2]
      rfl) Z ⟨fun _ _ => rfl, fun x => by rw [if_neg (by omega)]⟩
  refine ⟨Z', hv.1, hv.2, e.trans ?_⟩
  have e1 : Z' 122 k = (w : Int) := by rw [hv.1 _ (fun z => hc z.symm)]; exact hwk
  show den none (Mean d) none tQ_X7_layStops (78, _, [], 176, zs Z', J, _) = _
  rw [k_X7_layStops_78_b]
  simp (disch := first | omega | assumption) only [k_X7_layStops_0_b, k_X7_layStops_6_b, k_X7_layStops_11_b, k_X7_layStops_24_b, k_X7_layStops_33_b, k_X7_layStops_44_b, k_X7_layStops_53_b, k_X7_layStops_55_b, k_X7_layStops_62_b, k_X7_layStops_72_b, k_X7_layStops_86_b, k_X7_layStops_89_b, k_X7_layStops_99_b, k_X7_layStops_103_b, k_X7_layStops_115_b, k_X7_layStops_121_b, k_X7_layStops_132_b, k_X7_layStops_141_b, k_X7_layStops_143_b, li_0, li_1, li_2, li_3, li_4, li_5, li_6, li_9, li_10, li_40, lm_1, lm_2, lm_3, lm_4, zs_ap, i32_add, i32_sub, i32_mul, i32_neg, i32_lt, i32_le, i32_eq, i32_nat, ckn, pka_r, pka_v, if_pos, if_neg, if_true, if_false, e1, Int.toNat_natCast]
theorem ls_st_b  (hw : wf m) {i k : Nat} (hi : i < qS m) (hk : k < qP m) : ∀ (t : Nat) (Z0 Z : Nat → Nat → Int) (o6 o7 o8 : Option Value), t ≤ qcut m k + 1 → KM m 97 Z0 → (∀ k : Nat, k < qP m → Z0 122 k = qpl m k) → (∀ a : Nat, a ≠ 124 + i → Z a = Z0 a) → (∀ s : Nat, s < qpl m k → Z (124 + i) s = Z0 (124 + i) s) → (∀ t' s : Nat, t ≤ t' → t' ≤ qcut m k → s < qpl m k → Z (124 + i) (t' * qpl m k + s) = Z0 (124 + i) s + shr m k i t') →
    ∃ (Z' : Nat → Nat → Int) (o6' o7' o8' : Option Value), (∀ a : Nat, a ≠ 124 + i → Z' a = Z0 a) ∧ (∀ t' s : Nat, t' ≤ qcut m k → s < qpl m k → Z' (124 + i) (t' * qpl m k + s) = Z0 (124 + i) s + shr m k i t') ∧ den none (Mean (d + 1)) none tQ_X7_layStops (39, [some (.ref 121), some (.int (i32 (i : Int))), some (.ref (124 + i)), some (.int (i32 (k : Int))), some (.int (i32 ((qcut m k : Nat) : Int))), some (.int (i32 ((t : Int) - 1))), o6, o7, o8], [], 176, zs Z, J, RP p0 p1 p2 p3 p4 p5 p6 97) = den none (Mean (d + 1)) none tQ_X7_layStops (115, [some (.ref 121), some (.int (i32 (i : Int))), some (.ref (124 + i)), some (.int (i32 (k : Int))), some (.int (i32 ((qcut m k : Nat) : Int))), some (.int (i32 (-1))), o6', o7', o8'], [], 176, zs Z', J, RP p0 p1 p2 p3 p4 p5 p6 97) := by
  have hS := hw.1
  have hP := hw.2.1
  obtain ⟨r1, r2⟩ := RPs (p0 := p0) (p1 := p1) (p2 := p2) (p3 := p3) (p4 := p4) (p5 := p5) (p6 := p6) (p7 := 97) (g := 121) (by omega) (show i < 3 by omega)
  have hh : hv3 97 := by omega
  obtain ⟨w1, w2⟩ := RPm (p0 := p0) (p1 := p1) (p2 := p2) (p3 := p3) (p4 := p4) (p5 := p5) (p6 := p6) (p7 := 97) hh (show k < 6 by omega)
  have hcut := (hw.2.2.1 k hk).2.1
  have hpl := qpl_b hw (k := k + 1) (by omega)
  rw [pl_succ] at hpl
  intro t
  induction t with
  | zero =>
    intro Z0 Z o6 o7 o8 ht hm hwt h1 h2 h3
    refine ⟨Z, o6, o7, o8, h1, fun t' s => h3 t' s (Nat.zero_le _), ?_⟩
    rw [k_X7_layStops_39_b]
    simp (disch := omega) only [k_X7_layStops_0_b, k_X7_layStops_6_b, k_X7_layStops_11_b, k_X7_layStops_24_b, k_X7_layStops_33_b, k_X7_layStops_44_b, k_X7_layStops_53_b, k_X7_layStops_55_b, k_X7_layStops_62_b, k_X7_layStops_72_b, k_X7_layStops_86_b, k_X7_layStops_89_b, k_X7_layStops_99_b, k_X7_layStops_103_b, k_X7_layStops_109_b, k_X7_layStops_121_b, k_X7_layStops_132_b, k_X7_layStops_141_b, k_X7_layStops_143_b, li_0, li_1, li_2, li_3, li_4, li_5, li_6, li_9, li_10, li_40, lm_1, lm_2, lm_3, lm_4, zs_ap, i32_add, i32_sub, i32_mul, i32_neg, i32_lt, i32_le, i32_eq, i32_nat, ckn, pka_r, pka_v, if_pos, if_neg, if_true, if_false]
    rfl
  | succ t ih =>
    intro Z0 Z o6 o7 o8 ht hm hwt h1 h2 h3
    have hb := shr_b hw hk hi (t := t) (by omega)
    have hmul : t * qpl m k + qpl m k ≤ 400 := by
      have : (t + 1) * qpl m k ≤ (qcut m k + 1) * qpl m k := Nat.mul_le_mul_right _ (by omega)
      rw [Nat.add_mul, Nat.one_mul] at this
      rw [Nat.mul_comm] at hpl
      omega
    have e7 : Z (104 + k) i = qwor m k i := by rw [h1 _ (by omega)]; exact hm.2.2.1 k hk i hi
    have e1 : Z 122 k = (qpl m k : Int) := by rw [h1 _ (by omega)]; exact hwt k hk
    obtain ⟨Z1, a1, a2, a3⟩ := ls_in_b (d := d + 1) (J := J) (p0 := p0) (p1 := p1) (p2 := p2) (p3 := p3) (p4 := p4) (p5 := p5) (p6 := p6)   (c := 124 + i) (w := qpl m k) (t := t) r2 (by omega) (k := k) (by omega) e1 hmul (sh := shr m k i t) (i32 (i : Int)) (i32 ((qcut m k : Nat) : Int)) (i32 (t : Int))
    obtain ⟨Z', o6', o7', o8', b1, b2, b3⟩ := ih Z0 Z1 (some (.int (i32 (shr m k i t)))) (some (.int (i32 ((t * qpl m k : Nat) : Int)))) (some (.int (i32 ((qpl m k : Nat) : Int)))) (by omega) hm hwt (fun a ha => (a1 a ha).trans (h1 a ha)) (fun s hs => by
      rw [a2 s]
      by_cases cx : t * qpl m k ≤ s ∧ s < t * qpl m k + qpl m k
      · have t0 : t = 0 := by
          rcases Nat.eq_zero_or_pos t with h0 | h0
          · exact h0
          · have : qpl m k ≤ t * qpl m k := Nat.le_mul_of_pos_left _ h0
            omega
        subst t0
        rw [if_pos cx, shr_0, Nat.zero_mul, Nat.sub_zero, Int.add_zero]
        exact h2 s hs
      · rw [if_neg cx]
        exact h2 s hs) (fun t' s h4 h5 hs => by
      by_cases ct : t' = t
      · subst ct
        rw [a2, if_pos (by omega), show t' * qpl m k + s - t' * qpl m k = s by omega, h2 s hs]
      · have hgt : t * qpl m k + qpl m k ≤ t' * qpl m k := by
          have : (t + 1) * qpl m k ≤ t' * qpl m k := Nat.mul_le_mul_right _ (by omega)
          rw [Nat.add_mul, Nat.one_mul] at this
          exact this
        rw [a2, if_neg (by omega)]
        exact h3 t' s (by omega) h5 hs)
    refine ⟨Z', o6', o7', o8', b1, b2, ?_⟩
    rw [show ((t + 1 : Nat) : Int) - 1 = (t : Int) by omega, k_X7_layStops_39_b]
    have hsh := h_shareOf_b (d := d) (J := J) (Z := Z) (p0 := p0) (p1 := p1) (p2 := p2) (p3 := p3) (p4 := p4) (p5 := p5) (p6 := p6)  hb.1 hcut
    have e9 : i32 (t : Int) * i32 ((qpl m k : Nat) : Int) = i32 ((t * qpl m k : Nat) : Int) := by rw [i32_mul]; rfl
    have e10 : den none (Mean (d + 1)) none tQ_X7_layStops (44, [some (.ref 121), some (.int (i32 (i : Int))), some (.ref (124 + i)), some (.int (i32 (k : Int))), some (.int (i32 ((qcut m k : Nat) : Int))), some (.int (i32 (t : Int))), o6, o7, o8], [], 176, zs Z, J, RP p0 p1 p2 p3 p4 p5 p6 97) = den none (Mean (d + 1)) none tQ_X7_layStops (78, [some (.ref 121), some (.int (i32 (i : Int))), some (.ref (124 + i)), some (.int (i32 (k : Int))), some (.int (i32 ((qcut m k : Nat) : Int))), some (.int (i32 (t : Int))), some (.int (i32 (shr m k i t))), some (.int (i32 ((t * qpl m k : Nat) : Int))), some (.int (i32 ((0 : Nat) : Int)))], [], 176, zs Z, J, RP p0 p1 p2 p3 p4 p5 p6 97) := by
      rw [k_X7_layStops_44_b]
      simp (disch := first | omega | assumption) only [k_X7_layStops_53_b, k_X7_layStops_55_b, k_X7_layStops_62_b, k_X7_layStops_72_b, w1, va_rf, zs_ap, i32_lt, i32_nat, ckn, li_0, Int.toNat_natCast, e7, hsh, pka_r, e1, e9]
      rfl
    simp (disch := omega) only [k_X7_layStops_0_b, k_X7_layStops_6_b, k_X7_layStops_11_b, k_X7_layStops_24_b, k_X7_layStops_33_b, k_X7_layStops_53_b, k_X7_layStops_55_b, k_X7_layStops_62_b, k_X7_layStops_72_b, k_X7_layStops_86_b, k_X7_layStops_89_b, k_X7_layStops_99_b, k_X7_layStops_103_b, k_X7_layStops_121_b, k_X7_layStops_132_b, k_X7_layStops_141_b, k_X7_layStops_143_b, li_0, li_1, li_2, li_3, li_4, li_5, li_6, li_9, li_10, li_40, lm_1, lm_2, lm_3, lm_4, zs_ap, i32_add, i32_sub, i32_mul, i32_neg, i32_lt, i32_le, i32_eq, i32_nat, ckn, pka_r, pka_v, if_pos, if_neg, if_true, if_false, e10, a3]
    rw [k_X7_layStops_109_b, lm_1, i32_add]
    exact b3
end
section
variable {d : Nat} {J : Nat → Nat → Int64} {Z : Nat → Nat → Int} {p0 p1 p2 p3 p4 p5 p6 p7 : Nat} {m : Mat}
theorem h_layStops_a (hp : p2 = 5 ∨ p2 = 20) (hw : wf m) (hm : KM m p2 Z) (hk : KW m 35 Z) {i : Nat} (hi : i < qS m) : ∃ Z' : Nat → Nat → Int, (∀ a : Nat, a ≠ 38 + i → a ≠ 41 → Z' a = Z a) ∧ (∀ s : Nat, s < qN m → Z' (38 + i) s = qstop m s i) ∧ (∀ j : Nat, j ≠ i → Z' 41 j = Z 41 j) ∧ Z' 41 i = qgoal m i ∧ Mean (d + 2) 78 [.ref 35, .int (i32 (i : Int))] (176, zs Z, J, RP p0 p1 p2 p3 p4 p5 p6 p7) = some (none, (176, zs Z', J, RP p0 p1 p2 p3 p4 p5 p6 p7)) := by
  have hS := hw.1
  have hP := hw.2.1
  obtain ⟨r1, r2⟩ := RPs (p0 := p0) (p1 := p1) (p2 := p2) (p3 := p3) (p4 := p4) (p5 := p5) (p6 := p6) (p7 := p7) (g := 35) (by omega) (show i < 3 by omega)
  have r1' : RP p0 p1 p2 p3 p4 p5 p6 p7 37 i = some (38 + i) := r1
  obtain ⟨y, hv, e⟩ := up_inv (fun (k : Nat) (y : (Nat → Nat → Int) × Option Value × Option Value × Option Value × Option Value × Option Value) => den none (Mean (d + 1)) none tQ_X7_layStops (13, [some (.ref 35), some (.int (i32 (i : Int))), some (.ref (38 + i)), some (.int (i32 (k : Int))), y.2.1, y.2.2.1, y.2.2.2.1, y.2.2.2.2.1, y.2.2.2.2.2], [], 176, zs y.1, J, RP p0 p1 p2 p3 p4 p5 p6 p7)) (qP m) (fun k y => (∀ a : Nat, a ≠ 38 + i → y.1 a = Z a) ∧ ∀ s : Nat, s < qpl m k → y.1 (38 + i) s = qsm m (qhas m s) i k) (fun k y hk' hv => by
    obtain ⟨Z1, o4, o5, o6, o7, o8⟩ := y
    obtain ⟨v1, v2⟩ := hv
    simp only at v1 v2
    have hm1 : KM m p2 Z1 := KM_fr hP hm (fun a h1 h2 => v1 a (by omega))
    have hw1 : ∀ k : Nat, k < qP m → Z1 36 k = qpl m k := fun k hk' => by rw [v1 _ (by omega)]; exact hk.2 k hk'
    have hcut := (hw.2.2.1 k hk').2.1
    obtain ⟨Z', o6', o7', o8', b1, b2, b3⟩ := ls_st_a (d := d) (J := J) (p0 := p0) (p1 := p1) (p2 := p2) (p3 := p3) (p4 := p4) (p5 := p5) (p6 := p6) (p7 := p7) hp hw hi hk' (qcut m k + 1) Z1 Z1 o6 o7 o8 (Nat.le_refl _) hm1 hw1 (fun _ _ => rfl) (fun _ _ => rfl) (fun t' s h1 h2 => by omega)
    refine ⟨(Z', some (.int (i32 ((qcut m k : Nat) : Int))), some (.int (i32 (-1))), o6', o7', o8'), ⟨fun a ha => (b1 a ha).trans (v1 a ha), fun x hx => ?_⟩, ?_⟩
    · obtain ⟨t, s, h1, h2, rfl⟩ := split_w hx
      show Z' _ _ = _
      rw [b2 t s h1 h2, qsm_w h2 h1, v2 s h2]
    · show den none (Mean (d + 1)) none tQ_X7_layStops (13, _, [], 176, zs Z1, J, _) = den none (Mean (d + 1)) none tQ_X7_layStops (13, _, [], 176, zs Z', J, _)
      have z2 : Z1 p2 2 = (qP m : Int) := hm1.1.2.1
      have z3 : Z1 (p2 + 3) k = (qcut m k : Int) := (hm1.2.1 k hk').2.1
      rw [show ((qcut m k + 1 : Nat) : Int) - 1 = ((qcut m k : Nat) : Int) by omega] at b3
      rw [k_X7_layStops_13_a (hv_p2 := by omega)]
      simp (disch := omega) only [k_X7_layStops_0_a, k_X7_layStops_6_a, k_X7_layStops_11_a, k_X7_layStops_24_a, k_X7_layStops_33_a, k_X7_layStops_44_a, k_X7_layStops_53_a, k_X7_layStops_55_a, k_X7_layStops_62_a, k_X7_layStops_72_a, k_X7_layStops_86_a, k_X7_layStops_89_a, k_X7_layStops_99_a, k_X7_layStops_103_a, k_X7_layStops_109_a, k_X7_layStops_121_a, k_X7_layStops_132_a, k_X7_layStops_141_a, k_X7_layStops_143_a, li_0, li_1, li_2, li_3, li_4, li_5, li_6, li_9, li_10, li_40, lm_1, lm_2, lm_3, lm_4, zs_ap, i32_add, i32_sub, i32_mul, i32_neg, i32_lt, i32_le, i32_eq, i32_nat, ckn, pka_r, pka_v, if_pos, if_neg, if_true, if_false, z2, z3, Int.toNat_natCast, b3]
      rw [k_X7_layStops_115_a, li_1, i32_add]
      rfl) (u2 Z (38 + i) 0 0, none, none, none, none, none) ⟨fun a ha => u2_ne ha, fun s hs => by
    have : s = 0 := by
      rw [show qpl m 0 = 1 from rfl] at hs
      omega
    subst this
    exact u2s⟩
  obtain ⟨Z1, o4, o5, o6, o7, o8⟩ := y
  obtain ⟨v1, v2⟩ := hv
  simp only at v1 v2 e
  have hm1 : KM m p2 Z1 := KM_fr hP hm (fun a h1 h2 => v1 a (by omega))
  have z2 : Z1 p2 2 = (qP m : Int) := hm1.1.2.1
  have z13 : Z1 (p2 + 13) i = qpea m i := (hm1.2.2.2 i (by omega)).1
  have zf : Z1 35 3 = (qfin m : Int) := by rw [v1 _ (by omega)]; exact hk.1.2.2
  have hfin := qfin_lt hw
  have hN := qpl_b hw (k := qP m) (Nat.le_refl _)
  have hN' : qN m = qpl m (qP m) := rfl
  have zs' : Z1 (38 + i) (qfin m) = qstop m (qfin m) i := v2 _ hfin
  refine ⟨u2 Z1 41 i (qgoal m i), fun a h1 h2 => (u2_ne h2).trans (v1 a h1), fun s hs => ?_, fun j hj => ?_, u2s, ?_⟩
  · rw [u2_ne (by omega)]
    exact v2 s hs
  · rw [u2f hj, v1 _ (by omega)]
  · rw [e_X7_layStops, k_X7_layStops_0_a]
    have e1 : den none (Mean (d + 1)) none tQ_X7_layStops (6, [some (.ref 35), some (.int (i32 (i : Int))), none, none, none, none, none, none, none], [va_rf (some (38 + i))], 176, zs Z, J, RP p0 p1 p2 p3 p4 p5 p6 p7) = den none (Mean (d + 1)) none tQ_X7_layStops (13, [some (.ref 35), some (.int (i32 (i : Int))), some (.ref (38 + i)), some (.int (i32 ((0 : Nat) : Int))), none, none, none, none, none], [], 176, zs (u2 Z (38 + i) 0 0), J, RP p0 p1 p2 p3 p4 p5 p6 p7) := by
      simp (disch := first | omega | assumption) only [va_rf, k_X7_layStops_6_a, k_X7_layStops_11_a, li_0, i32_lt, i32_nat, ckn, zs_u2]
      rfl
    simp (disch := omega) only [i32_lt, i32_nat, ckn, li_0, Int.toNat_natCast, r1', e1, e]
    rw [k_X7_layStops_13_a (hv_p2 := by omega)]
    simp (disch := first | omega | assumption) only [k_X7_layStops_0_a, k_X7_layStops_6_a, k_X7_layStops_11_a, k_X7_layStops_33_a, k_X7_layStops_44_a, k_X7_layStops_53_a, k_X7_layStops_55_a, k_X7_layStops_62_a, k_X7_layStops_72_a, k_X7_layStops_86_a, k_X7_layStops_89_a, k_X7_layStops_99_a, k_X7_layStops_103_a, k_X7_layStops_109_a, k_X7_layStops_115_a, k_X7_layStops_121_a, k_X7_layStops_132_a, k_X7_layStops_141_a, k_X7_layStops_143_a, li_0, li_1, li_2, li_3, li_4, li_5, li_6, li_9, li_10, li_40, lm_1, lm_2, lm_3, lm_4, zs_ap, i32_add, i32_sub, i32_mul, i32_neg, i32_lt, i32_le, i32_eq, i32_nat, ckn, pka_r, pka_v, if_pos, if_neg, if_true, if_false, z2, zf, Int.toNat_natCast, zs', z13, zs_u2]
    rfl
theorem h_hasState_a {N : Nat} (hN : N ≤ 400) (h1 : Z 35 1 = (N : Int)) {a : Int} (ha : -2147483648 ≤ a ∧ a < 2147483648) : Mean (d + 1) 80 [.ref 35, .int (i32 a)] (176, zs Z, J, RP p0 p1 p2 p3 p4 p5 p6 p7) = some (some (.int (i32 (bI (0 ≤ a ∧ a < N)))), (176, zs Z, J, RP p0 p1 p2 p3 p4 p5 p6 p7)) := by
  rw [e_X7_hasState, k_X7_hasState_0_a]
  by_cases c1 : 0 ≤ a
  · by_cases c2 : a < N
    · rw [bI_t ⟨c1, c2⟩]
      simp (disch := omega) only [k_X7_hasState_4_a, k_X7_hasState_12_a, k_X7_hasState_16_a, k_X7_hasState_17_a, li_0, li_1, li_2, li_3, li_4, li_5, li_6, li_9, li_10, li_40, lm_1, lm_2, lm_3, lm_4, zs_ap, i32_add, i32_sub, i32_mul, i32_neg, i32_lt, i32_le, i32_eq, i32_nat, ckn, pka_r, pka_v, if_pos, if_neg, if_true, if_false, h1, or_true]
    · rw [bI_f (fun q => c2 q.2)]
      simp (disch := omega) only [k_X7_hasState_4_a, k_X7_hasState_12_a, k_X7_hasState_16_a, k_X7_hasState_17_a, li_0, li_1, li_2, li_3, li_4, li_5, li_6, li_9, li_10, li_40, lm_1, lm_2, lm_3, lm_4, zs_ap, i32_add, i32_sub, i32_mul, i32_neg, i32_lt, i32_le, i32_eq, i32_nat, ckn, pka_r, pka_v, if_pos, if_neg, if_true, if_false, h1, true_or]
  · rw [bI_f (fun q => c1 q.1)]
    simp (disch := omega) only [k_X7_hasState_4_a, k_X7_hasState_12_a, k_X7_hasState_16_a, k_X7_hasState_17_a, li_0, li_1, li_2, li_3, li_4, li_5, li_6, li_9, li_10, li_40, lm_1, lm_2, lm_3, lm_4, zs_ap, i32_add, i32_sub, i32_mul, i32_neg, i32_lt, i32_le, i32_eq, i32_nat, ckn, pka_r, pka_v, if_pos, if_neg, if_true, if_false, true_or]
end
section
variable {d : Nat} {J : Nat → Nat → Int64} {Z : Nat → Nat → Int} {p0 p1 p2 p3 p4 p5 p6 : Nat} {m : Mat}
theorem h_layStops_b  (hw : wf m) (hm : KM m 97 Z) (hk : KW m 121 Z) {i : Nat} (hi : i < qS m) : ∃ Z' : Nat → Nat → Int, (∀ a : Nat, a ≠ 124 + i → a ≠ 127 → Z' a = Z a) ∧ (∀ s : Nat, s < qN m → Z' (124 + i) s = qstop m s i) ∧ (∀ j : Nat, j ≠ i → Z' 127 j = Z 127 j) ∧ Z' 127 i = qgoal m i ∧ Mean (d + 2) 78 [.ref 121, .int (i32 (i : Int))] (176, zs Z, J, RP p0 p1 p2 p3 p4 p5 p6 97) = some (none, (176, zs Z', J, RP p0 p1 p2 p3 p4 p5 p6 97)) := by
  have hS := hw.1
  have hP := hw.2.1
  obtain ⟨r1, r2⟩ := RPs (p0 := p0) (p1 := p1) (p2 := p2) (p3 := p3) (p4 := p4) (p5 := p5) (p6 := p6) (p7 := 97) (g := 121) (by omega) (show i < 3 by omega)
  have r1' : RP p0 p1 p2 p3 p4 p5 p6 97 123 i = some (124 + i) := r1
  obtain ⟨y, hv, e⟩ := up_inv (fun (k : Nat) (y : (Nat → Nat → Int) × Option Value × Option Value × Option Value × Option Value × Option Value) => den none (Mean (d + 1)) none tQ_X7_layStops (13, [some (.ref 121), some (.int (i32 (i : Int))), some (.ref (124 + i)), some (.int (i32 (k : Int))), y.2.1, y.2.2.1, y.2.2.2.1, y.2.2.2.2.1, y.2.2.2.2.2], [], 176, zs y.1, J, RP p0 p1 p2 p3 p4 p5 p6 97)) (qP m) (fun k y => (∀ a : Nat, a ≠ 124 + i → y.1 a = Z a) ∧ ∀ s : Nat, s < qpl m k → y.1 (124 + i) s = qsm m (qhas m s) i k) (fun k y hk' hv => by
    obtain ⟨Z1, o4, o5, o6, o7, o8⟩ := y
    obtain ⟨v1, v2⟩ := hv
    simp only at v1 v2
    have hm1 : KM m 97 Z1 := KM_fr hP hm (fun a h1 h2 => v1 a (by omega))
    have hw1 : ∀ k : Nat, k < qP m → Z1 122 k = qpl m k := fun k hk' => by rw [v1 _ (by omega)]; exact hk.2 k hk'
    have hcut := (hw.2.2.1 k hk').2.1
    obtain ⟨Z', o6', o7', o8', b1, b2, b3⟩ := ls_st_b (d := d) (J := J) (p0 := p0) (p1 := p1) (p2 := p2) (p3 := p3) (p4 := p4) (p5 := p5) (p6 := p6)  hw hi hk' (qcut m k + 1) Z1 Z1 o6 o7 o8 (Nat.le_refl _) hm1 hw1 (fun _ _ => rfl) (fun _ _ => rfl) (fun t' s h1 h2 => by omega)
    refine ⟨(Z', some (.int (i32 ((qcut m k : Nat) : Int))), some (.int (i32 (-1))), o6', o7', o8'), ⟨fun a ha => (b1 a ha).trans (v1 a ha), fun x hx => ?_⟩, ?_⟩
    · obtain ⟨t, s, h1, h2, rfl⟩ := split_w hx
      show Z' _ _ = _
      rw [b2 t s h1 h2, qsm_w h2 h1, v2 s h2]
    · show den none (Mean (d + 1)) none tQ_X7_layStops (13, _, [], 176, zs Z1, J, _) = den none (Mean (d + 1)) none tQ_X7_layStops (13, _, [], 176, zs Z', J, _)
      have z2 : Z1 97 2 = (qP m : Int) := hm1.1.2.1
      have z3 : Z1 100 k = (qcut m k : Int) := (hm1.2.1 k hk').2.1
      rw [show ((qcut m k + 1 : Nat) : Int) - 1 = ((qcut m k : Nat) : Int) by omega] at b3
      rw [k_X7_layStops_13_b]
      simp (disch := omega) only [k_X7_layStops_0_b, k_X7_layStops_6_b, k_X7_layStops_11_b, k_X7_layStops_24_b, k_X7_layStops_33_b, k_X7_layStops_44_b, k_X7_layStops_53_b, k_X7_layStops_55_b, k_X7_layStops_62_b, k_X7_layStops_72_b, k_X7_layStops_86_b, k_X7_layStops_89_b, k_X7_layStops_99_b, k_X7_layStops_103_b, k_X7_layStops_109_b, k_X7_layStops_121_b, k_X7_layStops_132_b, k_X7_layStops_141_b, k_X7_layStops_143_b, li_0, li_1, li_2, li_3, li_4, li_5, li_6, li_9, li_10, li_40, lm_1, lm_2, lm_3, lm_4, zs_ap, i32_add, i32_sub, i32_mul, i32_neg, i32_lt, i32_le, i32_eq, i32_nat, ckn, pka_r, pka_v, if_pos, if_neg, if_true, if_false, z2, z3, Int.toNat_natCast, b3]
      rw [k_X7_layStops_115_b, li_1, i32_add]
      rfl) (u2 Z (124 + i) 0 0, none, none, none, none, none) ⟨fun a ha => u2_ne ha, fun s hs => by
    have : s = 0 := by
      rw [show qpl m 0 = 1 from rfl] at hs
      omega
    subst this
    exact u2s⟩
  obtain ⟨Z1, o4, o5, o6, o7, o8⟩ := y
  obtain ⟨v1, v2⟩ := hv
  simp only at v1 v2 e
  have hm1 : KM m 97 Z1 := KM_fr hP hm (fun a h1 h2 => v1 a (by omega))
  have z2 : Z1 97 2 = (qP m : Int) := hm1.1.2.1
  have z13 : Z1 110 i = qpea m i := (hm1.2.2.2 i (by omega)).1
  have zf : Z1 121 3 = (qfin m : Int) := by rw [v1 _ (by omega)]; exact hk.1.2.2
  have hfin := qfin_lt hw
  have hN := qpl_b hw (k := qP m) (Nat.le_refl _)
  have hN' : qN m = qpl m (qP m) := rfl
  have zs' : Z1 (124 + i) (qfin m) = qstop m (qfin m) i := v2 _ hfin
  refine ⟨u2 Z1 127 i (qgoal m i), fun a h1 h2 => (u2_ne h2).trans (v1 a h1), fun s hs => ?_, fun j hj => ?_, u2s, ?_⟩
  · rw [u2_ne (by omega)]
    exact v2 s hs
  · rw [u2f hj, v1 _ (by omega)]
  · rw [e_X7_layStops, k_X7_layStops_0_b]
    have e1 : den none (Mean (d + 1)) none tQ_X7_layStops (6, [some (.ref 121), some (.int (i32 (i : Int))), none, none, none, none, none, none, none], [va_rf (some (124 + i))], 176, zs Z, J, RP p0 p1 p2 p3 p4 p5 p6 97) = den none (Mean (d + 1)) none tQ_X7_layStops (13, [some (.ref 121), some (.int (i32 (i : Int))), some (.ref (124 + i)), some (.int (i32 ((0 : Nat) : Int))), none, none, none, none, none], [], 176, zs (u2 Z (124 + i) 0 0), J, RP p0 p1 p2 p3 p4 p5 p6 97) := by
      simp (disch := first | omega | assumption) only [va_rf, k_X7_layStops_6_b, k_X7_layStops_11_b, li_0, i32_lt, i32_nat, ckn, zs_u2]
      rfl
    simp (disch := omega) only [i32_lt, i32_nat, ckn, li_0, Int.toNat_natCast, r1', e1, e]
    rw [k_X7_layStops_13_b]
    simp (disch := first | omega | assumption) only [k_X7_layStops_0_b, k_X7_layStops_6_b, k_X7_layStops_11_b, k_X7_layStops_33_b, k_X7_layStops_44_b, k_X7_layStops_53_b, k_X7_layStops_55_b, k_X7_layStops_62_b, k_X7_layStops_72_b, k_X7_layStops_86_b, k_X7_layStops_89_b, k_X7_layStops_99_b, k_X7_layStops_103_b, k_X7_layStops_109_b, k_X7_layStops_115_b, k_X7_layStops_121_b, k_X7_layStops_132_b, k_X7_layStops_141_b, k_X7_layStops_143_b, li_0, li_1, li_2, li_3, li_4, li_5, li_6, li_9, li_10, li_40, lm_1, lm_2, lm_3, lm_4, zs_ap, i32_add, i32_sub, i32_mul, i32_neg, i32_lt, i32_le, i32_eq, i32_nat, ckn, pka_r, pka_v, if_pos, if_neg, if_true, if_false, z2, zf, Int.toNat_natCast, zs', z13, zs_u2]
    rfl
theorem h_hasState_b {N : Nat} (hN : N ≤ 400) (h1 : Z 121 1 = (N : Int)) {a : Int} (ha : -2147483648 ≤ a ∧ a < 2147483648) : Mean (d + 1) 80 [.ref 121, .int (i32 a)] (176, zs Z, J, RP p0 p1 p2 p3 p4 p5 p6 97) = some (some (.int (i32 (bI (0 ≤ a ∧ a < N)))), (176, zs Z, J, RP p0 p1 p2 p3 p4 p5 p6 97)) := by
  rw [e_X7_hasState, k_X7_hasState_0_b]
  by_cases c1 : 0 ≤ a
  · by_cases c2 : a < N
    · rw [bI_t ⟨c1, c2⟩]
      simp (disch := omega) only [k_X7_hasState_4_b, k_X7_hasState_12_b, k_X7_hasState_16_b, k_X7_hasState_17_b, li_0, li_1, li_2, li_3, li_4, li_5, li_6, li_9, li_10, li_40, lm_1, lm_2, lm_3, lm_4, zs_ap, i32_add, i32_sub, i32_mul, i32_neg, i32_lt, i32_le, i32_eq, i32_nat, ckn, pka_r, pka_v, if_pos, if_neg, if_true, if_false, h1, or_true]
    · rw [bI_f (fun q => c2 q.2)]
      simp (disch := omega) only [k_X7_hasState_4_b, k_X7_hasState_12_b, k_X7_hasState_16_b, k_X7_hasState_17_b, li_0, li_1, li_2, li_3, li_4, li_5, li_6, li_9, li_10, li_40, lm_1, lm_2, lm_3, lm_4, zs_ap, i32_add, i32_sub, i32_mul, i32_neg, i32_lt, i32_le, i32_eq, i32_nat, ckn, pka_r, pka_v, if_pos, if_neg, if_true, if_false, h1, true_or]
  · rw [bI_f (fun q => c1 q.1)]
    simp (disch := omega) only [k_X7_hasState_4_b, k_X7_hasState_12_b, k_X7_hasState_16_b, k_X7_hasState_17_b, li_0, li_1, li_2, li_3, li_4, li_5, li_6, li_9, li_10, li_40, lm_1, lm_2, lm_3, lm_4, zs_ap, i32_add, i32_sub, i32_mul, i32_neg, i32_lt, i32_le, i32_eq, i32_nat, ckn, pka_r, pka_v, if_pos, if_neg, if_true, if_false, true_or]
end
