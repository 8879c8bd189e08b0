/-! THE CLASS'S Rows: layOnce, layTurns -/
theorem givs_c {m : Mat} {s : Nat} {sel f g : Nat → Bool} (h : ∀ u : Nat, u < s → f u = g u) : givs m s sel f = givs m s sel g := by
  apply beq_iff
  constructor
  · exact fun q => givs_mono (fun u hu hf => by rw [← h u hu]; exact hf) q
  · exact fun q => givs_mono (fun u hu hf => by rw [h u hu]; exact hf) q
theorem gb_shl1 {n : Nat} (x : Int64) (hn : n < 64) : gb (x <<< ((1 : Int32).toInt64 &&& 63)) n = (decide (1 ≤ n) && gb x (n - 1)) := gb_shl (k := 1) x (by decide) hn
/-- what gathered has, of a state whose lower states are laid -/
def GT (m : Mat) (b : Nat → Int) (s : Nat) (g : Nat → Int64) : Prop := ∀ i n : Nat, i < 3 → n < 64 → gb (g i) n = givs m s (fun k => decide (qown m k = i)) (fun u => LB m b (lbh m i) u n)
section
variable {d : Nat} {J : Nat → Nat → Int64} {Z : Nat → Nat → Int} {p0 p1 p2 p5 p6 p7 : Nat} {m : Mat} {b : Nat → Int}
theorem lo_1_a (hp : p2 = 5 ∨ p2 = 20) (hw : wf m) (h2 : qmode m = 2) (hm : KM m p2 Z) {s : Nat} (hs : s < qN m) (hg : GT m b s (J 50)) (st : Int64) (o7 o8 : Option Value) : ∃ y : Int64 × (Nat → Nat → Int64), ((∀ n : Nat, n < 64 → gb y.1 n = TJ m s (fun u => sf m b n u 0) (qS m)) ∧ (∀ a : Nat, (a < 46 ∨ 47 < a) → y.2 a = J a) ∧ (∀ a x : Nat, x ≠ s → y.2 a x = J a x) ∧ (∀ j : Nat, 1 ≤ j → j < qS m → ∀ n : Nat, n < 64 → gb (y.2 (45 + j) s) n = TJ m s (fun u => sf m b n u 0) j)) ∧ den none (Mean d) none tQ_X6_layOnce (14, [some (.ref 43), some (.int (i32 (s : Int))), some (.long st), none, some (.long 0), none, some (.int (i32 ((qS m : Int) - 1))), o7, o8], [], 176, zs Z, J, RP p0 p1 p2 35 p2 p5 p6 p7) = den none (Mean d) none tQ_X6_layOnce (61, [some (.ref 43), some (.int (i32 (s : Int))), some (.long st), none, some (.long y.1), none, some (.int (i32 (-1))), o7, o8], [], 176, zs Z, y.2, RP p0 p1 p2 35 p2 p5 p6 p7) := by
  have hS := hw.1
  have hN := qpl_b hw (k := qP m) (Nat.le_refl _)
  have hN' : qN m = qpl m (qP m) := rfl
  have z1 : Z p2 1 = (qS m : Int) := hm.1.1
  obtain ⟨y, ⟨v1, v2, v3, v4⟩, e⟩ := up_inv (fun (j : Nat) (y : Int64 × (Nat → Nat → Int64)) => den none (Mean d) none tQ_X6_layOnce (14, [some (.ref 43), some (.int (i32 (s : Int))), some (.long st), none, some (.long y.1), none, some (.int (i32 ((qS m : Int) - 1 - (j : Int)))), o7, o8], [], 176, zs Z, y.2, RP p0 p1 p2 35 p2 p5 p6 p7)) (qS m) (fun j y => (∀ n : Nat, n < 64 → gb y.1 n = TJ m s (fun u => sf m b n u 0) j) ∧ (∀ a : Nat, (a < 46 ∨ 47 < a) → y.2 a = J a) ∧ (∀ a x : Nat, x ≠ s → y.2 a x = J a x) ∧ (∀ j' : Nat, 1 ≤ j' → j' < qS m → j' ≤ j → ∀ n : Nat, n < 64 → gb (y.2 (45 + j') s) n = TJ m s (fun u => sf m b n u 0) j')) (fun j y hj hv => by
    obtain ⟨x4, J1⟩ := y
    obtain ⟨v1, v2, v3, v4⟩ := hv
    simp only at v1 v2 v3 v4
    have ei : (qS m : Int) - 1 - (j : Int) = ((qS m - 1 - j : Nat) : Int) := by omega
    have eg : J1 50 = J 50 := v2 _ (by omega)
    have hlb : lbh m (qS m - 1 - j) = j := by
      unfold lbh
      rw [if_neg (by omega), if_pos h2]
      omega
    have hor : ∀ n : Nat, n < 64 → gb (x4 ||| J 50 (qS m - 1 - j)) n = TJ m s (fun u => sf m b n u 0) (j + 1) := fun n hn => by
      rw [gb_or, v1 n hn, TJ_s, hg _ n (by omega) hn, hlb]
      congr 1
      unfold LB
      simp only [if_pos h2]
    by_cases c0 : qS m - 1 - j = 0
    · refine ⟨(x4 ||| J 50 (qS m - 1 - j), J1), ⟨hor, v2, v3, fun j' h1 h3 h4 => v4 j' h1 h3 (by omega)⟩, ?_⟩
      show den none (Mean d) none tQ_X6_layOnce (14, _, [], 176, zs Z, J1, _) = den none (Mean d) none tQ_X6_layOnce (14, _, [], 176, zs Z, J1, _)
      rw [ei, k_X6_layOnce_14_a]
      simp (disch := omega) only [k_X6_layOnce_0_a, k_X6_layOnce_19_a, k_X6_layOnce_28_a, k_X6_layOnce_36_a, k_X6_layOnce_51_a, k_X6_layOnce_55_a, k_X6_layOnce_61_a, k_X6_layOnce_84_a, k_X6_layOnce_91_a, k_X6_layOnce_97_a, k_X6_layOnce_102_a, k_X6_layOnce_109_a, k_X6_layOnce_111_a, k_X6_layOnce_114_a, k_X6_layOnce_115_a, k_X6_layOnce_121_a, li_0, li_1, li_2, li_3, li_4, li_5, li_6, li_9, li_10, li_40, lm_1, lm_2, lm_3, lm_4, zs_ap, i32_add, i32_sub, i32_mul, i32_neg, i32_lt, i32_le, i32_eq, i32_nat, ckn, pka_r, pka_v, if_pos, if_neg, if_true, if_false, Int.toNat_natCast, eg, c0]
      rw [show (qS m : Int) - 1 - ((j + 1 : Nat) : Int) = ((0 : Nat) : Int) + -1 by omega]
    · obtain ⟨r1, r2⟩ := RPl (p0 := p0) (p1 := p1) (p2 := p2) (p3 := 35) (p4 := p2) (p5 := p5) (p6 := p6) (p7 := p7) (q := 43) (by omega) (show j + 1 < 3 by omega)
      have r1' : RP p0 p1 p2 35 p2 p5 p6 p7 44 (j + 1) = some (45 + (j + 1)) := r1
      have r2' : pshn (45 + (j + 1)) = some (.inl (.long, 400)) := r2
      have et : ((qS m : Int) - ((qS m - 1 - j : Nat) : Int)).toNat = j + 1 := by omega
      refine ⟨(x4 ||| J 50 (qS m - 1 - j), u2 J1 (45 + (j + 1)) s (x4 ||| J 50 (qS m - 1 - j))), ⟨hor, fun a ha => (u2_ne (by omega)).trans (v2 a ha), fun a x hx => ?_, fun j' h1 h3 h4 n hn => ?_⟩, ?_⟩
      · dsimp only
        by_cases ca : a = 45 + (j + 1)
        · rw [ca, u2f hx]
          exact v3 _ x hx
        · rw [u2_ne ca]
          exact v3 a x hx
      · dsimp only
        by_cases cj : j' = j + 1
        · subst cj
          rw [u2s]
          exact hor n hn
        · rw [u2_ne (by omega)]
          exact v4 j' h1 h3 (by omega) n hn
      · show den none (Mean d) none tQ_X6_layOnce (14, _, [], 176, zs Z, J1, _) = den none (Mean d) none tQ_X6_layOnce (14, _, [], 176, zs Z, _, _)
        rw [ei, k_X6_layOnce_14_a]
        simp (disch := first | omega | assumption) only [k_X6_layOnce_0_a, k_X6_layOnce_19_a, k_X6_layOnce_28_a, k_X6_layOnce_36_a, k_X6_layOnce_51_a, k_X6_layOnce_55_a, k_X6_layOnce_61_a, k_X6_layOnce_84_a, k_X6_layOnce_91_a, k_X6_layOnce_97_a, k_X6_layOnce_102_a, k_X6_layOnce_109_a, k_X6_layOnce_111_a, k_X6_layOnce_114_a, k_X6_layOnce_115_a, k_X6_layOnce_121_a, li_0, li_1, li_2, li_3, li_4, li_5, li_6, li_9, li_10, li_40, lm_1, lm_2, lm_3, lm_4, zs_ap, i32_add, i32_sub, i32_mul, i32_neg, i32_lt, i32_le, i32_eq, i32_nat, ckn, pka_r, pka_v, if_pos, if_neg, if_true, if_false, Int.toNat_natCast, eg, z1, et, r1', va_rf]
        rw [show (qS m : Int) - 1 - ((j + 1 : Nat) : Int) = ((qS m - 1 - j : Nat) : Int) + -1 by omega]) (0, J) ⟨fun n _ => gb_0 n, fun _ _ => rfl, fun _ _ _ => rfl, fun j' h1 h3 h4 => by omega⟩
  obtain ⟨x4, J1⟩ := y
  refine ⟨(x4, J1), ⟨v1, v2, v3, fun j h1 h3 => v4 j h1 h3 (by omega)⟩, ?_⟩
  simp only at e
  rw [show (qS m : Int) - 1 - ((0 : Nat) : Int) = (qS m : Int) - 1 by omega] at e
  refine e.trans ?_
  rw [show (qS m : Int) - 1 - (qS m : Int) = -1 by omega, k_X6_layOnce_14_a]
  simp (disch := omega) only [k_X6_layOnce_0_a, k_X6_layOnce_19_a, k_X6_layOnce_28_a, k_X6_layOnce_36_a, k_X6_layOnce_51_a, k_X6_layOnce_55_a, k_X6_layOnce_84_a, k_X6_layOnce_91_a, k_X6_layOnce_97_a, k_X6_layOnce_102_a, k_X6_layOnce_109_a, k_X6_layOnce_111_a, k_X6_layOnce_114_a, k_X6_layOnce_115_a, k_X6_layOnce_121_a, li_0, li_1, li_2, li_3, li_4, li_5, li_6, li_9, li_10, li_40, lm_1, lm_2, lm_3, lm_4, zs_ap, i32_add, i32_sub, i32_mul, i32_neg, i32_lt, i32_le, i32_eq, i32_nat, ckn, pka_r, pka_v, if_pos, if_neg, if_true, if_false]
theorem h_layOnce_a (hp : p2 = 5 ∨ p2 = 20) (hw : wf m) (h2 : qmode m = 2) (hm : KM m p2 Z) {s : Nat} (hs : s < qN m) (hf : s ≠ qfin m) (hg : GT m b s (J 50)) {st : Int64} (hst : ∀ n : Nat, n < 64 → gb st n = sty m b s n) : ∃ J' : Nat → Nat → Int64, (∀ a : Nat, (a < 45 ∨ 47 < a) → J' a = J a) ∧ (∀ a x : Nat, x ≠ s → J' a x = J a x) ∧ (∀ t n : Nat, t < qS m → n < 64 → gb (J' (45 + t) s) n = LB m b t s n) ∧ Mean (d + 1) 71 [.ref 43, .int (i32 (s : Int)), .long st] (176, zs Z, J, RP p0 p1 p2 35 p2 p5 p6 p7) = some (none, (176, zs Z, J', RP p0 p1 p2 35 p2 p5 p6 p7)) := by
  have hS := hw.1
  have hN := qpl_b hw (k := qP m) (Nat.le_refl _)
  have hN' : qN m = qpl m (qP m) := rfl
  have z1 : Z p2 1 = (qS m : Int) := hm.1.1
  obtain ⟨⟨x4, J1⟩, ⟨v1, v2, v3, v4⟩, e1⟩ := lo_1_a (d := d) (p0 := p0) (p1 := p1) (p2 := p2) (p5 := p5) (p6 := p6) (p7 := p7) hp hw h2 hm hs hg st none none
  simp only at v1 v2 v3 v4 e1
  have hsafe : ∀ n : Nat, n < 64 → gb ((x4 <<< ((1 : Int32).toInt64 &&& 63)) &&& st) n = sf m b n s 0 := fun n hn => by
    rw [gb_and, gb_shl1 _ hn, hst n hn]
    cases n with
    | zero =>
      show _ = decide (s = qfin m)
      simp [hf]
    | succ n =>
      rw [Nat.add_sub_cancel, v1 n (by omega), ← tg_TJ hs (qS m) 0 (by omega)]
      show _ = ((!decide (s = qfin m) && qstay m b s (n + 1)) && onw m (sf m b n) s 0)
      unfold sty onw
      rw [if_pos h2]
      simp [hf, Bool.and_comm]
  generalize hx6 : (x4 <<< ((1 : Int32).toInt64 &&& 63)) &&& st = x6 at *
  obtain ⟨J2, ⟨w1, w2, w3, w4⟩, e2⟩ := up_inv (fun (j : Nat) (J : Nat → Nat → Int64) => den none (Mean d) none tQ_X6_layOnce (72, [some (.ref 43), some (.int (i32 (s : Int))), some (.long st), none, some (.long x4), none, some (.long x6), none, some (.int (i32 (j : Int)))], [], 176, zs Z, J, RP p0 p1 p2 35 p2 p5 p6 p7)) (qS m) (fun j J' => (∀ a : Nat, (a < 45 ∨ 47 < a) → J' a = J1 a) ∧ (∀ a x : Nat, x ≠ s → J' a x = J1 a x) ∧ (∀ t : Nat, j ≤ t → J' (45 + t) s = J1 (45 + t) s) ∧ ∀ t n : Nat, t < j → n < 64 → gb (J' (45 + t) s) n = LB m b t s n) (fun j J' hj hv => by
    obtain ⟨v1', v2', v3', v4'⟩ := hv
    obtain ⟨r1, r2⟩ := RPl (p0 := p0) (p1 := p1) (p2 := p2) (p3 := 35) (p4 := p2) (p5 := p5) (p6 := p6) (p7 := p7) (q := 43) (by omega) (show j < 3 by omega)
    have r1' : RP p0 p1 p2 35 p2 p5 p6 p7 44 j = some (45 + j) := r1
    have r2' : pshn (45 + j) = some (.inl (.long, 400)) := r2
    have key : ∃ v : Int64, (∀ n : Nat, n < 64 → gb v n = LB m b j s n) ∧ den none (Mean d) none tQ_X6_layOnce (72, [some (.ref 43), some (.int (i32 (s : Int))), some (.long st), none, some (.long x4), none, some (.long x6), none, some (.int (i32 (j : Int)))], [], 176, zs Z, J', RP p0 p1 p2 35 p2 p5 p6 p7) = den none (Mean d) none tQ_X6_layOnce (72, [some (.ref 43), some (.int (i32 (s : Int))), some (.long st), none, some (.long x4), none, some (.long x6), none, some (.int (i32 ((j + 1 : Nat) : Int)))], [], 176, zs Z, u2 J' (45 + j) s v, RP p0 p1 p2 35 p2 p5 p6 p7) := by
      by_cases c0 : j = 0
      · subst c0
        refine ⟨x6, fun n hn => ?_, ?_⟩
        · rw [hsafe n hn]
          unfold LB
          rw [if_pos h2]
          rfl
        · rw [k_X6_layOnce_72_a (hv_p4 := by omega)]
          simp (disch := first | omega | assumption) only [k_X6_layOnce_0_a, k_X6_layOnce_19_a, k_X6_layOnce_28_a, k_X6_layOnce_36_a, k_X6_layOnce_51_a, k_X6_layOnce_55_a, k_X6_layOnce_61_a, k_X6_layOnce_84_a, k_X6_layOnce_91_a, k_X6_layOnce_97_a, k_X6_layOnce_102_a, k_X6_layOnce_109_a, k_X6_layOnce_111_a, k_X6_layOnce_114_a, k_X6_layOnce_115_a, k_X6_layOnce_121_a, li_0, li_1, li_2, li_3, li_4, li_5, li_6, li_9, li_10, li_40, lm_1, lm_2, lm_3, lm_4, zs_ap, i32_add, i32_sub, i32_mul, i32_neg, i32_lt, i32_le, i32_eq, i32_nat, ckn, pka_r, pka_v, if_pos, if_neg, if_true, if_false, Int.toNat_natCast, z1, r1', va_rf]
          rfl
      · refine ⟨J' (45 + j) s ||| x6, fun n hn => ?_, ?_⟩
        · rw [gb_or, v3' j (Nat.le_refl _), v4 j (by omega) hj n hn, hsafe n hn]
          unfold LB
          rw [if_pos h2, AL_TJ, Bool.or_comm]
        · rw [k_X6_layOnce_72_a (hv_p4 := by omega)]
          simp (disch := first | omega | assumption) only [k_X6_layOnce_0_a, k_X6_layOnce_19_a, k_X6_layOnce_28_a, k_X6_layOnce_36_a, k_X6_layOnce_51_a, k_X6_layOnce_55_a, k_X6_layOnce_61_a, k_X6_layOnce_84_a, k_X6_layOnce_91_a, k_X6_layOnce_97_a, k_X6_layOnce_102_a, k_X6_layOnce_109_a, k_X6_layOnce_111_a, k_X6_layOnce_114_a, k_X6_layOnce_115_a, k_X6_layOnce_121_a, li_0, li_1, li_2, li_3, li_4, li_5, li_6, li_9, li_10, li_40, lm_1, lm_2, lm_3, lm_4, zs_ap, i32_add, i32_sub, i32_mul, i32_neg, i32_lt, i32_le, i32_eq, i32_nat, ckn, pka_r, pka_v, if_pos, if_neg, if_true, if_false, Int.toNat_natCast, z1, r1', va_rf]
          rfl
    obtain ⟨v, k1, k2⟩ := key
    refine ⟨u2 J' (45 + j) s v, ⟨fun a ha => (u2_ne (by omega)).trans (v1' a ha), fun a x hx => ?_, fun t ht => ?_, fun t n ht hn => ?_⟩, k2⟩
    · by_cases ca : a = 45 + j
      · rw [ca, u2f hx]
        exact v2' _ x hx
      · rw [u2_ne ca]
        exact v2' a x hx
    · rw [u2_ne (by omega)]
      exact v3' t (by omega)
    · by_cases ct : t = j
      · subst ct
        rw [u2s]
        exact k1 n hn
      · rw [u2_ne (by omega)]
        exact v4' t n (by omega) hn) J1 ⟨fun _ _ => rfl, fun _ _ _ => rfl, fun _ _ => rfl, fun t n ht => by omega⟩
  refine ⟨J2, fun a ha => (w1 a ha).trans (v2 a (by omega)), fun a x hx => (w2 a x hx).trans (v3 a x hx), w4, ?_⟩
  rw [e_X6_layOnce, k_X6_layOnce_0_a (hv_p4 := by omega)]
  simp only [zs_ap, z1, li_1, i32_sub]
  rw [show (0 : Int64) = 0 from rfl] at e1
  refine Eq.trans e1 ?_
  rw [k_X6_layOnce_61_a, hx6]
  refine Eq.trans e2 ?_
  show den none (Mean d) none tQ_X6_layOnce (72, _, [], 176, zs Z, J2, _) = _
  rw [k_X6_layOnce_72_a (hv_p4 := by omega)]
  simp (disch := omega) only [k_X6_layOnce_0_a, k_X6_layOnce_19_a, k_X6_layOnce_28_a, k_X6_layOnce_36_a, k_X6_layOnce_51_a, k_X6_layOnce_55_a, k_X6_layOnce_61_a, k_X6_layOnce_84_a, k_X6_layOnce_91_a, k_X6_layOnce_97_a, k_X6_layOnce_102_a, k_X6_layOnce_109_a, k_X6_layOnce_111_a, k_X6_layOnce_114_a, k_X6_layOnce_115_a, k_X6_layOnce_121_a, li_0, li_1, li_2, li_3, li_4, li_5, li_6, li_9, li_10, li_40, lm_1, lm_2, lm_3, lm_4, zs_ap, i32_add, i32_sub, i32_mul, i32_neg, i32_lt, i32_le, i32_eq, i32_nat, ckn, pka_r, pka_v, if_pos, if_neg, if_true, if_false, z1]
end
section
variable {d : Nat} {J : Nat → Nat → Int64} {Z : Nat → Nat → Int} {p0 p1 p2 p3 p4 p7 : Nat} {m : Mat} {b : Nat → Int}
theorem lo_1_b (hp : p2 = 5 ∨ p2 = 20) (hw : wf m) (h2 : qmode m = 2) (hm : KM m p2 Z) {s : Nat} (hs : s < qN m) (hg : GT m b s (J 119)) (st : Int64) (o7 o8 : Option Value) : ∃ y : Int64 × (Nat → Nat → Int64), ((∀ n : Nat, n < 64 → gb y.1 n = TJ m s (fun u => sf m b n u 0) (qS m)) ∧ (∀ a : Nat, (a < 115 ∨ 116 < a) → y.2 a = J a) ∧ (∀ a x : Nat, x ≠ s → y.2 a x = J a x) ∧ (∀ j : Nat, 1 ≤ j → j < qS m → ∀ n : Nat, n < 64 → gb (y.2 (114 + j) s) n = TJ m s (fun u => sf m b n u 0) j)) ∧ den none (Mean d) none tQ_X6_layOnce (14, [some (.ref 112), some (.int (i32 (s : Int))), some (.long st), none, some (.long 0), none, some (.int (i32 ((qS m : Int) - 1))), o7, o8], [], 176, zs Z, J, RP p0 p1 p2 p3 p4 35 p2 p7) = den none (Mean d) none tQ_X6_layOnce (61, [some (.ref 112), some (.int (i32 (s : Int))), some (.long st), none, some (.long y.1), none, some (.int (i32 (-1))), o7, o8], [], 176, zs Z, y.2, RP p0 p1 p2 p3 p4 35 p2 p7) := by
  have hS := hw.1
  have hN := qpl_b hw (k := qP m) (Nat.le_refl _)
  have hN' : qN m = qpl m (qP m) := rfl
  have z1 : Z p2 1 = (qS m : Int) := hm.1.1
  obtain ⟨y, ⟨v1, v2, v3, v4⟩, e⟩ := up_inv (fun (j : Nat) (y : Int64 × (Nat → Nat → Int64)) => den none (Mean d) none tQ_X6_layOnce (14, [some (.ref 112), some (.int (i32 (s : Int))), some (.long st), none, some (.long y.1), none, some (.int (i32 ((qS m : Int) - 1 - (j : Int)))), o7, o8], [], 176, zs Z, y.2, RP p0 p1 p2 p3 p4 35 p2 p7)) (qS m) (fun j y => (∀ n : Nat, n < 64 → gb y.1 n = TJ m s (fun u => sf m b n u 0) j) ∧ (∀ a : Nat, (a < 115 ∨ 116 < a) → y.2 a = J a) ∧ (∀ a x : Nat, x ≠ s → y.2 a x = J a x) ∧ (∀ j' : Nat, 1 ≤ j' → j' < qS m → j' ≤ j → ∀ n : Nat, n < 64 → gb (y.2 (114 + j') s) n = TJ m s (fun u => sf m b n u 0) j')) (fun j y hj hv => by
    obtain ⟨x4, J1⟩ := y
    obtain ⟨v1, v2, v3, v4⟩ := hv
    simp only at v1 v2 v3 v4
    have ei : (qS m : Int) - 1 - (j : Int) = ((qS m - 1 - j : Nat) : Int) := by omega
    have eg : J1 119 = J 119 := v2 _ (by omega)
    have hlb : lbh m (qS m - 1 - j) = j := by
      unfold lbh
      rw [if_neg (by omega), if_pos h2]
      omega
    have hor : ∀ n : Nat, n < 64 → gb (x4 ||| J 119 (qS m - 1 - j)) n = TJ m s (fun u => sf m b n u 0) (j + 1) := fun n hn => by
      rw [gb_or, v1 n hn, TJ_s, hg _ n (by omega) hn, hlb]
      congr 1
      unfold LB
      simp only [if_pos h2]
    by_cases c0 : qS m - 1 - j = 0
    · refine ⟨(x4 ||| J 119 (qS m - 1 - j), J1), ⟨hor, v2, v3, fun j' h1 h3 h4 => v4 j' h1 h3 (by omega)⟩, ?_⟩
      show den none (Mean d) none tQ_X6_layOnce (14, _, [], 176, zs Z, J1, _) = den none (Mean d) none tQ_X6_layOnce (14, _, [], 176, zs Z, J1, _)
      rw [ei, k_X6_layOnce_14_b]
      simp (disch := omega) only [k_X6_layOnce_0_b, k_X6_layOnce_19_b, k_X6_layOnce_28_b, k_X6_layOnce_36_b, k_X6_layOnce_51_b, k_X6_layOnce_55_b, k_X6_layOnce_61_b, k_X6_layOnce_84_b, k_X6_layOnce_91_b, k_X6_layOnce_97_b, k_X6_layOnce_102_b, k_X6_layOnce_109_b, k_X6_layOnce_111_b, k_X6_layOnce_114_b, k_X6_layOnce_115_b, k_X6_layOnce_121_b, li_0, li_1, li_2, li_3, li_4, li_5, li_6, li_9, li_10, li_40, lm_1, lm_2, lm_3, lm_4, zs_ap, i32_add, i32_sub, i32_mul, i32_neg, i32_lt, i32_le, i32_eq, i32_nat, ckn, pka_r, pka_v, if_pos, if_neg, if_true, if_false, Int.toNat_natCast, eg, c0]
      rw [show (qS m : Int) - 1 - ((j + 1 : Nat) : Int) = ((0 : Nat) : Int) + -1 by omega]
    · obtain ⟨r1, r2⟩ := RPl (p0 := p0) (p1 := p1) (p2 := p2) (p3 := p3) (p4 := p4) (p5 := 35) (p6 := p2) (p7 := p7) (q := 112) (by omega) (show j + 1 < 3 by omega)
      have r1' : RP p0 p1 p2 p3 p4 35 p2 p7 113 (j + 1) = some (114 + (j + 1)) := r1
      have r2' : pshn (114 + (j + 1)) = some (.inl (.long, 400)) := r2
      have et : ((qS m : Int) - ((qS m - 1 - j : Nat) : Int)).toNat = j + 1 := by omega
      refine ⟨(x4 ||| J 119 (qS m - 1 - j), u2 J1 (114 + (j + 1)) s (x4 ||| J 119 (qS m - 1 - j))), ⟨hor, fun a ha => (u2_ne (by omega)).trans (v2 a ha), fun a x hx => ?_, fun j' h1 h3 h4 n hn => ?_⟩, ?_⟩
      · dsimp only
        by_cases ca : a = 114 + (j + 1)
        · rw [ca, u2f hx]
          exact v3 _ x hx
        · rw [u2_ne ca]
          exact v3 a x hx
      · dsimp only
        by_cases cj : j' = j + 1
        · subst cj
          rw [u2s]
          exact hor n hn
        · rw [u2_ne (by omega)]
          exact v4 j' h1 h3 (by omega) n hn
      · show den none (Mean d) none tQ_X6_layOnce (14, _, [], 176, zs Z, J1, _) = den none (Mean d) none tQ_X6_layOnce (14, _, [], 176, zs Z, _, _)
        rw [ei, k_X6_layOnce_14_b]
        simp (disch := first | omega | assumption) only [k_X6_layOnce_0_b, k_X6_layOnce_19_b, k_X6_layOnce_28_b, k_X6_layOnce_36_b, k_X6_layOnce_51_b, k_X6_layOnce_55_b, k_X6_layOnce_61_b, k_X6_layOnce_84_b, k_X6_layOnce_91_b, k_X6_layOnce_97_b, k_X6_layOnce_102_b, k_X6_layOnce_109_b, k_X6_layOnce_111_b, k_X6_layOnce_114_b, k_X6_layOnce_115_b, k_X6_layOnce_121_b, li_0, li_1, li_2, li_3, li_4, li_5, li_6, li_9, li_10, li_40, lm_1, lm_2, lm_3, lm_4, zs_ap, i32_add, i32_sub, i32_mul, i32_neg, i32_lt, i32_le, i32_eq, i32_nat, ckn, pka_r, pka_v, if_pos, if_neg, if_true, if_false, Int.toNat_natCast, eg, z1, et, r1', va_rf]
        rw [show (qS m : Int) - 1 - ((j + 1 : Nat) : Int) = ((qS m - 1 - j : Nat) : Int) + -1 by omega]) (0, J) ⟨fun n _ => gb_0 n, fun _ _ => rfl, fun _ _ _ => rfl, fun j' h1 h3 h4 => by omega⟩
  obtain ⟨x4, J1⟩ := y
  refine ⟨(x4, J1), ⟨v1, v2, v3, fun j h1 h3 => v4 j h1 h3 (by omega)⟩, ?_⟩
  simp only at e
  rw [show (qS m : Int) - 1 - ((0 : Nat) : Int) = (qS m : Int) - 1 by omega] at e
  refine e.trans ?_
  rw [show (qS m : Int) - 1 - (qS m : Int) = -1 by omega, k_X6_layOnce_14_b]
  simp (disch := omega) only [k_X6_layOnce_0_b, k_X6_layOnce_19_b, k_X6_layOnce_28_b, k_X6_layOnce_36_b, k_X6_layOnce_51_b, k_X6_layOnce_55_b, k_X6_layOnce_84_b, k_X6_layOnce_91_b, k_X6_layOnce_97_b, k_X6_layOnce_102_b, k_X6_layOnce_109_b, k_X6_layOnce_111_b, k_X6_layOnce_114_b, k_X6_layOnce_115_b, k_X6_layOnce_121_b, li_0, li_1, li_2, li_3, li_4, li_5, li_6, li_9, li_10, li_40, lm_1, lm_2, lm_3, lm_4, zs_ap, i32_add, i32_sub, i32_mul, i32_neg, i32_lt, i32_le, i32_eq, i32_nat, ckn, pka_r, pka_v, if_pos, if_neg, if_true, if_false]
theorem h_layOnce_b (hp : p2 = 5 ∨ p2 = 20) (hw : wf m) (h2 : qmode m = 2) (hm : KM m p2 Z) {s : Nat} (hs : s < qN m) (hf : s ≠ qfin m) (hg : GT m b s (J 119)) {st : Int64} (hst : ∀ n : Nat, n < 64 → gb st n = sty m b s n) : ∃ J' : Nat → Nat → Int64, (∀ a : Nat, (a < 114 ∨ 116 < a) → J' a = J a) ∧ (∀ a x : Nat, x ≠ s → J' a x = J a x) ∧ (∀ t n : Nat, t < qS m → n < 64 → gb (J' (114 + t) s) n = LB m b t s n) ∧ Mean (d + 1) 71 [.ref 112, .int (i32 (s : Int)), .long st] (176, zs Z, J, RP p0 p1 p2 p3 p4 35 p2 p7) = some (none, (176, zs Z, J', RP p0 p1 p2 p3 p4 35 p2 p7)) := by
  have hS := hw.1
  have hN := qpl_b hw (k := qP m) (Nat.le_refl _)
  have hN' : qN m = qpl m (qP m) := rfl
  have z1 : Z p2 1 = (qS m : Int) := hm.1.1
  obtain ⟨⟨x4, J1⟩, ⟨v1, v2, v3, v4⟩, e1⟩ := lo_1_b (d := d) (p0 := p0) (p1 := p1) (p2 := p2) (p3 := p3) (p4 := p4) (p7 := p7) hp hw h2 hm hs hg st none none
  simp only at v1 v2 v3 v4 e1
  have hsafe : ∀ n : Nat, n < 64 → gb ((x4 <<< ((1 : Int32).toInt64 &&& 63)) &&& st) n = sf m b n s 0 := fun n hn => by
    rw [gb_and, gb_shl1 _ hn, hst n hn]
    cases n with
    | zero =>
      show _ = decide (s = qfin m)
      simp [hf]
    | succ n =>
      rw [Nat.add_sub_cancel, v1 n (by omega), ← tg_TJ hs (qS m) 0 (by omega)]
      show _ = ((!decide (s = qfin m) && qstay m b s (n + 1)) && onw m (sf m b n) s 0)
      unfold sty onw
      rw [if_pos h2]
      simp [hf, Bool.and_comm]
  generalize hx6 : (x4 <<< ((1 : Int32).toInt64 &&& 63)) &&& st = x6 at *
  obtain ⟨J2, ⟨w1, w2, w3, w4⟩, e2⟩ := up_inv (fun (j : Nat) (J : Nat → Nat → Int64) => den none (Mean d) none tQ_X6_layOnce (72, [some (.ref 112), some (.int (i32 (s : Int))), some (.long st), none, some (.long x4), none, some (.long x6), none, some (.int (i32 (j : Int)))], [], 176, zs Z, J, RP p0 p1 p2 p3 p4 35 p2 p7)) (qS m) (fun j J' => (∀ a : Nat, (a < 114 ∨ 116 < a) → J' a = J1 a) ∧ (∀ a x : Nat, x ≠ s → J' a x = J1 a x) ∧ (∀ t : Nat, j ≤ t → J' (114 + t) s = J1 (114 + t) s) ∧ ∀ t n : Nat, t < j → n < 64 → gb (J' (114 + t) s) n = LB m b t s n) (fun j J' hj hv => by
    obtain ⟨v1', v2', v3', v4'⟩ := hv
    obtain ⟨r1, r2⟩ := RPl (p0 := p0) (p1 := p1) (p2 := p2) (p3 := p3) (p4 := p4) (p5 := 35) (p6 := p2) (p7 := p7) (q := 112) (by omega) (show j < 3 by omega)
    have r1' : RP p0 p1 p2 p3 p4 35 p2 p7 113 j = some (114 + j) := r1
    have r2' : pshn (114 + j) = some (.inl (.long, 400)) := r2
    have key : ∃ v : Int64, (∀ n : Nat, n < 64 → gb v n = LB m b j s n) ∧ den none (Mean d) none tQ_X6_layOnce (72, [some (.ref 112), some (.int (i32 (s : Int))), some (.long st), none, some (.long x4), none, some (.long x6), none, some (.int (i32 (j : Int)))], [], 176, zs Z, J', RP p0 p1 p2 p3 p4 35 p2 p7) = den none (Mean d) none tQ_X6_layOnce (72, [some (.ref 112), some (.int (i32 (s : Int))), some (.long st), none, some (.long x4), none, some (.long x6), none, some (.int (i32 ((j + 1 : Nat) : Int)))], [], 176, zs Z, u2 J' (114 + j) s v, RP p0 p1 p2 p3 p4 35 p2 p7) := by
      by_cases c0 : j = 0
      · subst c0
        refine ⟨x6, fun n hn => ?_, ?_⟩
        · rw [hsafe n hn]
          unfold LB
          rw [if_pos h2]
          rfl
        · rw [k_X6_layOnce_72_b (hv_p6 := by omega)]
          simp (disch := first | omega | assumption) only [k_X6_layOnce_0_b, k_X6_layOnce_19_b, k_X6_layOnce_28_b, k_X6_layOnce_36_b, k_X6_layOnce_51_b, k_X6_layOnce_55_b, k_X6_layOnce_61_b, k_X6_layOnce_84_b, k_X6_layOnce_91_b, k_X6_layOnce_97_b, k_X6_layOnce_102_b, k_X6_layOnce_109_b, k_X6_layOnce_111_b, k_X6_layOnce_114_b, k_X6_layOnce_115_b, k_X6_layOnce_121_b, li_0, li_1, li_2, li_3, li_4, li_5, li_6, li_9, li_10, li_40, lm_1, lm_2, lm_3, lm_4, zs_ap, i32_add, i32_sub, i32_mul, i32_neg, i32_lt, i32_le, i32_eq, i32_nat, ckn, pka_r, pka_v, if_pos, if_neg, if_true, if_false, Int.toNat_natCast, z1, r1', va_rf]
          rfl
      · refine ⟨J' (114 + j) s ||| x6, fun n hn => ?_, ?_⟩
        · rw [gb_or, v3' j (Nat.le_refl _), v4 j (by omega) hj n hn, hsafe n hn]
          unfold LB
          rw [if_pos h2, AL_TJ, Bool.or_comm]
        · rw [k_X6_layOnce_72_b (hv_p6 := by omega)]
          simp (disch := first | omega | assumption) only [k_X6_layOnce_0_b, k_X6_layOnce_19_b, k_X6_layOnce_28_b, k_X6_layOnce_36_b, k_X6_layOnce_51_b, k_X6_layOnce_55_b, k_X6_layOnce_61_b, k_X6_layOnce_84_b, k_X6_layOnce_91_b, k_X6_layOnce_97_b, k_X6_layOnce_102_b, k_X6_layOnce_109_b, k_X6_layOnce_111_b, k_X6_layOnce_114_b, k_X6_layOnce_115_b, k_X6_layOnce_121_b, li_0, li_1, li_2, li_3, li_4, li_5, li_6, li_9, li_10, li_40, lm_1, lm_2, lm_3, lm_4, zs_ap, i32_add, i32_sub, i32_mul, i32_neg, i32_lt, i32_le, i32_eq, i32_nat, ckn, pka_r, pka_v, if_pos, if_neg, if_true, if_false, Int.toNat_natCast, z1, r1', va_rf]
          rfl
    obtain ⟨v, k1, k2⟩ := key
    refine ⟨u2 J' (114 + j) s v, ⟨fun a ha => (u2_ne (by omega)).trans (v1' a ha), fun a x hx => ?_, fun t ht => ?_, fun t n ht hn => ?_⟩, k2⟩
    · by_cases ca : a = 114 + j
      · rw [ca, u2f hx]
        exact v2' _ x hx
      · rw [u2_ne ca]
        exact v2' a x hx
    · rw [u2_ne (by omega)]
      exact v3' t (by omega)
    · by_cases ct : t = j
      · subst ct
        rw [u2s]
        exact k1 n hn
      · rw [u2_ne (by omega)]
        exact v4' t n (by omega) hn) J1 ⟨fun _ _ => rfl, fun _ _ _ => rfl, fun _ _ => rfl, fun t n ht => by omega⟩
  refine ⟨J2, fun a ha => (w1 a ha).trans (v2 a (by omega)), fun a x hx => (w2 a x hx).trans (v3 a x hx), w4, ?_⟩
  rw [e_X6_layOnce, k_X6_layOnce_0_b (hv_p6 := by omega)]
  simp only [zs_ap, z1, li_1, i32_sub]
  rw [show (0 : Int64) = 0 from rfl] at e1
  refine Eq.trans e1 ?_
  rw [k_X6_layOnce_61_b, hx6]
  refine Eq.trans e2 ?_
  show den none (Mean d) none tQ_X6_layOnce (72, _, [], 176, zs Z, J2, _) = _
  rw [k_X6_layOnce_72_b (hv_p6 := by omega)]
  simp (disch := omega) only [k_X6_layOnce_0_b, k_X6_layOnce_19_b, k_X6_layOnce_28_b, k_X6_layOnce_36_b, k_X6_layOnce_51_b, k_X6_layOnce_55_b, k_X6_layOnce_61_b, k_X6_layOnce_84_b, k_X6_layOnce_91_b, k_X6_layOnce_97_b, k_X6_layOnce_102_b, k_X6_layOnce_109_b, k_X6_layOnce_111_b, k_X6_layOnce_114_b, k_X6_layOnce_115_b, k_X6_layOnce_121_b, li_0, li_1, li_2, li_3, li_4, li_5, li_6, li_9, li_10, li_40, lm_1, lm_2, lm_3, lm_4, zs_ap, i32_add, i32_sub, i32_mul, i32_neg, i32_lt, i32_le, i32_eq, i32_nat, ckn, pka_r, pka_v, if_pos, if_neg, if_true, if_false, z1]
end
section
variable {d : Nat} {J : Nat → Nat → Int64} {Z : Nat → Nat → Int} {p0 p1 p2 p3 p4 : Nat} {m : Mat} {b : Nat → Int}
theorem lo_1_c  (hw : wf m) (h2 : qmode m = 2) (hm : KM m 97 Z) {s : Nat} (hs : s < qN m) (hg : GT m b s (J 119)) (st : Int64) (o7 o8 : Option Value) : ∃ y : Int64 × (Nat → Nat → Int64), ((∀ n : Nat, n < 64 → gb y.1 n = TJ m s (fun u => sf m b n u 0) (qS m)) ∧ (∀ a : Nat, (a < 115 ∨ 116 < a) → y.2 a = J a) ∧ (∀ a x : Nat, x ≠ s → y.2 a x = J a x) ∧ (∀ j : Nat, 1 ≤ j → j < qS m → ∀ n : Nat, n < 64 → gb (y.2 (114 + j) s) n = TJ m s (fun u => sf m b n u 0) j)) ∧ den none (Mean d) none tQ_X6_layOnce (14, [some (.ref 112), some (.int (i32 (s : Int))), some (.long st), none, some (.long 0), none, some (.int (i32 ((qS m : Int) - 1))), o7, o8], [], 176, zs Z, J, RP p0 p1 p2 p3 p4 121 97 97) = den none (Mean d) none tQ_X6_layOnce (61, [some (.ref 112), some (.int (i32 (s : Int))), some (.long st), none, some (.long y.1), none, some (.int (i32 (-1))), o7, o8], [], 176, zs Z, y.2, RP p0 p1 p2 p3 p4 121 97 97) := by
  have hS := hw.1
  have hN := qpl_b hw (k := qP m) (Nat.le_refl _)
  have hN' : qN m = qpl m (qP m) := rfl
  have z1 : Z 97 1 = (qS m : Int) := hm.1.1
  obtain ⟨y, ⟨v1, v2, v3, v4⟩, e⟩ := up_inv (fun (j : Nat) (y : Int64 × (Nat → Nat → Int64)) => den none (Mean d) none tQ_X6_layOnce (14, [some (.ref 112), some (.int (i32 (s : Int))), some (.long st), none, some (.long y.1), none, some (.int (i32 ((qS m : Int) - 1 - (j : Int)))), o7, o8], [], 176, zs Z, y.2, RP p0 p1 p2 p3 p4 121 97 97)) (qS m) (fun j y => (∀ n : Nat, n < 64 → gb y.1 n = TJ m s (fun u => sf m b n u 0) j) ∧ (∀ a : Nat, (a < 115 ∨ 116 < a) → y.2 a = J a) ∧ (∀ a x : Nat, x ≠ s → y.2 a x = J a x) ∧ (∀ j' : Nat, 1 ≤ j' → j' < qS m → j' ≤ j → ∀ n : Nat, n < 64 → gb (y.2 (114 + j') s) n = TJ m s (fun u => sf m b n u 0) j')) (fun j y hj hv => by
    obtain ⟨x4, J1⟩ := y
    obtain ⟨v1, v2, v3, v4⟩ := hv
    simp only at v1 v2 v3 v4
    have ei : (qS m : Int) - 1 - (j : Int) = ((qS m - 1 - j : Nat) : Int) := by omega
    have eg : J1 119 = J 119 := v2 _ (by omega)
    have hlb : lbh m (qS m - 1 - j) = j := by
      unfold lbh
      rw [if_neg (by omega), if_pos h2]
      omega
    have hor : ∀ n : Nat, n < 64 → gb (x4 ||| J 119 (qS m - 1 - j)) n = TJ m s (fun u => sf m b n u 0) (j + 1) := fun n hn => by
      rw [gb_or, v1 n hn, TJ_s, hg _ n (by omega) hn, hlb]
      congr 1
      unfold LB
      simp only [if_pos h2]
    by_cases c0 : qS m - 1 - j = 0
    · refine ⟨(x4 ||| J 119 (qS m - 1 - j), J1), ⟨hor, v2, v3, fun j' h1 h3 h4 => v4 j' h1 h3 (by omega)⟩, ?_⟩
      show den none (Mean d) none tQ_X6_layOnce (14, _, [], 176, zs Z, J1, _) = den none (Mean d) none tQ_X6_layOnce (14, _, [], 176, zs Z, J1, _)
      rw [ei, k_X6_layOnce_14_c]
      simp (disch := omega) only [k_X6_layOnce_0_c, k_X6_layOnce_19_c, k_X6_layOnce_28_c, k_X6_layOnce_36_c, k_X6_layOnce_51_c, k_X6_layOnce_55_c, k_X6_layOnce_61_c, k_X6_layOnce_84_c, k_X6_layOnce_91_c, k_X6_layOnce_97_c, k_X6_layOnce_102_c, k_X6_layOnce_109_c, k_X6_layOnce_111_c, k_X6_layOnce_114_c, k_X6_layOnce_115_c, k_X6_layOnce_121_c, li_0, li_1, li_2, li_3, li_4, li_5, li_6, li_9, li_10, li_40, lm_1, lm_2, lm_3, lm_4, zs_ap, i32_add, i32_sub, i32_mul, i32_neg, i32_lt, i32_le, i32_eq, i32_nat, ckn, pka_r, pka_v, if_pos, if_neg, if_true, if_false, Int.toNat_natCast, eg, c0]
      rw [show (qS m : Int) - 1 - ((j + 1 : Nat) : Int) = ((0 : Nat) : Int) + -1 by omega]
    · obtain ⟨r1, r2⟩ := RPl (p0 := p0) (p1 := p1) (p2 := p2) (p3 := p3) (p4 := p4) (p5 := 121) (p6 := 97) (p7 := 97) (q := 112) (by omega) (show j + 1 < 3 by omega)
      have r1' : RP p0 p1 p2 p3 p4 121 97 97 113 (j + 1) = some (114 + (j + 1)) := r1
      have r2' : pshn (114 + (j + 1)) = some (.inl (.long, 400)) := r2
      have et : ((qS m : Int) - ((qS m - 1 - j : Nat) : Int)).toNat = j + 1 := by omega
      refine ⟨(x4 ||| J 119 (qS m - 1 - j), u2 J1 (114 + (j + 1)) s (x4 ||| J 119 (qS m - 1 - j))), ⟨hor, fun a ha => (u2_ne (by omega)).trans (v2 a ha), fun a x hx => ?_, fun j' h1 h3 h4 n hn => ?_⟩, ?_⟩
      · dsimp only
        by_cases ca : a = 114 + (j + 1)
        · rw [ca, u2f hx]
          exact v3 _ x hx
        · rw [u2_ne ca]
          exact v3 a x hx
      · dsimp only
        by_cases cj : j' = j + 1
        · subst cj
          rw [u2s]
          exact hor n hn
        · rw [u2_ne (by omega)]
          exact v4 j' h1 h3 (by omega) n hn
      · show den none (Mean d) none tQ_X6_layOnce (14, _, [], 176, zs Z, J1, _) = den none (Mean d) none tQ_X6_layOnce (14, _, [], 176, zs Z, _, _)
        rw [ei, k_X6_layOnce_14_c]
        simp (disch := first | omega | assumption) only [k_X6_layOnce_0_c, k_X6_layOnce_19_c, k_X6_layOnce_28_c, k_X6_layOnce_36_c, k_X6_layOnce_51_c, k_X6_layOnce_55_c, k_X6_layOnce_61_c, k_X6_layOnce_84_c, k_X6_layOnce_91_c, k_X6_layOnce_97_c, k_X6_layOnce_102_c, k_X6_layOnce_109_c, k_X6_layOnce_111_c, k_X6_layOnce_114_c, k_X6_layOnce_115_c, k_X6_layOnce_121_c, li_0, li_1, li_2, li_3, li_4, li_5, li_6, li_9, li_10, li_40, lm_1, lm_2, lm_3, lm_4, zs_ap, i32_add, i32_sub, i32_mul, i32_neg, i32_lt, i32_le, i32_eq, i32_nat, ckn, pka_r, pka_v, if_pos, if_neg, if_true, if_false, Int.toNat_natCast, eg, z1, et, r1', va_rf]
        rw [show (qS m : Int) - 1 - ((j + 1 : Nat) : Int) = ((qS m - 1 - j : Nat) : Int) + -1 by omega]) (0, J) ⟨fun n _ => gb_0 n, fun _ _ => rfl, fun _ _ _ => rfl, fun j' h1 h3 h4 => by omega⟩
  obtain ⟨x4, J1⟩ := y
  refine ⟨(x4, J1), ⟨v1, v2, v3, fun j h1 h3 => v4 j h1 h3 (by omega)⟩, ?_⟩
  simp only at e
  rw [show (qS m : Int) - 1 - ((0 : Nat) : Int) = (qS m : Int) - 1 by omega] at e
  refine e.trans ?_
  rw [show (qS m : Int) - 1 - (qS m : Int) = -1 by omega, k_X6_layOnce_14_c]
  simp (disch := omega) only [k_X6_layOnce_0_c, k_X6_layOnce_19_c, k_X6_layOnce_28_c, k_X6_layOnce_36_c, k_X6_layOnce_51_c, k_X6_layOnce_55_c, k_X6_layOnce_84_c, k_X6_layOnce_91_c, k_X6_layOnce_97_c, k_X6_layOnce_102_c, k_X6_layOnce_109_c, k_X6_layOnce_111_c, k_X6_layOnce_114_c, k_X6_layOnce_115_c, k_X6_layOnce_121_c, li_0, li_1, li_2, li_3, li_4, li_5, li_6, li_9, li_10, li_40, lm_1, lm_2, lm_3, lm_4, zs_ap, i32_add, i32_sub, i32_mul, i32_neg, i32_lt, i32_le, i32_eq, i32_nat, ckn, pka_r, pka_v, if_pos, if_neg, if_true, if_false]
theorem h_layOnce_c  (hw : wf m) (h2 : qmode m = 2) (hm : KM m 97 Z) {s : Nat} (hs : s < qN m) (hf : s ≠ qfin m) (hg : GT m b s (J 119)) {st : Int64} (hst : ∀ n : Nat, n < 64 → gb st n = sty m b s n) : ∃ J' : Nat → Nat → Int64, (∀ a : Nat, (a < 114 ∨ 116 < a) → J' a = J a) ∧ (∀ a x : Nat, x ≠ s → J' a x = J a x) ∧ (∀ t n : Nat, t < qS m → n < 64 → gb (J' (114 + t) s) n = LB m b t s n) ∧ Mean (d + 1) 71 [.ref 112, .int (i32 (s : Int)), .long st] (176, zs Z, J, RP p0 p1 p2 p3 p4 121 97 97) = some (none, (176, zs Z, J', RP p0 p1 p2 p3 p4 121 97 97)) := by
  have hS := hw.1
  have hN := qpl_b hw (k := qP m) (Nat.le_refl _)
  have hN' : qN m = qpl m (qP m) := rfl
  have z1 : Z 97 1 = (qS m : Int) := hm.1.1
  obtain ⟨⟨x4, J1⟩, ⟨v1, v2, v3, v4⟩, e1⟩ := lo_1_c (d := d) (p0 := p0) (p1 := p1) (p2 := p2) (p3 := p3) (p4 := p4)  hw h2 hm hs hg st none none
  simp only at v1 v2 v3 v4 e1
  have hsafe : ∀ n : Nat, n < 64 → gb ((x4 <<< ((1 : Int32).toInt64 &&& 63)) &&& st) n = sf m b n s 0 := fun n hn => by
    rw [gb_and, gb_shl1 _ hn, hst n hn]
    cases n with
    | zero =>
      show _ = decide (s = qfin m)
      simp [hf]
    | succ n =>
      rw [Nat.add_sub_cancel, v1 n (by omega), ← tg_TJ hs (qS m) 0 (by omega)]
      show _ = ((!decide (s = qfin m) && qstay m b s (n + 1)) && onw m (sf m b n) s 0)
      unfold sty onw
      rw [if_pos h2]
      simp [hf, Bool.and_comm]
  generalize hx6 : (x4 <<< ((1 : Int32).toInt64 &&& 63)) &&& st = x6 at *
  obtain ⟨J2, ⟨w1, w2, w3, w4⟩, e2⟩ := up_inv (fun (j : Nat) (J : Nat → Nat → Int64) => den none (Mean d) none tQ_X6_layOnce (72, [some (.ref 112), some (.int (i32 (s : Int))), some (.long st), none, some (.long x4), none, some (.long x6), none, some (.int (i32 (j : Int)))], [], 176, zs Z, J, RP p0 p1 p2 p3 p4 121 97 97)) (qS m) (fun j J' => (∀ a : Nat, (a < 114 ∨ 116 < a) → J' a = J1 a) ∧ (∀ a x : Nat, x ≠ s → J' a x = J1 a x) ∧ (∀ t : Nat, j ≤ t → J' (114 + t) s = J1 (114 + t) s) ∧ ∀ t n : Nat, t < j → n < 64 → gb (J' (114 + t) s) n = LB m b t s n) (fun j J' hj hv => by
    obtain ⟨v1', v2', v3', v4'⟩ := hv
    obtain ⟨r1, r2⟩ := RPl (p0 := p0) (p1 := p1) (p2 := p2) (p3 := p3) (p4 := p4) (p5 := 121) (p6 := 97) (p7 := 97) (q := 112) (by omega) (show j < 3 by omega)
    have r1' : RP p0 p1 p2 p3 p4 121 97 97 113 j = some (114 + j) := r1
    have r2' : pshn (114 + j) = some (.inl (.long, 400)) := r2
    have key : ∃ v : Int64, (∀ n : Nat, n < 64 → gb v n = LB m b j s n) ∧ den none (Mean d) none tQ_X6_layOnce (72, [some (.ref 112), some (.int (i32 (s : Int))), some (.long st), none, some (.long x4), none, some (.long x6), none, some (.int (i32 (j : Int)))], [], 176, zs Z, J', RP p0 p1 p2 p3 p4 121 97 97) = den none (Mean d) none tQ_X6_layOnce (72, [some (.ref 112), some (.int (i32 (s : Int))), some (.long st), none, some (.long x4), none, some (.long x6), none, some (.int (i32 ((j + 1 : Nat) : Int)))], [], 176, zs Z, u2 J' (114 + j) s v, RP p0 p1 p2 p3 p4 121 97 97) := by
      by_cases c0 : j = 0
      · subst c0
        refine ⟨x6, fun n hn => ?_, ?_⟩
        · rw [hsafe n hn]
          unfold LB
          rw [if_pos h2]
          rfl
        · rw [k_X6_layOnce_72_c]
          simp (disch := first | omega | assumption) only [k_X6_layOnce_0_c, k_X6_layOnce_19_c, k_X6_layOnce_28_c, k_X6_layOnce_36_c, k_X6_layOnce_51_c, k_X6_layOnce_55_c, k_X6_layOnce_61_c, k_X6_layOnce_84_c, k_X6_layOnce_91_c, k_X6_layOnce_97_c, k_X6_layOnce_102_c, k_X6_layOnce_109_c, k_X6_layOnce_111_c, k_X6_layOnce_114_c, k_X6_layOnce_115_c, k_X6_layOnce_121_c, li_0, li_1, li_2, li_3, li_4, li_5, li_6, li_9, li_10, li_40, lm_1, lm_2, lm_3, lm_4, zs_ap, i32_add, i32_sub, i32_mul, i32_neg, i32_lt, i32_le, i32_eq, i32_nat, ckn, pka_r, pka_v, if_pos, if_neg, if_true, if_false, Int.toNat_natCast, z1, r1', va_rf]
          rfl
      · refine ⟨J' (114 + j) s ||| x6, fun n hn => ?_, ?_⟩
        · rw [gb_or, v3' j (Nat.le_refl _), v4 j (by omega) hj n hn, hsafe n hn]
          unfold LB
          rw [if_pos h2, AL_TJ, Bool.or_comm]
        · rw [k_X6_layOnce_72_c]
          simp (disch := first | omega | assumption) only [k_X6_layOnce_0_c, k_X6_layOnce_19_c, k_X6_layOnce_28_c, k_X6_layOnce_36_c, k_X6_layOnce_51_c, k_X6_layOnce_55_c, k_X6_layOnce_61_c, k_X6_layOnce_84_c, k_X6_layOnce_91_c, k_X6_layOnce_97_c, k_X6_layOnce_102_c, k_X6_layOnce_109_c, k_X6_layOnce_111_c, k_X6_layOnce_114_c, k_X6_layOnce_115_c, k_X6_layOnce_121_c, li_0, li_1, li_2, li_3, li_4, li_5, li_6, li_9, li_10, li_40, lm_1, lm_2, lm_3, lm_4, zs_ap, i32_add, i32_sub, i32_mul, i32_neg, i32_lt, i32_le, i32_eq, i32_nat, ckn, pka_r, pka_v, if_pos, if_neg, if_true, if_false, Int.toNat_natCast, z1, r1', va_rf]
          rfl
    obtain ⟨v, k1, k2⟩ := key
    refine ⟨u2 J' (114 + j) s v, ⟨fun a ha => (u2_ne (by omega)).trans (v1' a ha), fun a x hx => ?_, fun t ht => ?_, fun t n ht hn => ?_⟩, k2⟩
    · by_cases ca : a = 114 + j
      · rw [ca, u2f hx]
        exact v2' _ x hx
      · rw [u2_ne ca]
        exact v2' a x hx
    · rw [u2_ne (by omega)]
      exact v3' t (by omega)
    · by_cases ct : t = j
      · subst ct
        rw [u2s]
        exact k1 n hn
      · rw [u2_ne (by omega)]
        exact v4' t n (by omega) hn) J1 ⟨fun _ _ => rfl, fun _ _ _ => rfl, fun _ _ => rfl, fun t n ht => by omega⟩
  refine ⟨J2, fun a ha => (w1 a ha).trans (v2 a (by omega)), fun a x hx => (w2 a x hx).trans (v3 a x hx), w4, ?_⟩
  rw [e_X6_layOnce, k_X6_layOnce_0_c]
  simp only [zs_ap, z1, li_1, i32_sub]
  rw [show (0 : Int64) = 0 from rfl] at e1
  refine Eq.trans e1 ?_
  rw [k_X6_layOnce_61_c, hx6]
  refine Eq.trans e2 ?_
  show den none (Mean d) none tQ_X6_layOnce (72, _, [], 176, zs Z, J2, _) = _
  rw [k_X6_layOnce_72_c]
  simp (disch := omega) only [k_X6_layOnce_0_c, k_X6_layOnce_19_c, k_X6_layOnce_28_c, k_X6_layOnce_36_c, k_X6_layOnce_51_c, k_X6_layOnce_55_c, k_X6_layOnce_61_c, k_X6_layOnce_84_c, k_X6_layOnce_91_c, k_X6_layOnce_97_c, k_X6_layOnce_102_c, k_X6_layOnce_109_c, k_X6_layOnce_111_c, k_X6_layOnce_114_c, k_X6_layOnce_115_c, k_X6_layOnce_121_c, li_0, li_1, li_2, li_3, li_4, li_5, li_6, li_9, li_10, li_40, lm_1, lm_2, lm_3, lm_4, zs_ap, i32_add, i32_sub, i32_mul, i32_neg, i32_lt, i32_le, i32_eq, i32_nat, ckn, pka_r, pka_v, if_pos, if_neg, if_true, if_false, z1]
end
