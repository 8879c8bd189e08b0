/-! THE MODEL'S findSafe -/
section
variable {d : Nat} {J Jp : Nat → Nat → Int64} {Z : Nat → Nat → Int} {p0 p1 p2 p3 p4 p5 p6 p7 : Nat} {m : Mat} {b : Nat → Int}
theorem g_turns' (h : MI m Z) : Mean (d + 1) 190 [.ref 140] (176, zs Z, J, RP p0 p1 p2 p3 p4 p5 p6 p7) = some (some (.int (i32 ((qturns m : Nat) : Int))), (176, zs Z, J, RP p0 p1 p2 p3 p4 p5 p6 p7)) := g_turns h
theorem turns_le (h : wf m) : qturns m ≤ qS m ∧ qturns m ≤ 3 ∧ 1 ≤ qturns m := by
  have h1 := h.1
  unfold qturns
  split
  · omega
  · omega
def bz (c : Bool) : Int := bif c then 1 else 0
def Tt (J : Nat → Nat → Int64) (n u v : Nat) : Bool := gb (J 162 (3 * u + v)) n
theorem fs_step (h : MI m Z) {s t : Nat} (hs : s < qN m) (ht : t < qturns m) (hst : ∀ n : Nat, n < 64 → gb (J 163 s) n = qstay m b s n) (c : Bool) (o4 o5 : Option Value) : ∃ x : Int64, (∀ n : Nat, n < 64 → gb x n = (((decide (1 ≤ n) && onw m (Tt J (n - 1)) s t) && qstay m b s n) || gb (J 162 (3 * s + t)) n)) ∧
    den none (Mean (d + 7)) none tQ_X11_findSafe (71, [some (.ref 140), some (.int (i32 (s : Int))), some (.int (i32 (bz c))), some (.int (i32 (t : Int))), o4, o5], [], 176, zs Z, J, RP p0 p1 p2 p3 p4 p5 p6 p7) = den none (Mean (d + 7)) none tQ_X11_findSafe (71, [some (.ref 140), some (.int (i32 (s : Int))), some (.int (i32 (bz (c || !decide (x = J 162 (3 * s + t)))))), some (.int (i32 ((t + 1 : Nat) : Int))), some (.long x), none], [], 176, zs Z, u2 J 162 (3 * s + t) x, RP p0 p1 p2 p3 p4 p5 p6 p7) := by
  have h0 := MI_n h
  have htl := turns_le h.1
  obtain ⟨y, hy, hm⟩ := g_onward (d := d) (J := J) (p0 := p0) (p1 := p1) (p2 := p2) (p3 := p3) (p4 := p4) (p5 := p5) (p6 := p6) (p7 := p7) h hs (show t < qS m by omega)
  refine ⟨(((y <<< ((i32 1).toInt64 &&& 63)) &&& J 163 s) &&& (-2)) ||| J 162 (3 * s + t), fun n hn => ?_, ?_⟩
  · rw [gb_or, gb_and, gb_and, gb_m2 hn, hst n hn, show i32 1 = i32 ((1 : Nat) : Int) from rfl, gb_shl y (by omega) hn]
    congr 1
    by_cases c1 : 1 ≤ n
    · rw [decide_eq_true c1, Bool.true_and, Bool.and_true, Bool.true_and, hy (n - 1) (by omega)]
      rfl
    · rw [decide_eq_false c1, Bool.false_and, Bool.false_and, Bool.and_false, Bool.false_and, Bool.false_and]
  · have ex : (3 * (s : Int) + (t : Int)).toNat = 3 * s + t := by omega
    rw [k_X11_findSafe_71]
    simp (disch := omega) only [k_X11_findSafe_0, k_X11_findSafe_10, k_X11_findSafe_17, k_X11_findSafe_20, k_X11_findSafe_37, k_X11_findSafe_41, k_X11_findSafe_42, k_X11_findSafe_43, k_X11_findSafe_49, k_X11_findSafe_57, k_X11_findSafe_61, k_X11_findSafe_62, k_X11_findSafe_67, k_X11_findSafe_76, k_X11_findSafe_79, k_X11_findSafe_85, k_X11_findSafe_93, k_X11_findSafe_108, k_X11_findSafe_115, k_X11_findSafe_127, k_X11_findSafe_131, k_X11_findSafe_135, k_X11_findSafe_136, k_X11_findSafe_149, k_X11_findSafe_155, k_X11_findSafe_159, k_X11_findSafe_166, k_X11_findSafe_170, k_X11_findSafe_171, k_X11_findSafe_175, k_X11_findSafe_181, li_0, li_1, li_2, li_3, li_4, li_5, li_6, li_9, li_10, li_40, lm_1, lm_2, lm_3, lm_4, zs_ap, i32_add, i32_sub, i32_mul, i32_neg, i32_lt, i32_le, i32_eq, i32_nat, ckn, pka_r, pka_v, if_pos, if_neg, if_true, if_false, g_turns' h]
    rw [hm]
    simp (disch := omega) only [k_X11_findSafe_0, k_X11_findSafe_10, k_X11_findSafe_17, k_X11_findSafe_20, k_X11_findSafe_37, k_X11_findSafe_41, k_X11_findSafe_42, k_X11_findSafe_43, k_X11_findSafe_49, k_X11_findSafe_57, k_X11_findSafe_61, k_X11_findSafe_62, k_X11_findSafe_67, k_X11_findSafe_76, k_X11_findSafe_79, k_X11_findSafe_85, k_X11_findSafe_93, k_X11_findSafe_108, k_X11_findSafe_115, k_X11_findSafe_127, k_X11_findSafe_131, k_X11_findSafe_135, k_X11_findSafe_136, k_X11_findSafe_155, k_X11_findSafe_159, k_X11_findSafe_166, k_X11_findSafe_170, k_X11_findSafe_171, k_X11_findSafe_175, k_X11_findSafe_181, li_0, li_1, li_2, li_3, li_4, li_5, li_6, li_9, li_10, li_40, lm_1, lm_2, lm_3, lm_4, zs_ap, i32_add, i32_sub, i32_mul, i32_neg, i32_lt, i32_le, i32_eq, i32_nat, ckn, pka_r, pka_v, if_pos, if_neg, if_true, if_false, ex, Int.toNat_natCast]
    cases c
    · rw [if_pos (show i32 (bz false) = i32 0 from rfl)]
      rw [show bz (false || !decide ((((y <<< ((i32 1).toInt64 &&& 63)) &&& J 163 s) &&& (-2)) ||| J 162 (3 * s + t) = J 162 (3 * s + t))) = bz (!decide ((((y <<< ((i32 1).toInt64 &&& 63)) &&& J 163 s) &&& (-2)) ||| J 162 (3 * s + t) = J 162 (3 * s + t))) by rw [Bool.false_or]]
      by_cases e : (((y <<< ((i32 1).toInt64 &&& 63)) &&& J 163 s) &&& (-2)) ||| J 162 (3 * s + t) = J 162 (3 * s + t)
      · rw [decide_eq_true e]
        simp (disch := omega) only [k_X11_findSafe_0, k_X11_findSafe_10, k_X11_findSafe_17, k_X11_findSafe_20, k_X11_findSafe_37, k_X11_findSafe_41, k_X11_findSafe_42, k_X11_findSafe_43, k_X11_findSafe_49, k_X11_findSafe_57, k_X11_findSafe_61, k_X11_findSafe_62, k_X11_findSafe_67, k_X11_findSafe_76, k_X11_findSafe_79, k_X11_findSafe_85, k_X11_findSafe_93, k_X11_findSafe_108, k_X11_findSafe_115, k_X11_findSafe_127, k_X11_findSafe_131, k_X11_findSafe_135, k_X11_findSafe_136, k_X11_findSafe_149, k_X11_findSafe_155, k_X11_findSafe_159, k_X11_findSafe_166, k_X11_findSafe_170, k_X11_findSafe_171, k_X11_findSafe_175, k_X11_findSafe_181, li_0, li_1, li_2, li_3, li_4, li_5, li_6, li_9, li_10, li_40, lm_1, lm_2, lm_3, lm_4, zs_ap, i32_add, i32_sub, i32_mul, i32_neg, i32_lt, i32_le, i32_eq, i32_nat, ckn, pka_r, pka_v, if_pos, if_neg, if_true, if_false, ex, cmp_z, e]
        rfl
      · rw [decide_eq_false e]
        simp (disch := omega) only [k_X11_findSafe_0, k_X11_findSafe_10, k_X11_findSafe_17, k_X11_findSafe_20, k_X11_findSafe_37, k_X11_findSafe_41, k_X11_findSafe_42, k_X11_findSafe_43, k_X11_findSafe_49, k_X11_findSafe_57, k_X11_findSafe_61, k_X11_findSafe_62, k_X11_findSafe_67, k_X11_findSafe_76, k_X11_findSafe_79, k_X11_findSafe_85, k_X11_findSafe_93, k_X11_findSafe_108, k_X11_findSafe_115, k_X11_findSafe_127, k_X11_findSafe_131, k_X11_findSafe_135, k_X11_findSafe_136, k_X11_findSafe_149, k_X11_findSafe_155, k_X11_findSafe_159, k_X11_findSafe_166, k_X11_findSafe_170, k_X11_findSafe_171, k_X11_findSafe_175, k_X11_findSafe_181, li_0, li_1, li_2, li_3, li_4, li_5, li_6, li_9, li_10, li_40, lm_1, lm_2, lm_3, lm_4, zs_ap, i32_add, i32_sub, i32_mul, i32_neg, i32_lt, i32_le, i32_eq, i32_nat, ckn, pka_r, pka_v, if_pos, if_neg, if_true, if_false, ex, cmp_z, e]
        rfl
    · rw [if_neg (show ¬ i32 (bz true) = i32 0 by decide)]
      simp (disch := omega) only [k_X11_findSafe_0, k_X11_findSafe_10, k_X11_findSafe_17, k_X11_findSafe_20, k_X11_findSafe_37, k_X11_findSafe_41, k_X11_findSafe_42, k_X11_findSafe_43, k_X11_findSafe_49, k_X11_findSafe_57, k_X11_findSafe_61, k_X11_findSafe_62, k_X11_findSafe_67, k_X11_findSafe_76, k_X11_findSafe_79, k_X11_findSafe_85, k_X11_findSafe_93, k_X11_findSafe_108, k_X11_findSafe_115, k_X11_findSafe_127, k_X11_findSafe_131, k_X11_findSafe_135, k_X11_findSafe_136, k_X11_findSafe_149, k_X11_findSafe_155, k_X11_findSafe_159, k_X11_findSafe_166, k_X11_findSafe_170, k_X11_findSafe_171, k_X11_findSafe_175, k_X11_findSafe_181, li_0, li_1, li_2, li_3, li_4, li_5, li_6, li_9, li_10, li_40, lm_1, lm_2, lm_3, lm_4, zs_ap, i32_add, i32_sub, i32_mul, i32_neg, i32_lt, i32_le, i32_eq, i32_nat, ckn, pka_r, pka_v, if_pos, if_neg, if_true, if_false, ex]
      rfl
/-- what a pass over the turns keeps, from Jp -/
def FP (m : Mat) (b : Nat → Int) (s : Nat) (Jp : Nat → Nat → Int64) (t : Nat) (y : Bool × (Nat → Nat → Int64) × Option Value × Option Value) : Prop :=
  (∀ a : Nat, a ≠ 162 → y.2.1 a = Jp a) ∧ (∀ x : Nat, x < 3 * s → y.2.1 162 x = Jp 162 x) ∧ (∀ v n : Nat, v < qturns m → n < 64 → Tt y.2.1 n s v = true → sf m b n s v = true) ∧ (∀ v n : Nat, v < qturns m → n < 64 → Tt Jp n s v = true → Tt y.2.1 n s v = true) ∧ (∀ v n : Nat, v < t → n < 64 → 1 ≤ n → qstay m b s n = true → onw m (Tt Jp (n - 1)) s v = true → Tt y.2.1 n s v = true) ∧ (y.1 = false → ∀ v : Nat, v < qturns m → y.2.1 162 (3 * s + v) = Jp 162 (3 * s + v)) ∧ (y.1 = true → ∃ v n : Nat, v < qturns m ∧ n < 64 ∧ Tt y.2.1 n s v = true ∧ Tt Jp n s v = false)
theorem Tt_u {x : Int64} {s t n u v : Nat} (ht : t < 3) (hv : v < 3) : Tt (u2 J 162 (3 * s + t) x) n u v = if u = s ∧ v = t then gb x n else Tt J n u v := by
  unfold Tt
  by_cases c : u = s ∧ v = t
  · rw [if_pos c, c.1, c.2, u2s]
  · rw [if_neg c, u2f (by omega)]
theorem fs_pass (h : MI m Z) {s : Nat} (hs : s < qN m) (hf : s ≠ qfin m) (hst : ∀ n : Nat, n < 64 → gb (Jp 163 s) n = qstay m b s n) (hlo : ∀ u v n : Nat, u < s → v < qturns m → n < 64 → Tt Jp n u v = sf m b n u v) (hso : ∀ v n : Nat, v < qturns m → n < 64 → Tt Jp n s v = true → sf m b n s v = true) (o4 o5 : Option Value) :
    ∃ y : Bool × (Nat → Nat → Int64) × Option Value × Option Value, FP m b s Jp (qturns m) y ∧ den none (Mean (d + 7)) none tQ_X11_findSafe (71, [some (.ref 140), some (.int (i32 (s : Int))), some (.int (i32 (bz false))), some (.int (i32 ((0 : Nat) : Int))), o4, o5], [], 176, zs Z, Jp, RP p0 p1 p2 p3 p4 p5 p6 p7) = den none (Mean (d + 7)) none tQ_X11_findSafe (71, [some (.ref 140), some (.int (i32 (s : Int))), some (.int (i32 (bz y.1))), some (.int (i32 ((qturns m : Nat) : Int))), y.2.2.1, y.2.2.2], [], 176, zs Z, y.2.1, RP p0 p1 p2 p3 p4 p5 p6 p7) := by
  have htl := turns_le h.1
  refine up_inv (fun (t : Nat) (y : Bool × (Nat → Nat → Int64) × Option Value × Option Value) => den none (Mean (d + 7)) none tQ_X11_findSafe (71, [some (.ref 140), some (.int (i32 (s : Int))), some (.int (i32 (bz y.1))), some (.int (i32 (t : Int))), y.2.2.1, y.2.2.2], [], 176, zs Z, y.2.1, RP p0 p1 p2 p3 p4 p5 p6 p7)) (qturns m) (FP m b s Jp) (fun t y ht hv => ?_) (false, Jp, o4, o5) ?_
  · obtain ⟨c, J, o4, o5⟩ := y
    obtain ⟨v1, v2, v3, v4, v5, v6, v7⟩ := hv
    simp only at v1 v2 v3 v4 v5 v6 v7
    obtain ⟨x, hx, e⟩ := fs_step (d := d) (J := J) (p0 := p0) (p1 := p1) (p2 := p2) (p3 := p3) (p4 := p4) (p5 := p5) (p6 := p6) (p7 := p7) h hs ht (fun n hn => by rw [v1 163 (by omega)]; exact hst n hn) c o4 o5
    have hgx : ∀ n : Nat, n < 64 → Tt J n s t = true → gb x n = true := fun n hn hT => by
      rw [hx n hn, show gb (J 162 (3 * s + t)) n = true from hT, Bool.or_true]
    have hmo : ∀ v n : Nat, v < qturns m → n < 64 → Tt J n s v = true → Tt (u2 J 162 (3 * s + t) x) n s v = true := fun v n hv hn hT => by
      rw [Tt_u (by omega) (by omega)]
      split
      · rename_i c
        rw [c.2] at hT
        exact hgx n hn hT
      · exact hT
    refine ⟨(c || !decide (x = J 162 (3 * s + t)), u2 J 162 (3 * s + t) x, some (.long x), none), ⟨?_, ?_, ?_, ?_, ?_, ?_, ?_⟩, e⟩
    · intro a ha
      exact (u2_ne ha).trans (v1 a ha)
    · intro z hz
      exact (u2f (by omega)).trans (v2 z hz)
    · intro v n hv hn hT
      simp only at hT
      rw [Tt_u (by omega) (by omega)] at hT
      by_cases c1 : s = s ∧ v = t
      · rw [if_pos c1, hx n hn, Bool.or_eq_true] at hT
        rcases hT with hT | hT
        · rw [Bool.and_eq_true, Bool.and_eq_true, decide_eq_true_iff] at hT
          obtain ⟨n', rfl⟩ : ∃ n', n = n' + 1 := ⟨n - 1, by omega⟩
          unfold sf
          rw [decide_eq_false hf, hT.2, Bool.not_false, Bool.true_and, Bool.true_and, c1.2]
          refine onw_mono h.1 (fun u w hu hw hT2 => ?_) (fun c0 hT2 => ?_) hT.1.2
          · rw [Nat.add_sub_cancel] at hT2
            rw [← hlo u w n' hu hw (by omega)]
            unfold Tt at hT2 ⊢
            rw [← v2 (3 * u + w) (by omega)]
            exact hT2
          · exact v3 _ n' (next_tn h.1 t) (by omega) hT2
        · rw [c1.2]
          exact v3 t n ht hn hT
      · rw [if_neg c1] at hT
        exact v3 v n hv hn hT
    · intro v n hv hn hT
      exact hmo v n hv hn (v4 v n hv hn hT)
    · intro v n hv hn h1 hq ho
      by_cases c1 : v = t
      · subst c1
        simp only
        rw [Tt_u (by omega) (by omega), if_pos ⟨rfl, rfl⟩, hx n hn, hq, decide_eq_true h1, onw_mono h.1 (fun u w hu hw hT2 => ?_) (fun c0 hT2 => ?_) ho]
        · rfl
        · unfold Tt at hT2 ⊢
          rw [v2 (3 * u + w) (by omega)]
          exact hT2
        · exact v4 _ _ (next_tn h.1 v) (by omega) hT2
      · exact hmo v n (by omega) hn (v5 v n (by omega) hn h1 hq ho)
    · intro hc v hv
      simp only [Bool.or_eq_false_iff, Bool.not_eq_false', decide_eq_true_iff] at hc
      simp only
      rw [← v6 hc.1 v hv, hc.2]
      by_cases c1 : v = t
      · rw [c1, u2s]
      · exact u2f (by omega)
    · intro hc
      simp only at hc
      cases hc1 : c
      · rw [hc1, Bool.false_or, Bool.not_eq_true', decide_eq_false_iff_not] at hc
        have hn : ¬ ∀ n : Nat, n < 64 → gb x n = gb (J 162 (3 * s + t)) n := fun q => hc (gb_ext q)
        obtain ⟨n, hn⟩ := Classical.not_forall.mp hn
        obtain ⟨hn, hne⟩ := Classical.not_imp.mp hn
        refine ⟨t, n, ht, hn, ?_, ?_⟩
        · simp only
          rw [Tt_u (by omega) (by omega), if_pos ⟨rfl, rfl⟩]
          cases hg : gb x n
          · cases hj : gb (J 162 (3 * s + t)) n
            · exact absurd (hg.trans hj.symm) hne
            · exact absurd (hgx n hn hj) (by rw [hg]; exact Bool.false_ne_true)
          · rfl
        · unfold Tt
          rw [← v6 hc1 t ht]
          cases hj : gb (J 162 (3 * s + t)) n
          · rfl
          · exact absurd ((hgx n hn hj).trans hj.symm) hne
      · obtain ⟨v, n, q1, q2, q3, q4⟩ := v7 hc1
        exact ⟨v, n, q1, q2, hmo v n q1 q2 q3, q4⟩
  · exact ⟨fun _ _ => rfl, fun _ _ => rfl, hso, fun _ _ _ _ q => q, fun _ _ q => absurd q (by omega), fun _ _ _ => rfl, fun q => absurd q (by simp)⟩
theorem sf_grow (hw : wf m) {s v n : Nat} {F : Nat → Nat → Bool} (hlo : ∀ u w : Nat, u < s → w < qturns m → F u w = sf m b n u w) (hs0 : qmode m = 0 → sf m b n s (qnext m v) = true → F s (qnext m v) = true) (h : sf m b (n + 1) s v = true) : qstay m b s (n + 1) = true ∧ onw m F s v = true := by
  unfold sf at h
  rw [Bool.and_eq_true, Bool.and_eq_true] at h
  exact ⟨h.1.2, onw_mono hw (fun u w hu hw' q => by rw [hlo u w hu hw']; exact q) hs0 h.2⟩
theorem fs_while (h : MI m Z) {s : Nat} (hs : s < qN m) (hf : s ≠ qfin m) : ∀ (k : Nat) (Jp : Nat → Nat → Int64) (o3 o4 o5 : Option Value), (∀ n : Nat, n < 64 → gb (Jp 163 s) n = qstay m b s n) → (∀ u v n : Nat, u < s → v < qturns m → n < 64 → Tt Jp n u v = sf m b n u v) → (∀ v n : Nat, v < qturns m → n < 64 → Tt Jp n s v = true → sf m b n s v = true) → (∀ v n : Nat, v < qturns m → n + k < 64 → sf m b n s v = true → Tt Jp n s v = true) →
    ∃ y : (Nat → Nat → Int64) × Option Value × Option Value × Option Value, (∀ a : Nat, a ≠ 162 → y.1 a = Jp a) ∧ (∀ x : Nat, x < 3 * s → y.1 162 x = Jp 162 x) ∧ (∀ v n : Nat, v < qturns m → n < 64 → Tt y.1 n s v = sf m b n s v) ∧ den none (Mean (d + 7)) none tQ_X11_findSafe (63, [some (.ref 140), some (.int (i32 (s : Int))), some (.int (i32 (bz true))), o3, o4, o5], [], 176, zs Z, Jp, RP p0 p1 p2 p3 p4 p5 p6 p7) = den none (Mean (d + 7)) none tQ_X11_findSafe (63, [some (.ref 140), some (.int (i32 (s : Int))), some (.int (i32 (bz false))), y.2.1, y.2.2.1, y.2.2.2], [], 176, zs Z, y.1, RP p0 p1 p2 p3 p4 p5 p6 p7) := by
  have htl := turns_le h.1
  have h0 := MI_n h
  have h1 := h.2.1.1
  have hmd := h.1.2.2.2.2.2.1
  intro k
  induction k with
  | zero => ?_
  | succ k ih => ?_
  all_goals
    intro Jp o3 o4 o5 hst hlo hso hco
    obtain ⟨⟨c, J, a4, a5⟩, ⟨v1, v2, v3, v4, v5, v6, v7⟩, e⟩ := fs_pass (d := d) (Jp := Jp) (p0 := p0) (p1 := p1) (p2 := p2) (p3 := p3) (p4 := p4) (p5 := p5) (p6 := p6) (p7 := p7) h hs hf hst hlo hso o4 o5
    simp only at v1 v2 v3 v4 v5 v6 v7 e
    have e1 : den none (Mean (d + 7)) none tQ_X11_findSafe (63, [some (.ref 140), some (.int (i32 (s : Int))), some (.int (i32 (bz true))), o3, o4, o5], [], 176, zs Z, Jp, RP p0 p1 p2 p3 p4 p5 p6 p7) = den none (Mean (d + 7)) none tQ_X11_findSafe (63, [some (.ref 140), some (.int (i32 (s : Int))), some (.int (i32 (bz (c && decide (qmode m = 0))))), some (.int (i32 ((qturns m : Nat) : Int))), a4, a5], [], 176, zs Z, J, RP p0 p1 p2 p3 p4 p5 p6 p7) := by
      rw [k_X11_findSafe_63, if_neg (show ¬ i32 (bz true) = 0 by decide), k_X11_findSafe_67]
      refine e.trans ?_
      rw [k_X11_findSafe_71]
      simp (disch := omega) only [k_X11_findSafe_0, k_X11_findSafe_10, k_X11_findSafe_17, k_X11_findSafe_20, k_X11_findSafe_37, k_X11_findSafe_41, k_X11_findSafe_42, k_X11_findSafe_43, k_X11_findSafe_49, k_X11_findSafe_57, k_X11_findSafe_61, k_X11_findSafe_62, k_X11_findSafe_67, k_X11_findSafe_76, k_X11_findSafe_79, k_X11_findSafe_85, k_X11_findSafe_93, k_X11_findSafe_108, k_X11_findSafe_115, k_X11_findSafe_127, k_X11_findSafe_131, k_X11_findSafe_135, k_X11_findSafe_136, k_X11_findSafe_149, k_X11_findSafe_155, k_X11_findSafe_159, k_X11_findSafe_166, k_X11_findSafe_170, k_X11_findSafe_171, k_X11_findSafe_175, k_X11_findSafe_181, li_0, li_1, li_2, li_3, li_4, li_5, li_6, li_9, li_10, li_40, lm_1, lm_2, lm_3, lm_4, zs_ap, i32_add, i32_sub, i32_mul, i32_neg, i32_lt, i32_le, i32_eq, i32_nat, ckn, pka_r, pka_v, if_pos, if_neg, if_true, if_false, g_turns' h]
      cases c
      · rw [if_pos (show i32 (bz false) = i32 0 from rfl)]
        rfl
      · rw [if_neg (show ¬ i32 (bz true) = i32 0 by decide)]
        by_cases c0 : qmode m = 0
        · simp (disch := omega) only [k_X11_findSafe_0, k_X11_findSafe_10, k_X11_findSafe_17, k_X11_findSafe_20, k_X11_findSafe_37, k_X11_findSafe_41, k_X11_findSafe_42, k_X11_findSafe_43, k_X11_findSafe_49, k_X11_findSafe_57, k_X11_findSafe_61, k_X11_findSafe_62, k_X11_findSafe_67, k_X11_findSafe_76, k_X11_findSafe_79, k_X11_findSafe_85, k_X11_findSafe_93, k_X11_findSafe_108, k_X11_findSafe_115, k_X11_findSafe_127, k_X11_findSafe_131, k_X11_findSafe_135, k_X11_findSafe_136, k_X11_findSafe_149, k_X11_findSafe_155, k_X11_findSafe_159, k_X11_findSafe_166, k_X11_findSafe_170, k_X11_findSafe_171, k_X11_findSafe_175, k_X11_findSafe_181, li_0, li_1, li_2, li_3, li_4, li_5, li_6, li_9, li_10, li_40, lm_1, lm_2, lm_3, lm_4, zs_ap, i32_add, i32_sub, i32_mul, i32_neg, i32_lt, i32_le, i32_eq, i32_nat, ckn, pka_r, pka_v, if_pos, if_neg, if_true, if_false, h1, c0]
          rfl
        · rw [decide_eq_false c0]
          simp (disch := omega) only [k_X11_findSafe_0, k_X11_findSafe_10, k_X11_findSafe_17, k_X11_findSafe_20, k_X11_findSafe_37, k_X11_findSafe_41, k_X11_findSafe_42, k_X11_findSafe_43, k_X11_findSafe_49, k_X11_findSafe_57, k_X11_findSafe_61, k_X11_findSafe_62, k_X11_findSafe_67, k_X11_findSafe_76, k_X11_findSafe_79, k_X11_findSafe_85, k_X11_findSafe_93, k_X11_findSafe_108, k_X11_findSafe_115, k_X11_findSafe_127, k_X11_findSafe_131, k_X11_findSafe_135, k_X11_findSafe_136, k_X11_findSafe_149, k_X11_findSafe_155, k_X11_findSafe_159, k_X11_findSafe_166, k_X11_findSafe_170, k_X11_findSafe_171, k_X11_findSafe_175, k_X11_findSafe_181, li_0, li_1, li_2, li_3, li_4, li_5, li_6, li_9, li_10, li_40, lm_1, lm_2, lm_3, lm_4, zs_ap, i32_add, i32_sub, i32_mul, i32_neg, i32_lt, i32_le, i32_eq, i32_nat, ckn, pka_r, pka_v, if_pos, if_neg, if_true, if_false, h1]
          rfl
    have fin : ∀ (g : ∀ v n : Nat, v < qturns m → n < 64 → sf m b n s v = true → Tt J n s v = true) (gc : (c && decide (qmode m = 0)) = false), ∃ y : (Nat → Nat → Int64) × Option Value × Option Value × Option Value, (∀ a : Nat, a ≠ 162 → y.1 a = Jp a) ∧ (∀ x : Nat, x < 3 * s → y.1 162 x = Jp 162 x) ∧ (∀ v n : Nat, v < qturns m → n < 64 → Tt y.1 n s v = sf m b n s v) ∧ den none (Mean (d + 7)) none tQ_X11_findSafe (63, [some (.ref 140), some (.int (i32 (s : Int))), some (.int (i32 (bz true))), o3, o4, o5], [], 176, zs Z, Jp, RP p0 p1 p2 p3 p4 p5 p6 p7) = den none (Mean (d + 7)) none tQ_X11_findSafe (63, [some (.ref 140), some (.int (i32 (s : Int))), some (.int (i32 (bz false))), y.2.1, y.2.2.1, y.2.2.2], [], 176, zs Z, y.1, RP p0 p1 p2 p3 p4 p5 p6 p7) := fun g gc => by
      refine ⟨(J, some (.int (i32 ((qturns m : Nat) : Int))), a4, a5), v1, v2, fun v n hv hn => ?_, ?_⟩
      · exact Bool.eq_iff_iff.mpr ⟨v3 v n hv hn, g v n hv hn⟩
      · rw [e1, gc]
    have sf0 : ∀ v : Nat, sf m b 0 s v = true → False := fun v q => hf (of_decide_eq_true q)
    by_cases c0 : qmode m = 0
    · cases hc : c
      · refine fin (fun v n => ?_) (by rw [hc]; rfl)
        revert v
        induction n with
        | zero => exact fun v hv hn q => (sf0 v q).elim
        | succ n ihn =>
          intro v hv hn q
          obtain ⟨q1, q2⟩ := sf_grow h.1 (F := Tt Jp n) (fun u w hu hw => hlo u w n hu hw (by omega)) (fun _ q => by
            have := ihn (qnext m v) (next_tn h.1 v) (by omega) q
            unfold Tt at this ⊢
            rw [v6 hc _ (next_tn h.1 v)] at this
            exact this) q
          exact v5 v (n + 1) hv hn (by omega) q1 q2
      · first
        | (obtain ⟨v, n, q1, q2, q3, q4⟩ := v7 hc
           have := hco v n q1 (by omega) (v3 v n q1 q2 q3)
           rw [q4] at this
           cases this)
        | (obtain ⟨y, w1, w2, w3, w4⟩ := ih J (some (.int (i32 ((qturns m : Nat) : Int)))) a4 a5 (fun n hn => by rw [v1 163 (by omega)]; exact hst n hn) (fun u v n hu hv hn => by
             unfold Tt
             rw [v2 _ (by omega)]
             exact hlo u v n hu hv hn) v3 (fun v n hv hn q => by
             by_cases cc : n + (k + 1) < 64
             · exact v4 v n hv (by omega) (hco v n hv cc q)
             · cases n with
               | zero => exact (sf0 v q).elim
               | succ n =>
                 obtain ⟨q1, q2⟩ := sf_grow h.1 (F := Tt Jp n) (fun u w hu hw => hlo u w n hu hw (by omega)) (fun _ q => hco _ n (next_tn h.1 v) (by omega) q) q
                 exact v5 v (n + 1) hv (by omega) (by omega) q1 q2)
           refine ⟨y, fun a ha => (w1 a ha).trans (v1 a ha), fun x hx => (w2 x hx).trans (v2 x hx), w3, ?_⟩
           rw [e1, hc, decide_eq_true c0]
           exact w4)
    · refine fin (fun v n hv hn q => ?_) (by rw [decide_eq_false c0, Bool.and_false])
      cases n with
      | zero => exact (sf0 v q).elim
      | succ n =>
        obtain ⟨q1, q2⟩ := sf_grow h.1 (F := Tt Jp n) (fun u w hu hw => hlo u w n hu hw (by omega)) (fun q => absurd q c0) q
        exact v5 v (n + 1) hv hn (by omega) q1 q2
theorem fs_init (h : MI m Z) {s : Nat} (hs : s < qN m) (o3 o4 o5 : Option Value) : ∃ J' : Nat → Nat → Int64, (∀ a : Nat, a ≠ 162 → J' a = J a) ∧ (∀ x : Nat, x < 3 * s → J' 162 x = J 162 x) ∧ (∀ v : Nat, v < qturns m → J' 162 (3 * s + v) = if s = qfin m then 1 else 0) ∧ den none (Mean (d + 7)) none tQ_X11_findSafe (12, [some (.ref 140), some (.int (i32 (s : Int))), some (.int (i32 0)), o3, o4, o5], [], 176, zs Z, J, RP p0 p1 p2 p3 p4 p5 p6 p7) = den none (Mean (d + 7)) none tQ_X11_findSafe (63, [some (.ref 140), some (.int (i32 (s : Int))), some (.int (i32 (bz (!decide (s = qfin m))))), o3, o4, o5], [], 176, zs Z, J', RP p0 p1 p2 p3 p4 p5 p6 p7) := by
  have htl := turns_le h.1
  have h0 := MI_n h
  obtain ⟨J', v, e⟩ := up_inv (fun (t : Nat) (J : Nat → Nat → Int64) => den none (Mean (d + 7)) none tQ_X11_findSafe (12, [some (.ref 140), some (.int (i32 (s : Int))), some (.int (i32 (t : Int))), o3, o4, o5], [], 176, zs Z, J, RP p0 p1 p2 p3 p4 p5 p6 p7)) (qturns m) (fun t J' => (∀ a : Nat, a ≠ 162 → J' a = J a) ∧ (∀ x : Nat, x < 3 * s → J' 162 x = J 162 x) ∧ (∀ v : Nat, v < t → J' 162 (3 * s + v) = if s = qfin m then 1 else 0)) (fun t J1 ht hv => by
    refine ⟨u2 J1 162 (3 * s + t) (if s = qfin m then 1 else 0), ⟨fun a ha => (u2_ne ha).trans (hv.1 a ha), fun x hx => (u2f (by omega)).trans (hv.2.1 x hx), fun v hvt => ?_⟩, ?_⟩
    · by_cases c : v = t
      · rw [c, u2s]
      · rw [u2f (by omega)]
        exact hv.2.2 v (by omega)
    · rw [k_X11_findSafe_12]
      have ex : (3 * (s : Int) + (t : Int)).toNat = 3 * s + t := by omega
      by_cases c : s = qfin m
      · rw [if_pos c]
        simp (disch := omega) only [k_X11_findSafe_0, k_X11_findSafe_10, k_X11_findSafe_17, k_X11_findSafe_20, k_X11_findSafe_37, k_X11_findSafe_41, k_X11_findSafe_42, k_X11_findSafe_43, k_X11_findSafe_49, k_X11_findSafe_57, k_X11_findSafe_61, k_X11_findSafe_62, k_X11_findSafe_67, k_X11_findSafe_76, k_X11_findSafe_79, k_X11_findSafe_85, k_X11_findSafe_93, k_X11_findSafe_108, k_X11_findSafe_115, k_X11_findSafe_127, k_X11_findSafe_131, k_X11_findSafe_135, k_X11_findSafe_136, k_X11_findSafe_149, k_X11_findSafe_155, k_X11_findSafe_159, k_X11_findSafe_166, k_X11_findSafe_170, k_X11_findSafe_171, k_X11_findSafe_175, k_X11_findSafe_181, li_0, li_1, li_2, li_3, li_4, li_5, li_6, li_9, li_10, li_40, lm_1, lm_2, lm_3, lm_4, zs_ap, i32_add, i32_sub, i32_mul, i32_neg, i32_lt, i32_le, i32_eq, i32_nat, ckn, pka_r, pka_v, if_pos, if_neg, if_true, if_false, g_turns' h, h0, ex]
        rfl
      · rw [if_neg c]
        simp (disch := omega) only [k_X11_findSafe_0, k_X11_findSafe_10, k_X11_findSafe_17, k_X11_findSafe_20, k_X11_findSafe_37, k_X11_findSafe_41, k_X11_findSafe_42, k_X11_findSafe_43, k_X11_findSafe_49, k_X11_findSafe_57, k_X11_findSafe_61, k_X11_findSafe_62, k_X11_findSafe_67, k_X11_findSafe_76, k_X11_findSafe_79, k_X11_findSafe_85, k_X11_findSafe_93, k_X11_findSafe_108, k_X11_findSafe_115, k_X11_findSafe_127, k_X11_findSafe_131, k_X11_findSafe_135, k_X11_findSafe_136, k_X11_findSafe_149, k_X11_findSafe_155, k_X11_findSafe_159, k_X11_findSafe_166, k_X11_findSafe_170, k_X11_findSafe_171, k_X11_findSafe_175, k_X11_findSafe_181, li_0, li_1, li_2, li_3, li_4, li_5, li_6, li_9, li_10, li_40, lm_1, lm_2, lm_3, lm_4, zs_ap, i32_add, i32_sub, i32_mul, i32_neg, i32_lt, i32_le, i32_eq, i32_nat, ckn, pka_r, pka_v, if_pos, if_neg, if_true, if_false, g_turns' h, h0, ex]
        rfl) J ⟨fun _ _ => rfl, fun _ _ => rfl, fun _ q => absurd q (by omega)⟩
  refine ⟨J', v.1, v.2.1, v.2.2, e.trans ?_⟩
  rw [k_X11_findSafe_12]
  by_cases c : s = qfin m
  · rw [decide_eq_true c]
    simp (disch := omega) only [k_X11_findSafe_0, k_X11_findSafe_10, k_X11_findSafe_17, k_X11_findSafe_20, k_X11_findSafe_37, k_X11_findSafe_41, k_X11_findSafe_42, k_X11_findSafe_43, k_X11_findSafe_49, k_X11_findSafe_57, k_X11_findSafe_61, k_X11_findSafe_62, k_X11_findSafe_67, k_X11_findSafe_76, k_X11_findSafe_79, k_X11_findSafe_85, k_X11_findSafe_93, k_X11_findSafe_108, k_X11_findSafe_115, k_X11_findSafe_127, k_X11_findSafe_131, k_X11_findSafe_135, k_X11_findSafe_136, k_X11_findSafe_149, k_X11_findSafe_155, k_X11_findSafe_159, k_X11_findSafe_166, k_X11_findSafe_170, k_X11_findSafe_171, k_X11_findSafe_175, k_X11_findSafe_181, li_0, li_1, li_2, li_3, li_4, li_5, li_6, li_9, li_10, li_40, lm_1, lm_2, lm_3, lm_4, zs_ap, i32_add, i32_sub, i32_mul, i32_neg, i32_lt, i32_le, i32_eq, i32_nat, ckn, pka_r, pka_v, if_pos, if_neg, if_true, if_false, g_turns' h, h0]
    rfl
  · rw [decide_eq_false c]
    simp (disch := omega) only [k_X11_findSafe_0, k_X11_findSafe_10, k_X11_findSafe_17, k_X11_findSafe_20, k_X11_findSafe_37, k_X11_findSafe_41, k_X11_findSafe_42, k_X11_findSafe_43, k_X11_findSafe_49, k_X11_findSafe_57, k_X11_findSafe_61, k_X11_findSafe_62, k_X11_findSafe_67, k_X11_findSafe_76, k_X11_findSafe_79, k_X11_findSafe_85, k_X11_findSafe_93, k_X11_findSafe_108, k_X11_findSafe_115, k_X11_findSafe_127, k_X11_findSafe_131, k_X11_findSafe_135, k_X11_findSafe_136, k_X11_findSafe_149, k_X11_findSafe_155, k_X11_findSafe_159, k_X11_findSafe_166, k_X11_findSafe_170, k_X11_findSafe_171, k_X11_findSafe_175, k_X11_findSafe_181, li_0, li_1, li_2, li_3, li_4, li_5, li_6, li_9, li_10, li_40, lm_1, lm_2, lm_3, lm_4, zs_ap, i32_add, i32_sub, i32_mul, i32_neg, i32_lt, i32_le, i32_eq, i32_nat, ckn, pka_r, pka_v, if_pos, if_neg, if_true, if_false, g_turns' h, h0]
    rfl
theorem g_findSafe (h : MI m Z) (hst : ∀ s : Nat, s < qN m → ∀ n : Nat, n < 64 → gb (J 163 s) n = qstay m b s n) : ∃ J' : Nat → Nat → Int64, (∀ a : Nat, a ≠ 162 → J' a = J a) ∧ (∀ s v n : Nat, s < qN m → v < qturns m → n < 64 → Tt J' n s v = sf m b n s v) ∧ Mean (d + 8) 194 [.ref 140] (176, zs Z, J, RP p0 p1 p2 p3 p4 p5 p6 p7) = some (none, (176, zs Z, J', RP p0 p1 p2 p3 p4 p5 p6 p7)) := by
  have htl := turns_le h.1
  have h0 := MI_n h
  obtain ⟨⟨J', o2, o3, o4, o5⟩, v, e⟩ := up_inv (fun (s : Nat) (y : (Nat → Nat → Int64) × Option Value × Option Value × Option Value × Option Value) => den none (Mean (d + 7)) none tQ_X11_findSafe (2, [some (.ref 140), some (.int (i32 (s : Int))), y.2.1, y.2.2.1, y.2.2.2.1, y.2.2.2.2], [], 176, zs Z, y.1, RP p0 p1 p2 p3 p4 p5 p6 p7)) (qN m) (fun s y => (∀ a : Nat, a ≠ 162 → y.1 a = J a) ∧ (∀ u v n : Nat, u < s → v < qturns m → n < 64 → Tt y.1 n u v = sf m b n u v)) (fun s y hs hv => by
    obtain ⟨J1, o2, o3, o4, o5⟩ := y
    obtain ⟨w1, w2⟩ := hv
    simp only at w1 w2
    obtain ⟨J2, i1, i2, i3, i4⟩ := fs_init (d := d) (J := J1) (p0 := p0) (p1 := p1) (p2 := p2) (p3 := p3) (p4 := p4) (p5 := p5) (p6 := p6) (p7 := p7) h hs o3 o4 o5
    have hlo : ∀ u v n : Nat, u < s → v < qturns m → n < 64 → Tt J2 n u v = sf m b n u v := fun u v n hu hv hn => by
      unfold Tt
      rw [i2 _ (by omega)]
      exact w2 u v n hu hv hn
    by_cases c : s = qfin m
    · refine ⟨(J2, some (.int (i32 0)), o3, o4, o5), ⟨fun a ha => (i1 a ha).trans (w1 a ha), fun u v n hu hv hn => ?_⟩, ?_⟩
      · by_cases cu : u = s
        · subst cu
          unfold Tt
          simp only
          rw [i3 v hv, if_pos c, gb_1 hn]
          cases n with
          | zero =>
            unfold sf
            rw [decide_eq_true c, decide_eq_true rfl]
          | succ n =>
            unfold sf
            rw [decide_eq_true c, decide_eq_false (by omega)]
            rfl
        · exact hlo u v n (by omega) hv hn
      · rw [k_X11_findSafe_2]
        simp (disch := omega) only [k_X11_findSafe_0, k_X11_findSafe_10, k_X11_findSafe_17, k_X11_findSafe_20, k_X11_findSafe_37, k_X11_findSafe_41, k_X11_findSafe_42, k_X11_findSafe_43, k_X11_findSafe_49, k_X11_findSafe_57, k_X11_findSafe_61, k_X11_findSafe_62, k_X11_findSafe_67, k_X11_findSafe_76, k_X11_findSafe_79, k_X11_findSafe_85, k_X11_findSafe_93, k_X11_findSafe_108, k_X11_findSafe_115, k_X11_findSafe_127, k_X11_findSafe_131, k_X11_findSafe_135, k_X11_findSafe_136, k_X11_findSafe_149, k_X11_findSafe_155, k_X11_findSafe_159, k_X11_findSafe_166, k_X11_findSafe_170, k_X11_findSafe_171, k_X11_findSafe_175, k_X11_findSafe_181, li_0, li_1, li_2, li_3, li_4, li_5, li_6, li_9, li_10, li_40, lm_1, lm_2, lm_3, lm_4, zs_ap, i32_add, i32_sub, i32_mul, i32_neg, i32_lt, i32_le, i32_eq, i32_nat, ckn, pka_r, pka_v, if_pos, if_neg, if_true, if_false, h0]
        rw [i4, k_X11_findSafe_63, decide_eq_true c, if_pos (show i32 (bz (!true)) = 0 from rfl)]
        simp (disch := omega) only [k_X11_findSafe_0, k_X11_findSafe_10, k_X11_findSafe_17, k_X11_findSafe_20, k_X11_findSafe_37, k_X11_findSafe_41, k_X11_findSafe_42, k_X11_findSafe_43, k_X11_findSafe_49, k_X11_findSafe_57, k_X11_findSafe_61, k_X11_findSafe_62, k_X11_findSafe_67, k_X11_findSafe_76, k_X11_findSafe_79, k_X11_findSafe_85, k_X11_findSafe_93, k_X11_findSafe_108, k_X11_findSafe_115, k_X11_findSafe_127, k_X11_findSafe_131, k_X11_findSafe_135, k_X11_findSafe_136, k_X11_findSafe_149, k_X11_findSafe_155, k_X11_findSafe_159, k_X11_findSafe_166, k_X11_findSafe_170, k_X11_findSafe_171, k_X11_findSafe_175, k_X11_findSafe_181, li_0, li_1, li_2, li_3, li_4, li_5, li_6, li_9, li_10, li_40, lm_1, lm_2, lm_3, lm_4, zs_ap, i32_add, i32_sub, i32_mul, i32_neg, i32_lt, i32_le, i32_eq, i32_nat, ckn, pka_r, pka_v, if_pos, if_neg, if_true, if_false]
        rfl
    · obtain ⟨y, g1, g2, g3, g4⟩ := fs_while (d := d) (b := b) (p0 := p0) (p1 := p1) (p2 := p2) (p3 := p3) (p4 := p4) (p5 := p5) (p6 := p6) (p7 := p7) h hs c 64 J2 o3 o4 o5 (fun n hn => by rw [i1 163 (by omega), w1 163 (by omega)]; exact hst s hs n hn) hlo (fun v n hv hn q => by
        unfold Tt at q
        rw [i3 v hv, if_neg c, gb_0] at q
        cases q) (fun v n hv hn q => absurd hn (by omega))
      obtain ⟨J3, a3, a4, a5⟩ := y
      simp only at g1 g2 g3 g4
      refine ⟨(J3, some (.int (i32 (bz false))), a3, a4, a5), ⟨fun a ha => (g1 a ha).trans ((i1 a ha).trans (w1 a ha)), fun u v n hu hv hn => ?_⟩, ?_⟩
      · by_cases cu : u = s
        · subst cu
          exact g3 v n hv hn
        · rw [← hlo u v n (by omega) hv hn]
          unfold Tt
          simp only
          rw [g2 _ (by omega)]
      · rw [k_X11_findSafe_2]
        simp (disch := omega) only [k_X11_findSafe_0, k_X11_findSafe_10, k_X11_findSafe_17, k_X11_findSafe_20, k_X11_findSafe_37, k_X11_findSafe_41, k_X11_findSafe_42, k_X11_findSafe_43, k_X11_findSafe_49, k_X11_findSafe_57, k_X11_findSafe_61, k_X11_findSafe_62, k_X11_findSafe_67, k_X11_findSafe_76, k_X11_findSafe_79, k_X11_findSafe_85, k_X11_findSafe_93, k_X11_findSafe_108, k_X11_findSafe_115, k_X11_findSafe_127, k_X11_findSafe_131, k_X11_findSafe_135, k_X11_findSafe_136, k_X11_findSafe_149, k_X11_findSafe_155, k_X11_findSafe_159, k_X11_findSafe_166, k_X11_findSafe_170, k_X11_findSafe_171, k_X11_findSafe_175, k_X11_findSafe_181, li_0, li_1, li_2, li_3, li_4, li_5, li_6, li_9, li_10, li_40, lm_1, lm_2, lm_3, lm_4, zs_ap, i32_add, i32_sub, i32_mul, i32_neg, i32_lt, i32_le, i32_eq, i32_nat, ckn, pka_r, pka_v, if_pos, if_neg, if_true, if_false, h0]
        rw [i4, decide_eq_false c]
        refine g4.trans ?_
        rw [k_X11_findSafe_63, if_pos (show i32 (bz false) = 0 from rfl)]
        simp (disch := omega) only [k_X11_findSafe_0, k_X11_findSafe_10, k_X11_findSafe_17, k_X11_findSafe_20, k_X11_findSafe_37, k_X11_findSafe_41, k_X11_findSafe_42, k_X11_findSafe_43, k_X11_findSafe_49, k_X11_findSafe_57, k_X11_findSafe_61, k_X11_findSafe_62, k_X11_findSafe_67, k_X11_findSafe_76, k_X11_findSafe_79, k_X11_findSafe_85, k_X11_findSafe_93, k_X11_findSafe_108, k_X11_findSafe_115, k_X11_findSafe_127, k_X11_findSafe_131, k_X11_findSafe_135, k_X11_findSafe_136, k_X11_findSafe_149, k_X11_findSafe_155, k_X11_findSafe_159, k_X11_findSafe_166, k_X11_findSafe_170, k_X11_findSafe_171, k_X11_findSafe_175, k_X11_findSafe_181, li_0, li_1, li_2, li_3, li_4, li_5, li_6, li_9, li_10, li_40, lm_1, lm_2, lm_3, lm_4, zs_ap, i32_add, i32_sub, i32_mul, i32_neg, i32_lt, i32_le, i32_eq, i32_nat, ckn, pka_r, pka_v, if_pos, if_neg, if_true, if_false]
        rfl) (J, none, none, none, none) ⟨fun _ _ => rfl, fun _ _ _ q => absurd q (by omega)⟩
  refine ⟨J', v.1, v.2, ?_⟩
  rw [e_X11_findSafe, k_X11_findSafe_0]
  refine e.trans ?_
  rw [k_X11_findSafe_2]
  simp (disch := omega) only [k_X11_findSafe_0, k_X11_findSafe_10, k_X11_findSafe_17, k_X11_findSafe_20, k_X11_findSafe_37, k_X11_findSafe_41, k_X11_findSafe_42, k_X11_findSafe_43, k_X11_findSafe_49, k_X11_findSafe_57, k_X11_findSafe_61, k_X11_findSafe_62, k_X11_findSafe_67, k_X11_findSafe_76, k_X11_findSafe_79, k_X11_findSafe_85, k_X11_findSafe_93, k_X11_findSafe_108, k_X11_findSafe_115, k_X11_findSafe_127, k_X11_findSafe_131, k_X11_findSafe_135, k_X11_findSafe_136, k_X11_findSafe_149, k_X11_findSafe_155, k_X11_findSafe_159, k_X11_findSafe_166, k_X11_findSafe_170, k_X11_findSafe_171, k_X11_findSafe_175, k_X11_findSafe_181, li_0, li_1, li_2, li_3, li_4, li_5, li_6, li_9, li_10, li_40, lm_1, lm_2, lm_3, lm_4, zs_ap, i32_add, i32_sub, i32_mul, i32_neg, i32_lt, i32_le, i32_eq, i32_nat, ckn, pka_r, pka_v, if_pos, if_neg, if_true, if_false, h0]
end
