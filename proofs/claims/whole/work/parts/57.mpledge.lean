/-! THE MODEL'S holdsWith, pledge, again -/
theorem lj_60 : (60 : Int64) = i64 60 := rfl
theorem lj_100 : (100 : Int64) = i64 100 := rfl
theorem qstay_monoB {m : Mat} (hw : wf m) {b b' : Nat → Int} (hb : ∀ i : Nat, i < qS m → b i ≤ b' i) {s n : Nat} (h : qstay m b s n = true) : qstay m b' s n = true := by
  rw [qstay_iff hw] at h ⊢
  exact ⟨h.1, fun i hi => by have := h.2 i hi; have := hb i hi; omega⟩
theorem sf_monoB {m : Mat} (hw : wf m) {b b' : Nat → Int} (hb : ∀ i : Nat, i < qS m → b i ≤ b' i) : ∀ (n s t : Nat), sf m b n s t = true → sf m b' n s t = true
  | 0, s, t, h => h
  | n + 1, s, t, h => by
    unfold sf at h ⊢
    rw [Bool.and_eq_true, Bool.and_eq_true] at h ⊢
    exact ⟨⟨h.1.1, qstay_monoB hw hb h.1.2⟩, onw_mono hw (fun u v _ _ q => sf_monoB hw hb n u v q) (fun _ q => sf_monoB hw hb n s _ q) h.2⟩
theorem sf_congrB {m : Mat} (hw : wf m) {b b' : Nat → Int} (hb : ∀ i : Nat, i < qS m → b i = b' i) (n s t : Nat) : sf m b n s t = sf m b' n s t := Bool.eq_iff_iff.mpr ⟨sf_monoB hw (fun i hi => Int.le_of_eq (hb i hi)) n s t, sf_monoB hw (fun i hi => Int.le_of_eq (hb i hi).symm) n s t⟩
theorem hdm_monoB {m : Mat} (hw : wf m) {b b' : Nat → Int} (hb : ∀ i : Nat, i < qS m → b i ≤ b' i) (h : hdm m b = true) : hdm m b' = true := anyN_mono (fun n _ q => sf_monoB hw hb n _ _ q) h
def pPl (m : Mat) (a c : Nat) : Bool := hdm m (bpl m (fun i => if i < 2 then (if i = 0 then (a : Int) else (c : Int)) else 0))
theorem pPl_mono {m : Mat} (hw : wf m) {a a' c c' : Nat} (ha : a ≤ a') (hc : c ≤ c') (h : pPl m a c = true) : pPl m a' c' = true := by
  refine hdm_monoB hw (fun i hi => ?_) h
  unfold bpl
  simp only
  split
  · split
    · omega
    · omega
  · omega
/-- the least pledges: the least sum, then the least of SIDE 0 -/
def PLs (m : Mat) (most : Nat) (x0 x1 : Int) : Prop := (x0 = -1 ∧ x1 = -1 ∧ ∀ a c : Nat, a ≤ most → c ≤ most → pPl m a c = false) ∨ ∃ a c : Nat, x0 = a ∧ x1 = c ∧ a ≤ most ∧ c ≤ most ∧ pPl m a c = true ∧ ∀ a' c' : Nat, a' ≤ most → c' ≤ most → pPl m a' c' = true → a + c < a' + c' ∨ (a + c = a' + c' ∧ a ≤ a')
theorem PLs_u {m : Mat} {most : Nat} {x0 x1 y0 y1 : Int} (h1 : PLs m most x0 x1) (h2 : PLs m most y0 y1) : x0 = y0 ∧ x1 = y1 := by
  rcases h1 with ⟨h1, h2', h3⟩ | ⟨a, c, h1, h2', h3, h4, h5, h6⟩
  · rcases h2 with ⟨g1, g2, g3⟩ | ⟨a', c', g1, g2, g3, g4, g5, g6⟩
    · omega
    · rw [h3 a' c' g3 g4] at g5
      cases g5
  · rcases h2 with ⟨g1, g2, g3⟩ | ⟨a', c', g1, g2, g3, g4, g5, g6⟩
    · rw [g3 a c h3 h4] at h5
      cases h5
    · have := h6 a' c' g3 g4 g5
      have := g6 a c h3 h4 h5
      omega
section
variable {d : Nat} {J : Nat → Nat → Int64} {Z : Nat → Nat → Int} {p0 p1 p2 p3 p4 p5 p6 p7 : Nat} {m : Mat} {b : Nat → Int}
theorem g_holdsWith (h : MB m Z) {a c : Nat} (ha : a ≤ 2000) (hc : c ≤ 2000) : ∃ J' : Nat → Nat → Int64, (∀ a : Nat, a ≠ 162 → a ≠ 163 → J' a = J a) ∧ Mean (d + 10) 214 [.ref 140, .int (i32 (a : Int)), .int (i32 (c : Int))] (176, zs Z, J, RP p0 p1 p2 p3 p4 p5 p6 p7) = some (some (.int (i32 (bB (pPl m a c)))), (176, zs Z, J', RP p0 p1 p2 p3 p4 p5 p6 p7)) := by
  have e2 : u2 (u2 Z 161 0 (a : Int)) 161 1 (c : Int) = ex (fun i => if i = 0 then (a : Int) else (c : Int)) 2 Z := by
    rw [← ex_s, ← ex_s, ex_0]
    rfl
  have hM := ex_MI (e := fun i => if i = 0 then (a : Int) else (c : Int)) (n := 2) h.1
  obtain ⟨J', h1, h2, h3⟩ := g_work (d := d) (J := J) (p0 := p0) (p1 := p1) (p2 := p2) (p3 := p3) (p4 := p4) (p5 := p5) (p6 := p6) (p7 := p7) hM (ex_MX (n := 2) (e := fun i => if i = 0 then (a : Int) else (c : Int)) h (fun i hi => by split <;> omega))
  refine ⟨J', h1, ?_⟩
  rw [e_X11_holdsWith]
  simp (disch := omega) only [k_X11_holdsWith_0, k_X11_holdsWith_7, k_X11_holdsWith_14, k_X11_holdsWith_18, k_X11_holdsWith_22, k_X11_holdsWith_26, li_0, li_1, li_2, li_3, li_4, li_5, li_6, li_9, li_10, li_40, lm_1, lm_2, lm_3, lm_4, zs_ap, i32_add, i32_sub, i32_mul, i32_neg, i32_lt, i32_le, i32_eq, i32_nat, ckn, pka_r, pka_v, if_pos, if_neg, if_true, if_false, show Int.toNat 0 = 0 from rfl, show Int.toNat 1 = 1 from rfl, zs_u2, e2, h3, g_noExtra, ex_ex, ex_id h.2, g_holds h.1 h2, bBr]
  rfl
theorem pl_loop (h : MB m Z) {one best sum : Int} {a most : Nat} (ha : a ≤ 60) (x1 x2 : Int32) : ∀ (n lo hi : Nat) (J : Nat → Nat → Int64) (o8 : Option Value), lo ≤ hi → hi ≤ 60 → hi - lo ≤ n → ∃ (J' : Nat → Nat → Int64) (o8' : Option Value), (∀ a : Nat, a ≠ 162 → a ≠ 163 → J' a = J a) ∧ den none (Mean (d + 10)) (some .int) tQ_X11_pledge (90, [some (.ref 140), some (.int x1), some (.int x2), some (.int (i32 best)), some (.int (i32 sum)), some (.int (i32 (a : Int))), some (.int (i32 (hi : Int))), some (.int (i32 (lo : Int))), o8], [], 176, zs Z, J, RP p0 p1 p2 p3 p4 p5 p6 p7) = den none (Mean (d + 10)) (some .int) tQ_X11_pledge (133, [some (.ref 140), some (.int x1), some (.int x2), some (.int (i32 best)), some (.int (i32 sum)), some (.int (i32 (a : Int))), some (.int (i32 ((bs (pPl m a) n lo hi : Nat) : Int))), some (.int (i32 ((bs (pPl m a) n lo hi : Nat) : Int))), o8'], [], 176, zs Z, J', RP p0 p1 p2 p3 p4 p5 p6 p7) := by
  intro n
  induction n with
  | zero =>
    intro lo hi J o8 h1 h2 h3
    have : lo = hi := by omega
    subst this
    refine ⟨J, o8, fun _ _ _ => rfl, ?_⟩
    rw [k_X11_pledge_90]
    simp (disch := omega) only [k_X11_pledge_0, k_X11_pledge_9, k_X11_pledge_12, k_X11_pledge_19, k_X11_pledge_22, k_X11_pledge_25, k_X11_pledge_39, k_X11_pledge_44, k_X11_pledge_51, k_X11_pledge_56, k_X11_pledge_60, k_X11_pledge_71, k_X11_pledge_81, k_X11_pledge_84, k_X11_pledge_87, k_X11_pledge_97, k_X11_pledge_114, k_X11_pledge_117, k_X11_pledge_124, k_X11_pledge_130, k_X11_pledge_143, k_X11_pledge_149, k_X11_pledge_154, k_X11_pledge_158, k_X11_pledge_162, k_X11_pledge_166, k_X11_pledge_170, li_0, li_1, li_2, li_3, li_4, li_5, li_6, li_9, li_10, li_40, lm_1, lm_2, lm_3, lm_4, zs_ap, i32_add, i32_sub, i32_mul, i32_neg, i32_lt, i32_le, i32_eq, i32_nat, ckn, pka_r, pka_v, if_pos, if_neg, if_true, if_false, bs]
  | succ n ih =>
    intro lo hi J o8 h1 h2 h3
    by_cases c : lo < hi
    · obtain ⟨J1, g1, g2⟩ := g_holdsWith (d := d) (J := J) (p0 := p0) (p1 := p1) (p2 := p2) (p3 := p3) (p4 := p4) (p5 := p5) (p6 := p6) (p7 := p7) h (a := a) (c := (lo + hi) / 2) (by omega) (by omega)
      have em := mid_c lo hi
      have ed := i32_div (a := (lo : Int) + (hi : Int)) (b := 2) (by omega) (by omega)
      rw [em] at ed
      unfold bs
      rw [if_pos c, k_X11_pledge_90]
      cases cp : pPl m a ((lo + hi) / 2)
      · obtain ⟨J2, o8', g3, g4⟩ := ih ((lo + hi) / 2 + 1) hi J1 (some (.int (i32 (((lo + hi) / 2 : Nat) : Int)))) (by omega) (by omega) (by omega)
        refine ⟨J2, o8', fun a ha hb => (g3 a ha hb).trans (g1 a ha hb), ?_⟩
        rw [cp, bBf] at g2
        simp (disch := omega) only [k_X11_pledge_0, k_X11_pledge_9, k_X11_pledge_12, k_X11_pledge_19, k_X11_pledge_22, k_X11_pledge_25, k_X11_pledge_39, k_X11_pledge_44, k_X11_pledge_51, k_X11_pledge_56, k_X11_pledge_60, k_X11_pledge_71, k_X11_pledge_81, k_X11_pledge_84, k_X11_pledge_87, k_X11_pledge_97, k_X11_pledge_114, k_X11_pledge_117, k_X11_pledge_124, k_X11_pledge_130, k_X11_pledge_143, k_X11_pledge_149, k_X11_pledge_154, k_X11_pledge_158, k_X11_pledge_162, k_X11_pledge_166, k_X11_pledge_170, li_0, li_1, li_2, li_3, li_4, li_5, li_6, li_9, li_10, li_40, lm_1, lm_2, lm_3, lm_4, zs_ap, i32_add, i32_sub, i32_mul, i32_neg, i32_lt, i32_le, i32_eq, i32_nat, ckn, pka_r, pka_v, if_pos, if_neg, if_true, if_false, ed, g2]
        rw [if_neg Bool.false_ne_true]
        exact g4
      · obtain ⟨J2, o8', g3, g4⟩ := ih lo ((lo + hi) / 2) J1 (some (.int (i32 (((lo + hi) / 2 : Nat) : Int)))) (by omega) (by omega) (by omega)
        refine ⟨J2, o8', fun a ha hb => (g3 a ha hb).trans (g1 a ha hb), ?_⟩
        rw [cp, bBt] at g2
        simp (disch := omega) only [k_X11_pledge_0, k_X11_pledge_9, k_X11_pledge_12, k_X11_pledge_19, k_X11_pledge_22, k_X11_pledge_25, k_X11_pledge_39, k_X11_pledge_44, k_X11_pledge_51, k_X11_pledge_56, k_X11_pledge_60, k_X11_pledge_71, k_X11_pledge_81, k_X11_pledge_84, k_X11_pledge_87, k_X11_pledge_97, k_X11_pledge_114, k_X11_pledge_117, k_X11_pledge_124, k_X11_pledge_130, k_X11_pledge_143, k_X11_pledge_149, k_X11_pledge_154, k_X11_pledge_158, k_X11_pledge_162, k_X11_pledge_166, k_X11_pledge_170, li_0, li_1, li_2, li_3, li_4, li_5, li_6, li_9, li_10, li_40, lm_1, lm_2, lm_3, lm_4, zs_ap, i32_add, i32_sub, i32_mul, i32_neg, i32_lt, i32_le, i32_eq, i32_nat, ckn, pka_r, pka_v, if_pos, if_neg, if_true, if_false, ed, g2]
        exact g4
    · have : lo = hi := by omega
      subst this
      refine ⟨J, o8, fun _ _ _ => rfl, ?_⟩
      rw [k_X11_pledge_90]
      simp (disch := omega) only [k_X11_pledge_0, k_X11_pledge_9, k_X11_pledge_12, k_X11_pledge_19, k_X11_pledge_22, k_X11_pledge_25, k_X11_pledge_39, k_X11_pledge_44, k_X11_pledge_51, k_X11_pledge_56, k_X11_pledge_60, k_X11_pledge_71, k_X11_pledge_81, k_X11_pledge_84, k_X11_pledge_87, k_X11_pledge_97, k_X11_pledge_114, k_X11_pledge_117, k_X11_pledge_124, k_X11_pledge_130, k_X11_pledge_143, k_X11_pledge_149, k_X11_pledge_154, k_X11_pledge_158, k_X11_pledge_162, k_X11_pledge_166, k_X11_pledge_170, li_0, li_1, li_2, li_3, li_4, li_5, li_6, li_9, li_10, li_40, lm_1, lm_2, lm_3, lm_4, zs_ap, i32_add, i32_sub, i32_mul, i32_neg, i32_lt, i32_le, i32_eq, i32_nat, ckn, pka_r, pka_v, if_pos, if_neg, if_true, if_false, bs]
/-- what the search for pledges has found before SIDE 0 pledges a -/
def PLi (m : Mat) (most a : Nat) (best sum : Int) : Prop := (best = -1 ∧ sum = 0 ∧ ∀ a' c' : Nat, a' < a → c' ≤ most → pPl m a' c' = false) ∨ ∃ x c : Nat, best = x ∧ sum = ((x + c : Nat) : Int) ∧ x < a ∧ x ≤ most ∧ c ≤ most ∧ pPl m x c = true ∧ ∀ a' c' : Nat, a' < a → c' ≤ most → pPl m a' c' = true → x + c < a' + c' ∨ (x + c = a' + c' ∧ x ≤ a')
theorem PLi_end {m : Mat} {most a : Nat} {best sum : Int} (h : PLi m most a best sum) (he : most < a ∨ (best ≠ -1 ∧ sum ≤ a)) : PLs m most best (if best = -1 then -1 else sum - best) := by
  rcases h with ⟨h1, h2, h3⟩ | ⟨x, c, h1, h2, h3, h4, h5, h6, h7⟩
  · refine Or.inl ⟨h1, by rw [if_pos h1], fun a' c' ha hc => h3 a' c' (by omega) hc⟩
  · refine Or.inr ⟨x, c, h1, by rw [if_neg (by omega)]; omega, h4, h5, h6, fun a' c' ha hc hp => ?_⟩
    by_cases q : a' < a
    · exact h7 a' c' q hc hp
    · omega
theorem PLi_step {m : Mat} (hw : wf m) {most a : Nat} {best sum : Int} (ha : a ≤ most) (h : PLi m most a best sum) (hc : best = -1 ∨ (a : Int) < sum) : ∃ hi : Nat, (hi : Int) = (if best = -1 then (most : Int) else if sum - a - 1 < most then sum - a - 1 else most) ∧ hi ≤ most ∧ (pPl m a hi = false → PLi m most (a + 1) best sum) ∧ (pPl m a hi = true → PLi m most (a + 1) a ((a + bs (pPl m a) 60 0 hi : Nat) : Int) ∨ 60 < hi) := by
  rcases h with ⟨h1, h2, h3⟩ | ⟨x, c, h1, h2, h3, h4, h5, h6, h7⟩
  · refine ⟨most, by rw [if_pos h1], Nat.le_refl _, fun q => Or.inl ⟨h1, h2, fun a' c' ha' hc' => ?_⟩, fun q => ?_⟩
    · by_cases e : a' = a
      · subst e
        cases cp : pPl m a' c'
        · rfl
        · rw [pPl_mono hw (Nat.le_refl _) hc' cp] at q
          cases q
      · exact h3 a' c' (by omega) hc'
    · by_cases e60 : 60 < most
      · exact Or.inr e60
      · have hb := bs_b (p := pPl m a) 60 0 most (by omega)
        have hl := bs_least (p := pPl m a) (fun u v huv hu => pPl_mono hw (Nat.le_refl _) huv hu) 60 0 most (by omega) (by omega) q (fun _ hx => absurd hx (by omega))
        refine Or.inl (Or.inr ⟨a, bs (pPl m a) 60 0 most, rfl, rfl, by omega, ha, hb.2, hl.1, fun a' c' ha' hc' hp => ?_⟩)
        by_cases e : a' = a
        · subst e
          by_cases e2 : c' < bs (pPl m a') 60 0 most
          · rw [hl.2 c' e2] at hp
            cases hp
          · omega
        · rw [h3 a' c' (by omega) hc'] at hp
          cases hp
  · have hlt : a < x + c := by omega
    refine ⟨if x + c - a - 1 < most then x + c - a - 1 else most, ?_, ?_, fun q => Or.inr ⟨x, c, h1, h2, by omega, h4, h5, h6, fun a' c' ha' hc' hp => ?_⟩, fun q => ?_⟩
    · have hne : best ≠ -1 := by omega
      rw [if_neg hne]
      by_cases e : x + c - a - 1 < most
      · rw [if_pos e, if_pos (by omega)]
        omega
      · rw [if_neg e, if_neg (by omega)]
    · split
      · omega
      · omega
    · by_cases e : a' = a
      · subst e
        by_cases e2 : c' ≤ (if x + c - a' - 1 < most then x + c - a' - 1 else most)
        · rw [pPl_mono hw (Nat.le_refl _) e2 hp] at q
          cases q
        · split at e2
          · omega
          · omega
      · exact h7 a' c' (by omega) hc' hp
    · generalize hhi : (if x + c - a - 1 < most then x + c - a - 1 else most) = hi at q ⊢
      have hhm : hi ≤ most ∧ hi ≤ x + c - a - 1 := by
        rw [← hhi]
        split
        · omega
        · omega
      by_cases e60 : 60 < hi
      · exact Or.inr e60
      · have hb := bs_b (p := pPl m a) 60 0 hi (by omega)
        have hl := bs_least (p := pPl m a) (fun u v huv hu => pPl_mono hw (Nat.le_refl _) huv hu) 60 0 hi (by omega) (by omega) q (fun _ hx => absurd hx (by omega))
        refine Or.inl (Or.inr ⟨a, bs (pPl m a) 60 0 hi, rfl, rfl, by omega, ha, by omega, hl.1, fun a' c' ha' hc' hp => ?_⟩)
        by_cases e : a' = a
        · subst e
          by_cases e2 : c' < bs (pPl m a') 60 0 hi
          · rw [hl.2 c' e2] at hp
            cases hp
          · omega
        · have := h7 a' c' (by omega) hc' hp
          omega
theorem pl_out (h : MB m Z) {most : Nat} (hm : most ≤ 60) {w : Int} (hw : w = 0 ∨ w = 1) : ∀ (n a : Nat) (best sum : Int) (J : Nat → Nat → Int64) (o6 o7 o8 : Option Value), most + 1 - a ≤ n → a ≤ most + 1 → PLi m most a best sum → ∃ (J' : Nat → Nat → Int64) (y0 y1 : Int), (∀ a : Nat, a ≠ 162 → a ≠ 163 → J' a = J a) ∧ PLs m most y0 y1 ∧ den none (Mean (d + 10)) (some .int) tQ_X11_pledge (33, [some (.ref 140), some (.int (i32 (most : Int))), some (.int (i32 w)), some (.int (i32 best)), some (.int (i32 sum)), some (.int (i32 (a : Int))), o6, o7, o8], [], 176, zs Z, J, RP p0 p1 p2 p3 p4 p5 p6 p7) = some (some (.int (i32 (if w = 0 then y0 else y1))), (176, zs Z, J', RP p0 p1 p2 p3 p4 p5 p6 p7)) := by
  have bnd : ∀ {a : Nat} {best sum : Int}, a ≤ most + 1 → PLi m most a best sum → (-1 ≤ best ∧ best ≤ 61) ∧ (0 ≤ sum ∧ sum ≤ 130) := fun ha hP => by
    rcases hP with ⟨h1, h2, _⟩ | ⟨x, c, h1, h2, h3, h4, h5, _⟩
    · omega
    · omega
  have fin : ∀ (a : Nat) (best sum : Int) (J : Nat → Nat → Int64) (o6 o7 o8 : Option Value), a ≤ most + 1 → PLi m most a best sum → most < a ∨ (best ≠ -1 ∧ sum ≤ a) → ∃ (J' : Nat → Nat → Int64) (y0 y1 : Int), (∀ a : Nat, a ≠ 162 → a ≠ 163 → J' a = J a) ∧ PLs m most y0 y1 ∧ den none (Mean (d + 10)) (some .int) tQ_X11_pledge (33, [some (.ref 140), some (.int (i32 (most : Int))), some (.int (i32 w)), some (.int (i32 best)), some (.int (i32 sum)), some (.int (i32 (a : Int))), o6, o7, o8], [], 176, zs Z, J, RP p0 p1 p2 p3 p4 p5 p6 p7) = some (some (.int (i32 (if w = 0 then y0 else y1))), (176, zs Z, J', RP p0 p1 p2 p3 p4 p5 p6 p7)) := fun a best sum J o6 o7 o8 ha hP he => by
    obtain ⟨b1, b2⟩ := bnd ha hP
    refine ⟨J, best, if best = -1 then -1 else sum - best, fun _ _ _ => rfl, PLi_end hP he, ?_⟩
    rw [k_X11_pledge_33]
    by_cases c1 : most < a
    · by_cases c2 : best = -1
      · subst c2
        rcases hw with hw | hw
        · simp (disch := omega) only [k_X11_pledge_0, k_X11_pledge_9, k_X11_pledge_12, k_X11_pledge_19, k_X11_pledge_22, k_X11_pledge_25, k_X11_pledge_39, k_X11_pledge_44, k_X11_pledge_51, k_X11_pledge_56, k_X11_pledge_60, k_X11_pledge_71, k_X11_pledge_81, k_X11_pledge_84, k_X11_pledge_87, k_X11_pledge_97, k_X11_pledge_114, k_X11_pledge_117, k_X11_pledge_124, k_X11_pledge_130, k_X11_pledge_133, k_X11_pledge_143, k_X11_pledge_149, k_X11_pledge_154, k_X11_pledge_158, k_X11_pledge_162, k_X11_pledge_166, k_X11_pledge_170, li_0, li_1, li_2, li_3, li_4, li_5, li_6, li_9, li_10, li_40, lm_1, lm_2, lm_3, lm_4, zs_ap, i32_add, i32_sub, i32_mul, i32_neg, i32_lt, i32_le, i32_eq, i32_nat, ckn, pka_r, pka_v, if_pos, if_neg, if_true, if_false]
        · simp (disch := omega) only [k_X11_pledge_0, k_X11_pledge_9, k_X11_pledge_12, k_X11_pledge_19, k_X11_pledge_22, k_X11_pledge_25, k_X11_pledge_39, k_X11_pledge_44, k_X11_pledge_51, k_X11_pledge_56, k_X11_pledge_60, k_X11_pledge_71, k_X11_pledge_81, k_X11_pledge_84, k_X11_pledge_87, k_X11_pledge_97, k_X11_pledge_114, k_X11_pledge_117, k_X11_pledge_124, k_X11_pledge_130, k_X11_pledge_133, k_X11_pledge_143, k_X11_pledge_149, k_X11_pledge_154, k_X11_pledge_158, k_X11_pledge_162, k_X11_pledge_166, k_X11_pledge_170, li_0, li_1, li_2, li_3, li_4, li_5, li_6, li_9, li_10, li_40, lm_1, lm_2, lm_3, lm_4, zs_ap, i32_add, i32_sub, i32_mul, i32_neg, i32_lt, i32_le, i32_eq, i32_nat, ckn, pka_r, pka_v, if_pos, if_neg, if_true, if_false]
      · rcases hw with hw | hw
        · simp (disch := omega) only [k_X11_pledge_0, k_X11_pledge_9, k_X11_pledge_12, k_X11_pledge_19, k_X11_pledge_22, k_X11_pledge_25, k_X11_pledge_39, k_X11_pledge_44, k_X11_pledge_51, k_X11_pledge_56, k_X11_pledge_60, k_X11_pledge_71, k_X11_pledge_81, k_X11_pledge_84, k_X11_pledge_87, k_X11_pledge_97, k_X11_pledge_114, k_X11_pledge_117, k_X11_pledge_124, k_X11_pledge_130, k_X11_pledge_133, k_X11_pledge_143, k_X11_pledge_149, k_X11_pledge_154, k_X11_pledge_158, k_X11_pledge_162, k_X11_pledge_166, k_X11_pledge_170, li_0, li_1, li_2, li_3, li_4, li_5, li_6, li_9, li_10, li_40, lm_1, lm_2, lm_3, lm_4, zs_ap, i32_add, i32_sub, i32_mul, i32_neg, i32_lt, i32_le, i32_eq, i32_nat, ckn, pka_r, pka_v, if_pos, if_neg, if_true, if_false]
        · simp (disch := omega) only [k_X11_pledge_0, k_X11_pledge_9, k_X11_pledge_12, k_X11_pledge_19, k_X11_pledge_22, k_X11_pledge_25, k_X11_pledge_39, k_X11_pledge_44, k_X11_pledge_51, k_X11_pledge_56, k_X11_pledge_60, k_X11_pledge_71, k_X11_pledge_81, k_X11_pledge_84, k_X11_pledge_87, k_X11_pledge_97, k_X11_pledge_114, k_X11_pledge_117, k_X11_pledge_124, k_X11_pledge_130, k_X11_pledge_133, k_X11_pledge_143, k_X11_pledge_149, k_X11_pledge_154, k_X11_pledge_158, k_X11_pledge_162, k_X11_pledge_166, k_X11_pledge_170, li_0, li_1, li_2, li_3, li_4, li_5, li_6, li_9, li_10, li_40, lm_1, lm_2, lm_3, lm_4, zs_ap, i32_add, i32_sub, i32_mul, i32_neg, i32_lt, i32_le, i32_eq, i32_nat, ckn, pka_r, pka_v, if_pos, if_neg, if_true, if_false]
    · have c2 : best ≠ -1 := by omega
      have c3 : sum ≤ a := by omega
      rcases hw with hw | hw
      · simp (disch := omega) only [k_X11_pledge_0, k_X11_pledge_9, k_X11_pledge_12, k_X11_pledge_19, k_X11_pledge_22, k_X11_pledge_25, k_X11_pledge_39, k_X11_pledge_44, k_X11_pledge_51, k_X11_pledge_56, k_X11_pledge_60, k_X11_pledge_71, k_X11_pledge_81, k_X11_pledge_84, k_X11_pledge_87, k_X11_pledge_97, k_X11_pledge_114, k_X11_pledge_117, k_X11_pledge_124, k_X11_pledge_130, k_X11_pledge_133, k_X11_pledge_143, k_X11_pledge_149, k_X11_pledge_154, k_X11_pledge_158, k_X11_pledge_162, k_X11_pledge_166, k_X11_pledge_170, li_0, li_1, li_2, li_3, li_4, li_5, li_6, li_9, li_10, li_40, lm_1, lm_2, lm_3, lm_4, zs_ap, i32_add, i32_sub, i32_mul, i32_neg, i32_lt, i32_le, i32_eq, i32_nat, ckn, pka_r, pka_v, if_pos, if_neg, if_true, if_false]
      · simp (disch := omega) only [k_X11_pledge_0, k_X11_pledge_9, k_X11_pledge_12, k_X11_pledge_19, k_X11_pledge_22, k_X11_pledge_25, k_X11_pledge_39, k_X11_pledge_44, k_X11_pledge_51, k_X11_pledge_56, k_X11_pledge_60, k_X11_pledge_71, k_X11_pledge_81, k_X11_pledge_84, k_X11_pledge_87, k_X11_pledge_97, k_X11_pledge_114, k_X11_pledge_117, k_X11_pledge_124, k_X11_pledge_130, k_X11_pledge_133, k_X11_pledge_143, k_X11_pledge_149, k_X11_pledge_154, k_X11_pledge_158, k_X11_pledge_162, k_X11_pledge_166, k_X11_pledge_170, li_0, li_1, li_2, li_3, li_4, li_5, li_6, li_9, li_10, li_40, lm_1, lm_2, lm_3, lm_4, zs_ap, i32_add, i32_sub, i32_mul, i32_neg, i32_lt, i32_le, i32_eq, i32_nat, ckn, pka_r, pka_v, if_pos, if_neg, if_true, if_false]
  intro n
  induction n with
  | zero =>
    intro a best sum J o6 o7 o8 hn ha hP
    exact fin a best sum J o6 o7 o8 ha hP (by omega)
  | succ n ih =>
    intro a best sum J o6 o7 o8 hn ha hP
    by_cases he : most < a ∨ (best ≠ -1 ∧ sum ≤ a)
    · exact fin a best sum J o6 o7 o8 ha hP he
    · obtain ⟨b1, b2⟩ := bnd ha hP
      have hc : best = -1 ∨ (a : Int) < sum := by omega
      obtain ⟨hi, s1, s2, s3, s4⟩ := PLi_step h.1.1 (show a ≤ most by omega) hP hc
      obtain ⟨J1, g1, g2⟩ := g_holdsWith (d := d) (J := J) (p0 := p0) (p1 := p1) (p2 := p2) (p3 := p3) (p4 := p4) (p5 := p5) (p6 := p6) (p7 := p7) h (a := a) (c := hi) (by omega) (by omega)
      have e1 : den none (Mean (d + 10)) (some .int) tQ_X11_pledge (33, [some (.ref 140), some (.int (i32 (most : Int))), some (.int (i32 w)), some (.int (i32 best)), some (.int (i32 sum)), some (.int (i32 (a : Int))), o6, o7, o8], [], 176, zs Z, J, RP p0 p1 p2 p3 p4 p5 p6 p7) = den none (Mean (d + 10)) (some .int) tQ_X11_pledge (81, [some (.ref 140), some (.int (i32 (most : Int))), some (.int (i32 w)), some (.int (i32 best)), some (.int (i32 sum)), some (.int (i32 (a : Int))), some (.int (i32 (hi : Int))), o7, o8], [.int (i32 (bB (pPl m a hi)))], 176, zs Z, J1, RP p0 p1 p2 p3 p4 p5 p6 p7) := by
        rw [k_X11_pledge_33]
        by_cases c2 : best = -1
        · rw [if_pos c2] at s1
          rw [s1] at g2 ⊢
          simp (disch := omega) only [k_X11_pledge_0, k_X11_pledge_9, k_X11_pledge_12, k_X11_pledge_19, k_X11_pledge_22, k_X11_pledge_25, k_X11_pledge_39, k_X11_pledge_44, k_X11_pledge_51, k_X11_pledge_56, k_X11_pledge_60, k_X11_pledge_71, k_X11_pledge_84, k_X11_pledge_87, k_X11_pledge_97, k_X11_pledge_114, k_X11_pledge_117, k_X11_pledge_124, k_X11_pledge_130, k_X11_pledge_133, k_X11_pledge_143, k_X11_pledge_149, k_X11_pledge_154, k_X11_pledge_158, k_X11_pledge_162, k_X11_pledge_166, k_X11_pledge_170, li_0, li_1, li_2, li_3, li_4, li_5, li_6, li_9, li_10, li_40, lm_1, lm_2, lm_3, lm_4, zs_ap, i32_add, i32_sub, i32_mul, i32_neg, i32_lt, i32_le, i32_eq, i32_nat, ckn, pka_r, pka_v, if_pos, if_neg, if_true, if_false, g2]
        · rw [if_neg c2] at s1
          by_cases c3 : sum - a - 1 < most
          · rw [if_pos c3] at s1
            rw [s1] at g2 ⊢
            simp (disch := omega) only [k_X11_pledge_0, k_X11_pledge_9, k_X11_pledge_12, k_X11_pledge_19, k_X11_pledge_22, k_X11_pledge_25, k_X11_pledge_39, k_X11_pledge_44, k_X11_pledge_51, k_X11_pledge_56, k_X11_pledge_60, k_X11_pledge_71, k_X11_pledge_84, k_X11_pledge_87, k_X11_pledge_97, k_X11_pledge_114, k_X11_pledge_117, k_X11_pledge_124, k_X11_pledge_130, k_X11_pledge_133, k_X11_pledge_143, k_X11_pledge_149, k_X11_pledge_154, k_X11_pledge_158, k_X11_pledge_162, k_X11_pledge_166, k_X11_pledge_170, li_0, li_1, li_2, li_3, li_4, li_5, li_6, li_9, li_10, li_40, lm_1, lm_2, lm_3, lm_4, zs_ap, i32_add, i32_sub, i32_mul, i32_neg, i32_lt, i32_le, i32_eq, i32_nat, ckn, pka_r, pka_v, if_pos, if_neg, if_true, if_false, g2]
          · rw [if_neg c3] at s1
            rw [s1] at g2 ⊢
            simp (disch := omega) only [k_X11_pledge_0, k_X11_pledge_9, k_X11_pledge_12, k_X11_pledge_19, k_X11_pledge_22, k_X11_pledge_25, k_X11_pledge_39, k_X11_pledge_44, k_X11_pledge_51, k_X11_pledge_56, k_X11_pledge_60, k_X11_pledge_71, k_X11_pledge_84, k_X11_pledge_87, k_X11_pledge_97, k_X11_pledge_114, k_X11_pledge_117, k_X11_pledge_124, k_X11_pledge_130, k_X11_pledge_133, k_X11_pledge_143, k_X11_pledge_149, k_X11_pledge_154, k_X11_pledge_158, k_X11_pledge_162, k_X11_pledge_166, k_X11_pledge_170, li_0, li_1, li_2, li_3, li_4, li_5, li_6, li_9, li_10, li_40, lm_1, lm_2, lm_3, lm_4, zs_ap, i32_add, i32_sub, i32_mul, i32_neg, i32_lt, i32_le, i32_eq, i32_nat, ckn, pka_r, pka_v, if_pos, if_neg, if_true, if_false, g2]
      rw [e1]
      cases cp : pPl m a hi
      · obtain ⟨J2, y0, y1, q1, q2, q3⟩ := ih (a + 1) best sum J1 (some (.int (i32 (hi : Int)))) o7 o8 (by omega) (by omega) (s3 cp)
        refine ⟨J2, y0, y1, fun a ha hb => (q1 a ha hb).trans (g1 a ha hb), q2, ?_⟩
        simp (disch := omega) only [k_X11_pledge_0, k_X11_pledge_9, k_X11_pledge_12, k_X11_pledge_19, k_X11_pledge_22, k_X11_pledge_25, k_X11_pledge_39, k_X11_pledge_44, k_X11_pledge_51, k_X11_pledge_56, k_X11_pledge_60, k_X11_pledge_71, k_X11_pledge_81, k_X11_pledge_84, k_X11_pledge_87, k_X11_pledge_97, k_X11_pledge_114, k_X11_pledge_117, k_X11_pledge_124, k_X11_pledge_130, k_X11_pledge_133, k_X11_pledge_143, k_X11_pledge_149, k_X11_pledge_154, k_X11_pledge_158, k_X11_pledge_162, k_X11_pledge_166, k_X11_pledge_170, li_0, li_1, li_2, li_3, li_4, li_5, li_6, li_9, li_10, li_40, lm_1, lm_2, lm_3, lm_4, zs_ap, i32_add, i32_sub, i32_mul, i32_neg, i32_lt, i32_le, i32_eq, i32_nat, ckn, pka_r, pka_v, if_pos, if_neg, if_true, if_false, bBf]
        exact q3
      · have s5 := s4 cp
        have s6 : PLi m most (a + 1) a ((a + bs (pPl m a) 60 0 hi : Nat) : Int) := by
          rcases s5 with s5 | s5
          · exact s5
          · omega
        obtain ⟨J2, o8', l1, l2⟩ := pl_loop (d := d) (p0 := p0) (p1 := p1) (p2 := p2) (p3 := p3) (p4 := p4) (p5 := p5) (p6 := p6) (p7 := p7) (one := 0) (most := most) (best := best) (sum := sum) h (a := a) (by omega) (i32 (most : Int)) (i32 w) 60 0 hi J1 o8 (by omega) (by omega) (by omega)
        obtain ⟨J3, y0, y1, q1, q2, q3⟩ := ih (a + 1) a ((a + bs (pPl m a) 60 0 hi : Nat) : Int) J2 (some (.int (i32 ((bs (pPl m a) 60 0 hi : Nat) : Int)))) (some (.int (i32 ((bs (pPl m a) 60 0 hi : Nat) : Int)))) o8' (by omega) (by omega) s6
        refine ⟨J3, y0, y1, fun a ha hb => (q1 a ha hb).trans ((l1 a ha hb).trans (g1 a ha hb)), q2, ?_⟩
        simp (disch := omega) only [k_X11_pledge_0, k_X11_pledge_9, k_X11_pledge_12, k_X11_pledge_19, k_X11_pledge_22, k_X11_pledge_25, k_X11_pledge_39, k_X11_pledge_44, k_X11_pledge_51, k_X11_pledge_56, k_X11_pledge_60, k_X11_pledge_71, k_X11_pledge_81, k_X11_pledge_84, k_X11_pledge_87, k_X11_pledge_97, k_X11_pledge_114, k_X11_pledge_117, k_X11_pledge_124, k_X11_pledge_130, k_X11_pledge_133, k_X11_pledge_143, k_X11_pledge_149, k_X11_pledge_154, k_X11_pledge_158, k_X11_pledge_162, k_X11_pledge_166, k_X11_pledge_170, li_0, li_1, li_2, li_3, li_4, li_5, li_6, li_9, li_10, li_40, lm_1, lm_2, lm_3, lm_4, zs_ap, i32_add, i32_sub, i32_mul, i32_neg, i32_lt, i32_le, i32_eq, i32_nat, ckn, pka_r, pka_v, if_pos, if_neg, if_true, if_false, bBt]
        refine Eq.trans l2 ?_
        simp (disch := omega) only [k_X11_pledge_0, k_X11_pledge_9, k_X11_pledge_12, k_X11_pledge_19, k_X11_pledge_22, k_X11_pledge_25, k_X11_pledge_39, k_X11_pledge_44, k_X11_pledge_51, k_X11_pledge_56, k_X11_pledge_60, k_X11_pledge_71, k_X11_pledge_81, k_X11_pledge_84, k_X11_pledge_87, k_X11_pledge_97, k_X11_pledge_114, k_X11_pledge_117, k_X11_pledge_124, k_X11_pledge_130, k_X11_pledge_133, k_X11_pledge_143, k_X11_pledge_149, k_X11_pledge_154, k_X11_pledge_158, k_X11_pledge_162, k_X11_pledge_166, k_X11_pledge_170, li_0, li_1, li_2, li_3, li_4, li_5, li_6, li_9, li_10, li_40, lm_1, lm_2, lm_3, lm_4, zs_ap, i32_add, i32_sub, i32_mul, i32_neg, i32_lt, i32_le, i32_eq, i32_nat, ckn, pka_r, pka_v, if_pos, if_neg, if_true, if_false]
        exact q3
def aPledge (m : Mat) (most w r : Int) : Prop := if (0 ≤ most ∧ most ≤ 60) ∧ (0 ≤ w ∧ w ≤ 1) then ∃ y0 y1 : Int, PLs m most.toNat y0 y1 ∧ r = (if w = 0 then y0 else y1) else r = -2
theorem aPledge_u {most w r r' : Int} (h1 : aPledge m most w r) (h2 : aPledge m most w r') : r = r' := by
  unfold aPledge at h1 h2
  split at h1
  · rename_i c
    rw [if_pos c] at h2
    obtain ⟨y0, y1, a1, a2⟩ := h1
    obtain ⟨z0, z1, b1, b2⟩ := h2
    obtain ⟨e1, e2⟩ := PLs_u a1 b1
    rw [a2, b2, e1, e2]
  · rename_i c
    rw [if_neg c] at h2
    rw [h1, h2]
theorem g_pledge (h : MB m Z) {most w : Int} (h1 : -2147483648 ≤ most ∧ most < 2147483648) (h2 : -2147483648 ≤ w ∧ w < 2147483648) : ∃ (J' : Nat → Nat → Int64) (r : Int), (∀ a : Nat, a ≠ 162 → a ≠ 163 → J' a = J a) ∧ aPledge m most w r ∧ Mean (d + 11) 215 [.ref 140, .int (i32 most), .int (i32 w)] (176, zs Z, J, RP p0 p1 p2 p3 p4 p5 p6 p7) = some (some (.int (i32 r)), (176, zs Z, J', RP p0 p1 p2 p3 p4 p5 p6 p7)) := by
  unfold aPledge
  by_cases c1 : 0 ≤ most ∧ most ≤ 60
  · by_cases c2 : 0 ≤ w ∧ w ≤ 1
    · obtain ⟨n, rfl⟩ : ∃ n : Nat, most = n := ⟨most.toNat, by omega⟩
      obtain ⟨J', y0, y1, q1, q2, q3⟩ := pl_out (d := d) (p0 := p0) (p1 := p1) (p2 := p2) (p3 := p3) (p4 := p4) (p5 := p5) (p6 := p6) (p7 := p7) h (most := n) (by omega) (w := w) (by omega) (n + 1) 0 (-1) 0 J none none none (by omega) (by omega) (Or.inl ⟨rfl, rfl, fun a' _ q => absurd q (by omega)⟩)
      refine ⟨J', if w = 0 then y0 else y1, q1, ?_, ?_⟩
      · rw [if_pos ⟨c1, c2⟩]
        exact ⟨y0, y1, q2, rfl⟩
      · rw [e_X11_pledge]
        simp (disch := omega) only [k_X11_pledge_0, k_X11_pledge_9, k_X11_pledge_12, k_X11_pledge_19, k_X11_pledge_22, k_X11_pledge_25, k_X11_pledge_39, k_X11_pledge_44, k_X11_pledge_51, k_X11_pledge_56, k_X11_pledge_60, k_X11_pledge_71, k_X11_pledge_81, k_X11_pledge_84, k_X11_pledge_87, k_X11_pledge_97, k_X11_pledge_114, k_X11_pledge_117, k_X11_pledge_124, k_X11_pledge_130, k_X11_pledge_133, k_X11_pledge_143, k_X11_pledge_149, k_X11_pledge_154, k_X11_pledge_158, k_X11_pledge_162, k_X11_pledge_166, k_X11_pledge_170, li_0, li_1, li_2, li_3, li_4, li_5, li_6, li_9, li_10, li_40, lm_1, lm_2, lm_3, lm_4, zs_ap, i32_add, i32_sub, i32_mul, i32_neg, i32_lt, i32_le, i32_eq, i32_nat, ckn, pka_r, pka_v, if_pos, if_neg, if_true, if_false, i32_to64, lj_0, lj_1, lj_60, s_inZ, bI_t, bI_f]
        exact q3
    · refine ⟨J, -2, fun _ _ _ => rfl, by rw [if_neg (fun q => c2 q.2)], ?_⟩
      rw [e_X11_pledge]
      simp (disch := omega) only [k_X11_pledge_0, k_X11_pledge_9, k_X11_pledge_12, k_X11_pledge_19, k_X11_pledge_22, k_X11_pledge_25, k_X11_pledge_39, k_X11_pledge_44, k_X11_pledge_51, k_X11_pledge_56, k_X11_pledge_60, k_X11_pledge_71, k_X11_pledge_81, k_X11_pledge_84, k_X11_pledge_87, k_X11_pledge_97, k_X11_pledge_114, k_X11_pledge_117, k_X11_pledge_124, k_X11_pledge_130, k_X11_pledge_133, k_X11_pledge_143, k_X11_pledge_149, k_X11_pledge_154, k_X11_pledge_158, k_X11_pledge_162, k_X11_pledge_166, k_X11_pledge_170, li_0, li_1, li_2, li_3, li_4, li_5, li_6, li_9, li_10, li_40, lm_1, lm_2, lm_3, lm_4, zs_ap, i32_add, i32_sub, i32_mul, i32_neg, i32_lt, i32_le, i32_eq, i32_nat, ckn, pka_r, pka_v, if_pos, if_neg, if_true, if_false, i32_to64, lj_0, lj_1, lj_60, s_inZ, bI_t, bI_f]
  · refine ⟨J, -2, fun _ _ _ => rfl, by rw [if_neg (fun q => c1 q.1)], ?_⟩
    rw [e_X11_pledge]
    simp (disch := omega) only [k_X11_pledge_0, k_X11_pledge_9, k_X11_pledge_12, k_X11_pledge_19, k_X11_pledge_22, k_X11_pledge_25, k_X11_pledge_39, k_X11_pledge_44, k_X11_pledge_51, k_X11_pledge_56, k_X11_pledge_60, k_X11_pledge_71, k_X11_pledge_81, k_X11_pledge_84, k_X11_pledge_87, k_X11_pledge_97, k_X11_pledge_114, k_X11_pledge_117, k_X11_pledge_124, k_X11_pledge_130, k_X11_pledge_133, k_X11_pledge_143, k_X11_pledge_149, k_X11_pledge_154, k_X11_pledge_158, k_X11_pledge_162, k_X11_pledge_166, k_X11_pledge_170, li_0, li_1, li_2, li_3, li_4, li_5, li_6, li_9, li_10, li_40, lm_1, lm_2, lm_3, lm_4, zs_ap, i32_add, i32_sub, i32_mul, i32_neg, i32_lt, i32_le, i32_eq, i32_nat, ckn, pka_r, pka_v, if_pos, if_neg, if_true, if_false, i32_to64, lj_0, lj_1, lj_60, s_inZ, bI_t, bI_f]
end
