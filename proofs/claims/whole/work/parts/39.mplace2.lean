/-! THE MODEL'S place(), the states themselves -/
def mHas (m : Nat → Int) (s : Int) (k : Nat) : Int := s.tdiv (mPl m k) - (s.tdiv (mPl m k)).tdiv (m k + 1) * (m k + 1)
def gTerm (Z : Nat → Nat → Int) (hv : Nat → Int) (i : Int) (k : Nat) : Int := (Z 145 (3 * (k : Int) + i).toNat * hv k).tdiv (Z 143 k)
def gSum (Z : Nat → Nat → Int) (hv : Nat → Int) (i : Int) : Nat → Int
  | 0 => 0
  | n + 1 => gSum Z hv i n + gTerm Z hv i n
theorem mSum_g {Z Z0 : Nat → Nat → Int} {hv : Nat → Int} {s i : Int} (h1 : Z 145 = Z0 145) (h2 : Z 143 = Z0 143) : ∀ n : Nat, (∀ k : Nat, k < n → Z 159 (6 * s + (k : Int)).toNat = hv k) → mSum Z s s i n = gSum Z0 hv i n
  | 0, _ => rfl
  | n + 1, h => by
    have hn : (n : Int).toNat = n := by omega
    simp only [mSum, gSum, mSum_g h1 h2 n (fun k hk => h k (by omega)), mTerm, gTerm, ite_self, h1, h2, hn, h n (by omega)]
theorem mHas_b {m : Nat → Int} {s : Int} {k : Nat} (hs : 0 ≤ s) (hp : 1 ≤ mPl m k) (hm : 1 ≤ m k ∧ m k ≤ 9) : 0 ≤ mHas m s k ∧ mHas m s k ≤ 9 := by
  unfold mHas
  have h1 : 0 ≤ s.tdiv (mPl m k) := Int.tdiv_nonneg hs (by omega)
  have h2 := Int.tmod_def (s.tdiv (mPl m k)) (m k + 1)
  have h3 := Int.tmod_nonneg (m k + 1) h1
  have h4 := Int.tmod_lt_of_pos (s.tdiv (mPl m k)) (show 0 < m k + 1 by omega)
  rw [Int.mul_comm] at h2
  omega
section
variable (d : Nat) (C : pC) (J : Nat → Nat → Int64) (p0 p1 p2 p3 p4 p5 p6 p7 : Nat)
/-- one state's parts -/
theorem l_place3 {Z0 : Nat → Nat → Int} {P : Nat} (h : mLay Z0 P) (hpl : ∀ q : Nat, q ≤ P → Z0 158 q = mPl (Z0 143) q) {s : Nat} (hs : s < 400) : ∀ (j k : Nat) (Z : Nat → Nat → Int), k + j = P → (∀ a, a ≠ 159 → Z a = Z0 a) → (∀ q : Nat, q < k → Z 159 (6 * s + q) = mHas (Z0 143) s q) → (∀ q : Nat, (q < 6 * s ∨ 6 * s + P ≤ q) → Z 159 q = Z0 159 q) →
    ∃ Z' : Nat → Nat → Int, (∀ a, a ≠ 159 → Z' a = Z0 a) ∧ (∀ q : Nat, q < P → Z' 159 (6 * s + q) = mHas (Z0 143) s q) ∧ (∀ q : Nat, (q < 6 * s ∨ 6 * s + P ≤ q) → Z' 159 q = Z0 159 q) ∧ den none C none tQ_X11_place (141, [some (.ref 140), some (.int (i32 (s : Int))), some (.int (i32 (k : Int)))], [], 176, zs Z, J, RP p0 p1 p2 p3 p4 p5 p6 p7) = den none C none tQ_X11_place (183, [some (.ref 140), some (.int (i32 (s : Int))), some (.int (i32 (P : Int)))], [], 176, zs Z', J, RP p0 p1 p2 p3 p4 p5 p6 p7) := by
  intro j
  induction j with
  | zero =>
    intro k Z hk hf hi ho
    have hk' : k = P := by omega
    subst hk'
    have h1 : Z 140 11 = k := by rw [hf 140 (by decide)]; exact h.1
    have h2 := h.2.1
    refine ⟨Z, hf, hi, ho, ?_⟩
    rw [k_X11_place_141]
    simp (disch := omega) only [zs_ap, h1, i32_le]
    rw [if_pos (Int.le_refl _)]
  | succ j ih =>
    intro k Z hk hf hi ho
    have hkP : k < P := by omega
    have h1 : Z 140 11 = P := by rw [hf 140 (by decide)]; exact h.1
    have h2 := h.2.1
    have h3 := (h.2.2.1 k hkP).1
    have h4 := h.2.2.2 k (by omega)
    have e143 : Z 143 k = Z0 143 k := by rw [hf 143 (by decide)]
    have e158 : Z 158 k = mPl (Z0 143) k := by rw [hf 158 (by decide)]; exact hpl k (by omega)
    have hkk : (k : Int).toNat = k := by omega
    have hsk : (6 * (s : Int) + (k : Int)).toNat = 6 * s + k := by omega
    have hd : 0 ≤ (s : Int).tdiv (mPl (Z0 143) k) := Int.tdiv_nonneg (by omega) (by omega)
    have hd2 : (s : Int).tdiv (mPl (Z0 143) k) ≤ s := Int.tdiv_le_self _ (by omega)
    obtain ⟨Z', g1, g2, g3, g4⟩ := ih (k + 1) (u2 Z 159 (6 * s + k) (mHas (Z0 143) s k)) (by omega) (fun a ha => by rw [u2_ne ha]; exact hf a ha) (fun q hq => by
      by_cases hqk : q = k
      · subst hqk
        rw [u2s]
      · rw [u2f (by omega)]
        exact hi q (by omega)) (fun q hq => by
      rw [u2f (by omega)]
      exact ho q hq)
    refine ⟨Z', g1, g2, g3, ?_⟩
    rw [k_X11_place_141]
    simp (disch := omega) only [zs_ap, h1, i32_le]
    rw [if_neg (by omega), k_X11_place_149]
    simp (disch := omega) only [li_0, li_1, li_2, li_3, li_4, li_5, li_6, li_9, li_10, li_40, lm_1, lm_2, lm_3, lm_4, zs_ap, i32_add, i32_sub, i32_mul, i32_neg, i32_lt, i32_eq, i32_nat, ckn, hkk, hsk, e143, e158, k_X11_place_166, i32_div, k_X11_place_167, k_X11_place_173, k_X11_place_176, zs_u2, k_X11_place_177]
    exact g4
/-- one state's stops -/
theorem l_place4 {Z0 : Nat → Nat → Int} {P S : Nat} (h : mOK Z0 P) (hS : Z0 140 10 = S) {s : Nat} (hs : s < 400) {hv : Nat → Int} (hhv : ∀ q : Nat, q < P → Z0 159 (6 * s + q) = hv q) : ∀ (j k : Nat) (Z : Nat → Nat → Int), k + j = S → (∀ a, a ≠ 160 → Z a = Z0 a) → (∀ q : Nat, q < k → Z 160 (3 * s + q) = gSum Z0 hv q P) → (∀ q : Nat, (q < 3 * s ∨ 3 * s + S ≤ q) → Z 160 q = Z0 160 q) →
    ∃ Z' : Nat → Nat → Int, (∀ a, a ≠ 160 → Z' a = Z0 a) ∧ (∀ q : Nat, q < S → Z' 160 (3 * s + q) = gSum Z0 hv q P) ∧ (∀ q : Nat, (q < 3 * s ∨ 3 * s + S ≤ q) → Z' 160 q = Z0 160 q) ∧ den none (Mean (d + 1)) none tQ_X11_place (185, [some (.ref 140), some (.int (i32 (s : Int))), some (.int (i32 (k : Int)))], [], 176, zs Z, J, RP p0 p1 p2 p3 p4 p5 p6 p7) = den none (Mean (d + 1)) none tQ_X11_place (216, [some (.ref 140), some (.int (i32 (s : Int))), some (.int (i32 (S : Int)))], [], 176, zs Z', J, RP p0 p1 p2 p3 p4 p5 p6 p7) := by
  have hS3 := h.2.2.1
  intro j
  induction j with
  | zero =>
    intro k Z hk hf hi ho
    have hk' : k = S := by omega
    subst hk'
    have h1 : Z 140 10 = k := by rw [hf 140 (by decide)]; exact hS
    refine ⟨Z, hf, hi, ho, ?_⟩
    rw [k_X11_place_185]
    simp (disch := omega) only [zs_ap, h1, i32_le]
    rw [if_pos (Int.le_refl _)]
  | succ j ih =>
    intro k Z hk hf hi ho
    have hkS : k < S := by omega
    have h1 : Z 140 10 = S := by rw [hf 140 (by decide)]; exact hS
    have hok : mOK Z P := by
      obtain ⟨a1, a2, a3, a4, a5, a6, a7⟩ := h
      unfold mOK
      rw [hf 140 (by decide), hf 145 (by decide), hf 159 (by decide), hf 142 (by decide), hf 143 (by decide)]
      exact ⟨a1, a2, a3, a4, a5, a6, a7⟩
    have hsk : (3 * (s : Int) + (k : Int)).toNat = 3 * s + k := by omega
    have hsum : mSum Z s s k P = gSum Z0 hv k P := mSum_g (hf 145 (by decide)) (hf 143 (by decide)) P (fun q hq => by
      rw [hf 159 (by decide), show (6 * (s : Int) + (q : Int)).toNat = 6 * s + q by omega]
      exact hhv q hq)
    obtain ⟨Z', g1, g2, g3, g4⟩ := ih (k + 1) (u2 Z 160 (3 * s + k) (gSum Z0 hv k P)) (by omega) (fun a ha => by rw [u2_ne ha]; exact hf a ha) (fun q hq => by
      by_cases hqk : q = k
      · subst hqk
        rw [u2s]
      · rw [u2f (by omega)]
        exact hi q (by omega)) (fun q hq => by
      rw [u2f (by omega)]
      exact ho q hq)
    refine ⟨Z', g1, g2, g3, ?_⟩
    rw [k_X11_place_185]
    simp (disch := omega) only [zs_ap, h1, i32_le]
    rw [if_neg (by omega), k_X11_place_193]
    simp (disch := omega) only [s_stopBy _ _ _ _ _ _ _ _ _ _ _ hok, hsum, pka_r, li_0, li_1, li_2, li_3, li_4, li_5, li_6, li_9, li_10, li_40, lm_1, lm_2, lm_3, lm_4, zs_ap, i32_add, i32_sub, i32_mul, i32_neg, k_X11_place_209, i32_lt, i32_nat, ckn, hsk, zs_u2, k_X11_place_210]
    exact g4
/-- all states -/
theorem l_place5 {Z0 : Nat → Nat → Int} {P S N : Nat} (h : mLay Z0 P) (hok : mOK Z0 P) (hS : Z0 140 10 = S) (hpl : ∀ q : Nat, q ≤ P → Z0 158 q = mPl (Z0 143) q) (hN : Z0 140 49 = N) (hN4 : N ≤ 400) : ∀ (j s : Nat) (o2 : Option Value) (Z : Nat → Nat → Int), s + j = N → (∀ a, a ≠ 159 → a ≠ 160 → Z a = Z0 a) → (∀ q : Nat, q < 2400 → 0 ≤ Z 159 q ∧ Z 159 q ≤ 9) → (∀ q : Nat, q < 1200 → -200000 ≤ Z 160 q ∧ Z 160 q ≤ 200000) → (∀ t : Nat, t < s → ∀ q : Nat, q < P → Z 159 (6 * t + q) = mHas (Z0 143) t q) → (∀ t : Nat, t < s → ∀ q : Nat, q < S → Z 160 (3 * t + q) = gSum Z0 (mHas (Z0 143) t) q P) →
    ∃ Z' : Nat → Nat → Int, (∀ a, a ≠ 159 → a ≠ 160 → Z' a = Z0 a) ∧ (∀ q : Nat, q < 2400 → 0 ≤ Z' 159 q ∧ Z' 159 q ≤ 9) ∧ (∀ q : Nat, q < 1200 → -200000 ≤ Z' 160 q ∧ Z' 160 q ≤ 200000) ∧ (∀ t : Nat, t < N → ∀ q : Nat, q < P → Z' 159 (6 * t + q) = mHas (Z0 143) t q) ∧ (∀ t : Nat, t < N → ∀ q : Nat, q < S → Z' 160 (3 * t + q) = gSum Z0 (mHas (Z0 143) t) q P) ∧ den none (Mean (d + 1)) none tQ_X11_place (131, [some (.ref 140), some (.int (i32 (s : Int))), o2], [], 176, zs Z, J, RP p0 p1 p2 p3 p4 p5 p6 p7) = some (none, (176, zs Z', J, RP p0 p1 p2 p3 p4 p5 p6 p7)) := by
  have hP6 := h.2.1
  have hS3 := hok.2.2.1
  intro j
  induction j with
  | zero =>
    intro s o2 Z hk hf hr hb hi ho
    have hk' : s = N := by omega
    subst hk'
    have h1 : Z 140 49 = s := by rw [hf 140 (by decide) (by decide)]; exact hN
    refine ⟨Z, hf, hr, hb, hi, ho, ?_⟩
    rw [k_X11_place_131]
    simp (disch := omega) only [zs_ap, h1, i32_le]
    rw [if_pos (Int.le_refl _), k_X11_place_222]
  | succ j ih =>
    intro s o2 Z hk hf hr hb hi ho
    have h1 : Z 140 49 = N := by rw [hf 140 (by decide) (by decide)]; exact hN
    have hlay : mLay Z P := by
      obtain ⟨a1, a2, a3, a4⟩ := h
      unfold mLay
      rw [hf 140 (by decide) (by decide), hf 143 (by decide) (by decide), hf 144 (by decide) (by decide)]
      exact ⟨a1, a2, a3, a4⟩
    have e143 : Z 143 = Z0 143 := hf 143 (by decide) (by decide)
    obtain ⟨Z1, a1, a2, a3, a4⟩ := l_place3 (Mean (d + 1)) J p0 p1 p2 p3 p4 p5 p6 p7 hlay (fun q hq => by rw [hf 158 (by decide) (by decide), e143]; exact hpl q hq) (s := s) (by omega) P 0 Z (by omega) (fun _ _ => rfl) (fun q hq => by omega) (fun _ _ => rfl)
    rw [e143] at a2
    have hr1 : ∀ q : Nat, q < 2400 → 0 ≤ Z1 159 q ∧ Z1 159 q ≤ 9 := fun q hq => by
      by_cases hin : q < 6 * s ∨ 6 * s + P ≤ q
      · rw [a3 q hin]; exact hr q hq
      · have e : q = 6 * s + (q - 6 * s) := by omega
        rw [e, a2 (q - 6 * s) (by omega)]
        exact mHas_b (by omega) (h.2.2.2 _ (by omega)).1 (h.2.2.1 _ (by omega)).1
    have hok1 : mOK Z1 P := by
      obtain ⟨b1, b2, b3, b4, b5, b6, b7⟩ := hok
      unfold mOK
      rw [a1 140 (by decide), a1 145 (by decide), a1 142 (by decide), a1 143 (by decide), hf 140 (by decide) (by decide), hf 145 (by decide) (by decide), hf 142 (by decide) (by decide), e143]
      exact ⟨b1, b2, b3, b4, hr1, b6, b7⟩
    obtain ⟨Z2, c1, c2, c3, c4⟩ := l_place4 d J p0 p1 p2 p3 p4 p5 p6 p7 (S := S) hok1 (by rw [a1 140 (by decide), hf 140 (by decide) (by decide)]; exact hS) (s := s) (by omega) (hv := mHas (Z0 143) s) a2 S 0 Z1 (by omega) (fun _ _ => rfl) (fun q hq => by omega) (fun _ _ => rfl)
    have gs : ∀ q : Int, gSum Z1 (mHas (Z0 143) s) q P = gSum Z0 (mHas (Z0 143) s) q P := fun q => by
      have e1 : Z1 145 = Z0 145 := by rw [a1 145 (by decide), hf 145 (by decide) (by decide)]
      have e2 : Z1 143 = Z0 143 := by rw [a1 143 (by decide), e143]
      have : ∀ n : Nat, gSum Z1 (mHas (Z0 143) s) q n = gSum Z0 (mHas (Z0 143) s) q n := fun n => by
        induction n with
        | zero => rfl
        | succ n ih9 => simp only [gSum, gTerm, ih9, e1, e2]
      exact this P
    have hb2 : ∀ q : Nat, q < 1200 → -200000 ≤ Z2 160 q ∧ Z2 160 q ≤ 200000 := fun q hq => by
      by_cases hin : q < 3 * s ∨ 3 * s + S ≤ q
      · rw [c3 q hin, a1 160 (by decide)]
        exact hb q hq
      · have e : q = 3 * s + (q - 3 * s) := by omega
        rw [e, c2 (q - 3 * s) (by omega)]
        have e2 := mSum_g (Z := Z1) (Z0 := Z1) (hv := mHas (Z0 143) s) (s := s) (i := ((q - 3 * s : Nat) : Int)) rfl rfl P (fun k hk => by
          rw [show (6 * (s : Int) + (k : Int)).toNat = 6 * s + k by omega]
          exact a2 k hk)
        rw [← e2]
        have e3 := mSum_b Z1 hok1 (own := s) (oth := s) (i := ((q - 3 * s : Nat) : Int)) (by omega) (by omega) (by omega) P (Nat.le_refl P)
        omega
    obtain ⟨Z', g1, g2, g2b, g3, g4, g5⟩ := ih (s + 1) (some (.int (i32 (S : Int)))) Z2 (by omega) (fun a ha hb => by rw [c1 a hb, a1 a ha]; exact hf a ha hb) (fun q hq => by rw [c1 159 (by decide)]; exact hr1 q hq) hb2 (fun t ht q hq => by
      rw [c1 159 (by decide)]
      by_cases hts : t = s
      · subst hts
        exact a2 q hq
      · rw [a3 (6 * t + q) (by omega)]
        exact hi t (by omega) q hq) (fun t ht q hq => by
      by_cases hts : t = s
      · subst hts
        rw [c2 q hq]
        exact gs q
      · rw [c3 (3 * t + q) (by omega), a1 160 (by decide)]
        exact ho t (by omega) q hq)
    refine ⟨Z', g1, g2, g2b, g3, g4, ?_⟩
    rw [k_X11_place_131]
    simp (disch := omega) only [zs_ap, h1, i32_le]
    rw [if_neg (by omega), k_X11_place_139]
    simp only [li_0]
    rw [show (0 : Int) = ((0 : Nat) : Int) from rfl, a4, k_X11_place_183]
    simp only [li_0]
    rw [show (0 : Int) = ((0 : Nat) : Int) from rfl, c4, k_X11_place_216]
    simp only [li_1, i32_add]
    exact g5
end
