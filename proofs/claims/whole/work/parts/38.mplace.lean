/-! THE MODEL'S place(): the states' table -/
theorem u2a {α : Type} {g : Nat → Nat → α} {h k a b : Nat} {v : α} (ha : a ≠ h) : u2 g h k v a b = g a b := by simp [u2, ha]
theorem u2f {α : Type} {g : Nat → Nat → α} {h k b : Nat} {v : α} (hb : b ≠ k) : u2 g h k v h b = g h b := by simp [u2, hb]
theorem u2s {α : Type} {g : Nat → Nat → α} {h k : Nat} {v : α} : u2 g h k v h k = v := by simp [u2]
def mPl (m : Nat → Int) : Nat → Int
  | 0 => 1
  | n + 1 => mPl m n * (m n + 1)
def mDot (m q : Nat → Int) : Nat → Int
  | 0 => 0
  | n + 1 => mDot m q n + mPl m n * q n
/-- a matter that can be laid: parts from 1 to 9, at most 400 states, what is left within -/
def mLay (Z : Nat → Nat → Int) (P : Nat) : Prop := Z 140 11 = P ∧ P ≤ 6 ∧ (∀ k : Nat, k < P → (1 ≤ Z 143 k ∧ Z 143 k ≤ 9) ∧ (0 ≤ Z 144 k ∧ Z 144 k ≤ 9)) ∧ ∀ k : Nat, k ≤ P → 1 ≤ mPl (Z 143) k ∧ mPl (Z 143) k ≤ 400
theorem mDot_b {Z : Nat → Nat → Int} {P : Nat} (h : mLay Z P) {q : Nat → Int} (hq : ∀ k : Nat, k < P → 0 ≤ q k ∧ q k ≤ 9) : ∀ n : Nat, n ≤ P → 0 ≤ mDot (Z 143) q n ∧ mDot (Z 143) q n ≤ 3600 * n
  | 0, _ => by simp [mDot]
  | n + 1, hn => by
    have h1 := mDot_b h hq n (by omega)
    have h2 := h.2.2.2 n (by omega)
    have h3 := hq n (by omega)
    have h4 := mul_b (a := mPl (Z 143) n) (b := q n) (A := 400) (B := 9) (by omega) (by omega) h3.1 h3.2 (by omega)
    have h5 : 0 ≤ mPl (Z 143) n * q n := Int.mul_nonneg (by omega) h3.1
    simp only [mDot]
    omega
section
variable (C : pC) (J : Nat → Nat → Int64) (p0 p1 p2 p3 p4 p5 p6 p7 : Nat)
/-- the first loop: the places' weights -/
theorem l_place1 {Z0 : Nat → Nat → Int} {P : Nat} (h : mLay Z0 P) (o2 : Option Value) : ∀ (j k : Nat) (Z : Nat → Nat → Int), k + j = P → (∀ a, a ≠ 158 → Z a = Z0 a) → (∀ q : Nat, q ≤ k → Z 158 q = mPl (Z0 143) q) →
    ∃ Z' : Nat → Nat → Int, (∀ a, a ≠ 158 → Z' a = Z0 a) ∧ (∀ q : Nat, q ≤ P → Z' 158 q = mPl (Z0 143) q) ∧ den none C none tQ_X11_place (9, [some (.ref 140), some (.int (i32 (k : Int))), o2], [], 176, zs Z, J, RP p0 p1 p2 p3 p4 p5 p6 p7) = den none C none tQ_X11_place (46, [some (.ref 140), some (.int (i32 (P : Int))), o2], [], 176, zs Z', J, RP p0 p1 p2 p3 p4 p5 p6 p7) := by
  intro j
  induction j with
  | zero =>
    intro k Z hk hf hi
    have hk' : k = P := by omega
    subst hk'
    have h1 : Z 140 11 = k := by rw [hf 140 (by decide)]; exact h.1
    have h2 := h.2.1
    refine ⟨Z, hf, hi, ?_⟩
    rw [k_X11_place_9]
    simp (disch := omega) only [zs_ap, h1, i32_le]
    rw [if_pos (Int.le_refl _)]
  | succ j ih =>
    intro k Z hk hf hi
    have hkP : k < P := by omega
    have h1 : Z 140 11 = P := by rw [hf 140 (by decide)]; exact h.1
    have h2 := h.2.1
    have h3 := (h.2.2.1 k hkP).1
    have h4 := h.2.2.2 k (by omega)
    have h5 := h.2.2.2 (k + 1) (by omega)
    have e143 : Z 143 k = Z0 143 k := by rw [hf 143 (by decide)]
    have e158 := hi k (Nat.le_refl _)
    have hkk : (k : Int).toNat = k := by omega
    have hk1 : ((k : Int) + 1).toNat = k + 1 := by omega
    obtain ⟨Z', g1, g2, g3⟩ := ih (k + 1) (u2 Z 158 (k + 1) (mPl (Z0 143) k * (Z0 143 k + 1))) (by omega) (fun a ha => by rw [u2_ne ha]; exact hf a ha) (fun q hq => by
      by_cases hqk : q = k + 1
      · subst hqk
        rw [u2s]
        rfl
      · rw [u2f hqk]
        exact hi q (by omega))
    refine ⟨Z', g1, g2, ?_⟩
    rw [k_X11_place_9]
    simp (disch := omega) only [zs_ap, h1, i32_le]
    rw [if_neg (by omega), k_X11_place_17]
    simp (disch := omega) only [li_0, li_1, li_2, li_3, li_4, li_5, li_6, li_9, li_10, li_40, lm_1, lm_2, lm_3, lm_4, zs_ap, i32_add, i32_sub, i32_mul, i32_neg, i32_lt, i32_nat, ckn, hkk, hk1, e143, e158, k_X11_place_30, k_X11_place_36, zs_u2, k_X11_place_40]
    exact g3
/-- the second loop: where a matter begins, where it ends -/
theorem l_place2 {Z0 : Nat → Nat → Int} {P : Nat} (h : mLay Z0 P) (o2 : Option Value) : ∀ (j k : Nat) (Z : Nat → Nat → Int), k + j = P → (∀ a, a ≠ 158 → a ≠ 140 → Z a = Z0 a) → (∀ b, b ≠ 49 → b ≠ 50 → b ≠ 51 → Z 140 b = Z0 140 b) → (∀ q : Nat, q ≤ P → Z 158 q = mPl (Z0 143) q) → Z 140 49 = mPl (Z0 143) P → Z 140 50 = mDot (Z0 143) (Z0 143) k → Z 140 51 = mDot (Z0 143) (Z0 144) k →
    ∃ Z' : Nat → Nat → Int, (∀ a, a ≠ 158 → a ≠ 140 → Z' a = Z0 a) ∧ (∀ b, b ≠ 49 → b ≠ 50 → b ≠ 51 → Z' 140 b = Z0 140 b) ∧ (∀ q : Nat, q ≤ P → Z' 158 q = mPl (Z0 143) q) ∧ Z' 140 49 = mPl (Z0 143) P ∧ Z' 140 50 = mDot (Z0 143) (Z0 143) P ∧ Z' 140 51 = mDot (Z0 143) (Z0 144) P ∧ den none C none tQ_X11_place (71, [some (.ref 140), some (.int (i32 (k : Int))), o2], [], 176, zs Z, J, RP p0 p1 p2 p3 p4 p5 p6 p7) = den none C none tQ_X11_place (129, [some (.ref 140), some (.int (i32 (P : Int))), o2], [], 176, zs Z', J, RP p0 p1 p2 p3 p4 p5 p6 p7) := by
  intro j
  induction j with
  | zero =>
    intro k Z hk hf hf2 hi h49 h50 h51
    have hk' : k = P := by omega
    subst hk'
    have h1 : Z 140 11 = k := by rw [hf2 11 (by decide) (by decide) (by decide)]; exact h.1
    have h2 := h.2.1
    refine ⟨Z, hf, hf2, hi, h49, h50, h51, ?_⟩
    rw [k_X11_place_71]
    simp (disch := omega) only [zs_ap, h1, i32_le]
    rw [if_pos (Int.le_refl _)]
  | succ j ih =>
    intro k Z hk hf hf2 hi h49 h50 h51
    have hkP : k < P := by omega
    have h1 : Z 140 11 = P := by rw [hf2 11 (by decide) (by decide) (by decide)]; exact h.1
    have h2 := h.2.1
    have h3 := h.2.2.1 k hkP
    have h4 := h.2.2.2 k (by omega)
    have e143 : Z 143 k = Z0 143 k := by rw [hf 143 (by decide) (by decide)]
    have e144 : Z 144 k = Z0 144 k := by rw [hf 144 (by decide) (by decide)]
    have e158 := hi k (by omega)
    have hkk : (k : Int).toNat = k := by omega
    have hb1 := mDot_b h (q := Z0 143) (fun q hq => by have := (h.2.2.1 q hq).1; omega) k (by omega)
    have hb2 := mDot_b h (q := Z0 144) (fun q hq => (h.2.2.1 q hq).2) k (by omega)
    obtain ⟨Z', g1, g2, g3, g4, g5, g6, g7⟩ := ih (k + 1) (u2 (u2 Z 140 50 (mDot (Z0 143) (Z0 143) k + mPl (Z0 143) k * Z0 143 k)) 140 51 (mDot (Z0 143) (Z0 144) k + mPl (Z0 143) k * Z0 144 k)) (by omega) (fun a ha hb => by rw [u2_ne hb, u2_ne hb]; exact hf a ha hb) (fun b h9 h10 h11 => by rw [u2f h11, u2f h10]; exact hf2 b h9 h10 h11) (fun q hq => by rw [u2a (by decide), u2a (by decide)]; exact hi q hq) (by rw [u2f (by decide), u2f (by decide)]; exact h49) (by rw [u2f (by decide), u2s]; rfl) (by rw [u2s]; rfl)
    refine ⟨Z', g1, g2, g3, g4, g5, g6, ?_⟩
    rw [k_X11_place_71]
    simp (disch := omega) only [zs_ap, h1, i32_le]
    rw [if_neg (by omega), k_X11_place_79]
    simp (disch := omega) only [li_0, li_1, li_2, li_3, li_4, li_5, li_6, li_9, li_10, li_40, lm_1, lm_2, lm_3, lm_4, zs_ap, i32_add, i32_sub, i32_mul, i32_neg, i32_lt, i32_nat, ckn, hkk, e143, e144, e158, h50, k_X11_place_90, k_X11_place_96, zs_u2, u2a, u2f, u2s, h51, k_X11_place_112, k_X11_place_118]
    exact g7
end
