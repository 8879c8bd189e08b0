/-! WHAT A MATTER IS, apart from both stores -/
abbrev Mat : Type := (Nat → Nat) × (Nat → Nat → Nat) × (Nat → Nat → Int)
abbrev qS (m : Mat) : Nat := m.1 0
abbrev qP (m : Mat) : Nat := m.1 1
abbrev qday (m : Mat) : Nat := m.1 2
abbrev qlump (m : Mat) : Nat := m.1 3
abbrev qmode (m : Mat) : Nat := m.1 4
abbrev qfst (m : Mat) : Nat := m.1 5
abbrev qprs (m : Mat) : Nat := m.1 6
abbrev qown (m : Mat) : Nat → Nat := m.2.1 0
abbrev qcut (m : Mat) : Nat → Nat := m.2.1 1
abbrev qkept (m : Mat) : Nat → Nat := m.2.1 2
abbrev qund (m : Mat) : Nat → Nat := m.2.1 3
abbrev qwor (m : Mat) (k i : Nat) : Int := m.2.2 k i
abbrev qpea (m : Mat) (i : Nat) : Int := m.2.2 10 i
abbrev qbre (m : Mat) (i : Nat) : Int := m.2.2 11 i
def qpl (m : Mat) : Nat → Nat
  | 0 => 1
  | n + 1 => qpl m n * (qcut m n + 1)
def qN (m : Mat) : Nat := qpl m (qP m)
def qdot (m : Mat) (g : Nat → Nat) : Nat → Nat
  | 0 => 0
  | n + 1 => qdot m g n + qpl m n * g n
def qbeg (m : Mat) : Nat := qdot m (qcut m) (qP m)
def qfin (m : Mat) : Nat := qdot m (qkept m) (qP m)
def qhas (m : Mat) (s k : Nat) : Nat := s / qpl m k % (qcut m k + 1)
def qsm (m : Mat) (g : Nat → Nat) (i : Nat) : Nat → Int
  | 0 => 0
  | n + 1 => qsm m g i n + (qwor m n i * (g n : Int)).tdiv (qcut m n : Int)
def qstop (m : Mat) (s i : Nat) : Int := qsm m (qhas m s) i (qP m)
def qgoal (m : Mat) (i : Nat) : Int := qstop m (qfin m) i + qpea m i
/-- a matter as it can be told, or altered by cut or edge -/
def wf (m : Mat) : Prop := (2 ≤ qS m ∧ qS m ≤ 3) ∧ qP m ≤ 6 ∧ (∀ k : Nat, k < qP m → qown m k < qS m ∧ (1 ≤ qcut m k ∧ qcut m k ≤ 9) ∧ qkept m k < qcut m k ∧ qund m k ≤ 1) ∧ (∀ k : Nat, k < qP m → ∀ i : Nat, i < qS m → -1100 ≤ qwor m k i ∧ qwor m k i ≤ 1100) ∧ (∀ i : Nat, i < 3 → (0 ≤ qpea m i ∧ qpea m i ≤ 999) ∧ (0 ≤ qbre m i ∧ qbre m i ≤ 999)) ∧ (qday m ≤ 99 ∧ (1 ≤ qlump m ∧ qlump m ≤ 3) ∧ qmode m ≤ 2 ∧ qfst m < qS m ∧ qprs m ≤ 1) ∧ qN m ≤ 400
theorem qpl_pos (m : Mat) : ∀ k : Nat, 1 ≤ qpl m k
  | 0 => Nat.le_refl 1
  | k + 1 => by
    have h := qpl_pos m k
    exact Nat.mul_pos h (Nat.succ_pos _)
theorem qpl_step (m : Mat) (k : Nat) : qpl m k ≤ qpl m (k + 1) := by
  have h := Nat.mul_le_mul_left (qpl m k) (show 1 ≤ qcut m k + 1 by omega)
  simp only [qpl]
  omega
theorem qpl_mono (m : Mat) {a : Nat} : ∀ b : Nat, a ≤ b → qpl m a ≤ qpl m b
  | 0, h => by
    have : a = 0 := by omega
    subst this
    exact Nat.le_refl _
  | b + 1, h => by
    by_cases e : a = b + 1
    · subst e
      exact Nat.le_refl _
    · have h1 := qpl_mono m (a := a) b (by omega)
      have h2 := qpl_step m b
      omega
theorem qpl_b {m : Mat} (h : wf m) {k : Nat} (hk : k ≤ qP m) : 1 ≤ qpl m k ∧ qpl m k ≤ 400 := by
  have h1 := qpl_mono m (qP m) hk
  have h2 := h.2.2.2.2.2.2
  have h3 := qpl_pos m k
  unfold qN at h2
  omega
/-- a sum of parts below each one's bound is below the product -/
theorem qdot_lt {m : Mat} {g : Nat → Nat} : ∀ n : Nat, (∀ k : Nat, k < n → g k ≤ qcut m k) → qdot m g n < qpl m n
  | 0, _ => Nat.lt_succ_self 0
  | n + 1, h => by
    have h1 := qdot_lt n (fun k hk => h k (by omega))
    have h2 := Nat.mul_le_mul_left (qpl m n) (h n (by omega))
    simp only [qdot, qpl, Nat.mul_add, Nat.mul_one]
    omega
theorem qbeg_lt (m : Mat) : qbeg m < qN m := qdot_lt _ (fun _ _ => Nat.le_refl _)
theorem qfin_lt {m : Mat} (h : wf m) : qfin m < qN m := qdot_lt _ (fun k hk => by have := (h.2.2.1 k hk).2.2.1; omega)
theorem qhas_le (m : Mat) (s k : Nat) : qhas m s k ≤ qcut m k := by
  unfold qhas
  have := Nat.mod_lt (s / qpl m k) (show 0 < qcut m k + 1 by omega)
  omega
theorem qsm_b {m : Mat} (h : wf m) {g : Nat → Nat} (hg : ∀ k : Nat, k < qP m → g k ≤ qcut m k) {i : Nat} (hi : i < qS m) : ∀ n : Nat, n ≤ qP m → -9900 * (n : Int) ≤ qsm m g i n ∧ qsm m g i n ≤ 9900 * (n : Int)
  | 0, _ => by simp [qsm]
  | n + 1, hn => by
    have h1 := qsm_b h hg hi n (by omega)
    have h2 := h.2.2.2.1 n (by omega) i hi
    have h3 := (h.2.2.1 n (by omega)).2.1
    have h4 := hg n (by omega)
    have h5 := mul_b (a := qwor m n i) (b := (g n : Int)) (A := 1100) (B := 9) h2.1 h2.2 (by omega) (by omega) (by omega)
    have h6 := tdiv_b (a := qwor m n i * (g n : Int)) (b := (qcut m n : Int)) (c := 9900) (by omega) (by omega) (by omega)
    simp only [qsm]
    omega
theorem qstop_b {m : Mat} (h : wf m) (s : Nat) {i : Nat} (hi : i < qS m) : -59400 ≤ qstop m s i ∧ qstop m s i ≤ 59400 := by
  have h1 := qsm_b h (g := qhas m s) (fun k _ => qhas_le m s k) hi (qP m) (Nat.le_refl _)
  have h2 := h.2.1
  unfold qstop
  omega
theorem qgoal_b {m : Mat} (h : wf m) {i : Nat} (hi : i < qS m) : -60399 ≤ qgoal m i ∧ qgoal m i ≤ 60399 := by
  have h1 := qstop_b h (qfin m) hi
  have h2 := (h.2.2.2.2.1 i (by have := h.1; omega)).1
  unfold qgoal
  omega
/-! GENERAL LOOPS -/
theorem up_eq {α : Type} (F : Nat → α) (n : Nat) (st : ∀ k : Nat, k < n → F k = F (k + 1)) : F 0 = F n := by
  have : ∀ k : Nat, k ≤ n → F 0 = F k := fun k => by
    induction k with
    | zero => exact fun _ => rfl
    | succ k ih => exact fun h => (ih (by omega)).trans (st k (by omega))
  exact this n (Nat.le_refl n)
theorem up_inv {α σ : Type} (F : Nat → σ → α) (n : Nat) (V : Nat → σ → Prop) (st : ∀ (k : Nat) (s : σ), k < n → V k s → ∃ s' : σ, V (k + 1) s' ∧ F k s = F (k + 1) s') (s0 : σ) (h0 : V 0 s0) : ∃ s' : σ, V n s' ∧ F 0 s0 = F n s' := by
  have : ∀ k : Nat, k ≤ n → ∃ s' : σ, V k s' ∧ F 0 s0 = F k s' := fun k => by
    induction k with
    | zero => exact fun _ => ⟨s0, h0, rfl⟩
    | succ k ih =>
      intro h
      obtain ⟨s1, v1, e1⟩ := ih (by omega)
      obtain ⟨s2, v2, e2⟩ := st k s1 (by omega) v1
      exact ⟨s2, v2, e1.trans e2⟩
  exact this n (Nat.le_refl n)
/-! HOW THE MODEL HOLDS A MATTER -/
def MR (m : Mat) (Z : Nat → Nat → Int) : Prop := (Z 140 10 = qS m ∧ Z 140 11 = qP m ∧ Z 140 12 = qday m ∧ Z 140 13 = qlump m ∧ Z 140 14 = qmode m ∧ Z 140 15 = qfst m ∧ Z 140 24 = qprs m) ∧ (∀ k : Nat, k < qP m → Z 142 k = qown m k ∧ Z 143 k = qcut m k ∧ Z 144 k = qkept m k ∧ Z 148 k = qund m k) ∧ (∀ k : Nat, k < qP m → ∀ i : Nat, i < qS m → Z 145 (3 * k + i) = qwor m k i) ∧ (∀ i : Nat, i < 3 → Z 146 i = qpea m i ∧ Z 147 i = qbre m i)
/-- what lies beyond a matter in the model's rows is small too -/
def mJk (Z : Nat → Nat → Int) : Prop := (∀ j : Nat, j < 18 → -2000 ≤ Z 145 j ∧ Z 145 j ≤ 2000) ∧ (∀ j : Nat, j < 2400 → 0 ≤ Z 159 j ∧ Z 159 j ≤ 9) ∧ (∀ k : Nat, k < 6 → 0 ≤ Z 142 k ∧ Z 142 k ≤ 2) ∧ (∀ j : Nat, j < 1200 → -200000 ≤ Z 160 j ∧ Z 160 j ≤ 200000)
def MT (m : Mat) (Z : Nat → Nat → Int) : Prop := (Z 140 49 = qN m ∧ Z 140 50 = qbeg m ∧ Z 140 51 = qfin m) ∧ (∀ q : Nat, q ≤ qP m → Z 158 q = qpl m q) ∧ (∀ s : Nat, s < qN m → ∀ q : Nat, q < qP m → Z 159 (6 * s + q) = qhas m s q) ∧ (∀ s : Nat, s < qN m → ∀ q : Nat, q < qS m → Z 160 (3 * s + q) = qstop m s q)
theorem mPl_q {m : Mat} {g : Nat → Int} : ∀ n : Nat, (∀ k : Nat, k < n → g k = qcut m k) → mPl g n = qpl m n
  | 0, _ => rfl
  | n + 1, h => by
    simp only [mPl, qpl, mPl_q n (fun k hk => h k (by omega)), h n (by omega)]
    push_cast
    rfl
theorem mDot_q {m : Mat} {g q : Nat → Int} {r : Nat → Nat} : ∀ n : Nat, (∀ k : Nat, k < n → g k = qcut m k) → (∀ k : Nat, k < n → q k = r k) → mDot g q n = qdot m r n
  | 0, _, _ => rfl
  | n + 1, h, h2 => by
    simp only [mDot, qdot, mDot_q n (fun k hk => h k (by omega)) (fun k hk => h2 k (by omega)), mPl_q n (fun k hk => h k (by omega)), h2 n (by omega)]
    push_cast
    rfl
theorem tmod_q (a b : Nat) : (a : Int) - (a : Int).tdiv (b : Int) * (b : Int) = ((a % b : Nat) : Int) := by
  have h := Int.tmod_def (a : Int) (b : Int)
  have h2 : (a : Int).tmod (b : Int) = ((a % b : Nat) : Int) := (Int.ofNat_tmod a b).symm
  rw [h2, Int.mul_comm] at h
  omega
theorem mHas_q {m : Mat} {g : Nat → Int} {n : Nat} (s : Nat) (h : ∀ k : Nat, k ≤ n → g k = qcut m k) : mHas g s n = qhas m s n := by
  unfold mHas qhas
  rw [mPl_q n (fun k hk => h k (by omega)), h n (Nat.le_refl n)]
  have e : (s : Int).tdiv (qpl m n : Int) = ((s / qpl m n : Nat) : Int) := (Int.ofNat_tdiv s (qpl m n)).symm
  rw [e]
  have h2 := tmod_q (s / qpl m n) (qcut m n + 1)
  push_cast at h2 ⊢
  exact h2
theorem gSum_q {m : Mat} {Z : Nat → Nat → Int} {hv : Nat → Int} {g : Nat → Nat} {i : Nat} (hr : MR m Z) (hi : i < qS m) : ∀ n : Nat, n ≤ qP m → (∀ k : Nat, k < n → hv k = g k) → gSum Z hv i n = qsm m g i n
  | 0, _, _ => rfl
  | n + 1, hn, h => by
    have e1 := hr.2.2.1 n (by omega) i hi
    have e2 := (hr.2.1 n (by omega)).2.1
    simp only [gSum, qsm, gSum_q hr hi n (by omega) (fun k hk => h k (by omega)), gTerm, h n (by omega), show (3 * (n : Int) + (i : Int)).toNat = 3 * n + i by omega, e1, e2]
theorem MR_lay {m : Mat} {Z : Nat → Nat → Int} (h : wf m) (hr : MR m Z) : mLay Z (qP m) := by
  refine ⟨hr.1.2.1, h.2.1, fun k hk => ?_, fun k hk => ?_⟩
  · have h1 := hr.2.1 k hk
    have h2 := h.2.2.1 k hk
    omega
  · rw [mPl_q k (fun q hq => (hr.2.1 q (by omega)).2.1)]
    have := qpl_b h hk
    omega
theorem MR_ok {m : Mat} {Z : Nat → Nat → Int} (h : wf m) (hr : MR m Z) (hj : mJk Z) : mOK Z (qP m) := by
  have hS := h.1
  refine ⟨hr.1.2.1, h.2.1, ?_, hj.1, hj.2.1, hj.2.2.1, fun k hk => ?_⟩
  · rw [hr.1.1]; omega
  · have h1 := hr.2.1 k hk
    have h2 := h.2.2.1 k hk
    omega
theorem MR_fr {m : Mat} {Z Z' : Nat → Nat → Int} (hr : MR m Z) (h1 : ∀ b : Nat, b < 49 → Z' 140 b = Z 140 b) (h2 : ∀ a : Nat, 142 ≤ a → a ≤ 148 → Z' a = Z a) : MR m Z' := by
  unfold MR
  rw [h1 10 (by decide), h1 11 (by decide), h1 12 (by decide), h1 13 (by decide), h1 14 (by decide), h1 15 (by decide), h1 24 (by decide), h2 142 (by decide) (by decide), h2 143 (by decide) (by decide), h2 144 (by decide) (by decide), h2 145 (by decide) (by decide), h2 146 (by decide) (by decide), h2 147 (by decide) (by decide), h2 148 (by decide) (by decide)]
  exact hr
