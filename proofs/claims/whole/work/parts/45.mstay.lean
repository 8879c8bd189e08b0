/-! WHO WOULD STOP, of a matter; the model's leave, stayBits, findStay -/
def qone (w : Nat) : Nat := if w = 5 then 1 else if w < 3 then w else 0
def qtwo (w : Nat) : Nat := if w < 3 then w else if w = 3 then 1 else 2
def qcnt (m : Mat) (w : Nat) : Bool := if w < 3 then decide (w < qS m) else (!decide (qprs m = 0)) && decide (qtwo w < qS m)
def qsh (m : Mat) (b : Nat → Int) (i : Nat) (st : Int) : Int := st - b i - qgoal m i
def qmore (m : Mat) (b : Nat → Int) (s w : Nat) : Int := if qone w = qtwo w then qsh m b (qone w) (qstop m s (qone w)) else qsh m b (qone w) (qstop m s (qone w)) + qsh m b (qtwo w) (qstop m s (qtwo w))
def qwould (m : Mat) (b : Nat → Int) (s w n : Nat) : Bool := decide (0 < qmore m b s w + ((if w < 3 then n else 2 * n : Nat) : Int) * (qday m : Int))
/-- what a breach costs, with what is added for a trial -/
def MX (b : Nat → Int) (Z : Nat → Nat → Int) : Prop := ∀ i : Nat, i < 3 → Z 147 i + Z 161 i = b i ∧ (-200000 ≤ Z 161 i ∧ Z 161 i ≤ 200000)
def qlv (m : Mat) (b : Nat → Int) (s n : Nat) : Nat → Int32
  | 0 => 0
  | w + 1 => if qcnt m w && qwould m b s w n then qlv m b s n w ||| ((1 : Int32) <<< (i32 (w : Int) &&& 31)) else qlv m b s n w
def dn (p : Nat → Bool) : Nat → Nat
  | 0 => 0
  | n + 1 => if p n then dn p n else n + 1
theorem dn_le (p : Nat → Bool) : ∀ n : Nat, dn p n ≤ n
  | 0 => Nat.le_refl 0
  | n + 1 => by
    unfold dn
    split
    · have := dn_le p n
      omega
    · exact Nat.le_refl _
theorem dn_iff {p : Nat → Bool} (hp : ∀ a b : Nat, a ≤ b → p a = true → p b = true) {n : Nat} : ∀ M : Nat, n < dn p M ↔ n < M ∧ p n = false
  | 0 => by simp [dn]
  | M + 1 => by
    unfold dn
    by_cases c : p M = true
    · rw [if_pos c, dn_iff hp M]
      constructor
      · rintro ⟨h1, h2⟩
        exact ⟨by omega, h2⟩
      · rintro ⟨h1, h2⟩
        refine ⟨?_, h2⟩
        by_cases e : n = M
        · subst e
          rw [c] at h2
          cases h2
        · omega
    · rw [if_neg c]
      constructor
      · intro h1
        refine ⟨h1, ?_⟩
        cases h : p n
        · rfl
        · exact absurd (hp n M (by omega) h) c
      · exact fun h => h.1
def qms (m : Mat) (b : Nat → Int) (s : Nat) : Nat → Nat
  | 0 => 41
  | w + 1 => if qcnt m w then dn (qwould m b s w) (qms m b s w) else qms m b s w
theorem qms_le (m : Mat) (b : Nat → Int) (s : Nat) : ∀ w : Nat, qms m b s w ≤ 41
  | 0 => Nat.le_refl _
  | w + 1 => by
    have h := qms_le m b s w
    unfold qms
    split
    · have := dn_le (qwould m b s w) (qms m b s w)
      omega
    · exact h
theorem qwould_mono {m : Mat} {b : Nat → Int} {s w : Nat} : ∀ x y : Nat, x ≤ y → qwould m b s w x = true → qwould m b s w y = true := by
  intro x y h h1
  unfold qwould at h1 ⊢
  have h2 := of_decide_eq_true h1
  apply decide_eq_true
  have h3 : ((if w < 3 then x else 2 * x : Nat) : Int) ≤ ((if w < 3 then y else 2 * y : Nat) : Int) := by split <;> omega
  have h4 := Int.mul_le_mul_of_nonneg_right h3 (show (0 : Int) ≤ (qday m : Int) by omega)
  omega
theorem qms_iff {m : Mat} {b : Nat → Int} {s n : Nat} : ∀ w : Nat, n < qms m b s w ↔ n ≤ 40 ∧ ∀ v : Nat, v < w → qcnt m v = true → qwould m b s v n = false
  | 0 => by
    simp only [qms]
    constructor
    · intro h
      exact ⟨by omega, fun v hv => by omega⟩
    · rintro ⟨h, _⟩
      omega
  | w + 1 => by
    have ih := qms_iff (m := m) (b := b) (s := s) (n := n) w
    unfold qms
    by_cases c : qcnt m w = true
    · rw [if_pos c, dn_iff qwould_mono, ih]
      constructor
      · rintro ⟨⟨h1, h2⟩, h3⟩
        refine ⟨h1, fun v hv hc => ?_⟩
        by_cases e : v = w
        · subst e
          exact h3
        · exact h2 v (by omega) hc
      · rintro ⟨h1, h2⟩
        exact ⟨⟨h1, fun v hv hc => h2 v (by omega) hc⟩, h2 w (by omega) c⟩
    · rw [if_neg c, ih]
      constructor
      · rintro ⟨h1, h2⟩
        refine ⟨h1, fun v hv hc => ?_⟩
        by_cases e : v = w
        · subst e
          exact absurd hc c
        · exact h2 v (by omega) hc
      · rintro ⟨h1, h2⟩
        exact ⟨h1, fun v hv hc => h2 v (by omega) hc⟩
/-- nobody would stop in s with n steps to come -/
def qstay (m : Mat) (b : Nat → Int) (s n : Nat) : Bool := decide (n < qms m b s 6)
theorem qsh_one {m : Mat} {b : Nat → Int} {s n i : Nat} (hi : i < 3) : qwould m b s i n = decide (b i + qgoal m i < qstop m s i + (n : Int) * (qday m : Int)) := by
  have h1 : qone i = i := by unfold qone; rw [if_neg (by omega), if_pos hi]
  have h2 : qtwo i = i := by unfold qtwo; rw [if_pos hi]
  unfold qwould qmore
  rw [if_pos (h1.trans h2.symm), h1, if_pos hi]
  unfold qsh
  exact decide_eq_decide.mpr (by omega)
theorem qstay_iff {m : Mat} (hw : wf m) {b : Nat → Int} {s n : Nat} : qstay m b s n = true ↔ n ≤ 40 ∧ ∀ i : Nat, i < qS m → qstop m s i + (n : Int) * (qday m : Int) ≤ b i + qgoal m i := by
  have hS := hw.1
  unfold qstay
  rw [decide_eq_true_iff, qms_iff]
  constructor
  · rintro ⟨h1, h2⟩
    refine ⟨h1, fun i hi => ?_⟩
    have h3 := h2 i (by omega) (by unfold qcnt; rw [if_pos (by omega)]; exact decide_eq_true hi)
    rw [qsh_one (by omega)] at h3
    have := of_decide_eq_false h3
    omega
  · rintro ⟨h1, h2⟩
    refine ⟨h1, fun w hw6 hc => ?_⟩
    by_cases c : w < 3
    · rw [qsh_one c]
      unfold qcnt at hc
      rw [if_pos c] at hc
      have := h2 w (of_decide_eq_true hc)
      exact decide_eq_false (by omega)
    · unfold qcnt at hc
      rw [if_neg c] at hc
      have hc2 : qtwo w < qS m := by
        have := (Bool.and_eq_true _ _ ▸ hc : _ ∧ _).2
        exact of_decide_eq_true this
      have hc1 : qone w < qtwo w := by
        unfold qone qtwo
        rw [if_neg c, if_neg c]
        split <;> split <;> omega
      have a1 := h2 (qone w) (by omega)
      have a2 := h2 (qtwo w) hc2
      unfold qwould qmore
      rw [if_neg (by omega), if_neg c]
      unfold qsh
      apply decide_eq_false
      push_cast
      have e : 2 * (n : Int) * (qday m : Int) = (n : Int) * (qday m : Int) + (n : Int) * (qday m : Int) := by rw [Int.mul_assoc, Int.two_mul]
      omega
section
variable {d : Nat} {J : Nat → Nat → Int64} {Z : Nat → Nat → Int} {p0 p1 p2 p3 p4 p5 p6 p7 : Nat} {m : Mat} {b : Nat → Int}
theorem MI_sm (h : MI m Z) (hx : MX b Z) : mSm Z := by
  have h0 := MI_n h
  obtain ⟨hw, hr, hj, ht⟩ := h
  have h1 := hw.2.2.2.2.2.1
  refine ⟨hj.2.2.2, fun j hj3 => ?_, ?_, ?_, ?_, ?_⟩
  · have h2 := hr.2.2.2 j hj3
    have h3 := hw.2.2.2.2.1 j hj3
    have h4 := hx j hj3
    omega
  · rw [hr.1.2.2.1]; omega
  · omega
  · omega
  · rw [hr.1.2.2.2.2.2.2]; omega
theorem one_q {w : Nat} (_ : w < 6) : mOne w = qone w := by
  unfold mOne qone
  by_cases c : w = 5
  · rw [if_pos (by omega), if_pos c]; rfl
  · rw [if_neg (by omega), if_neg c]
    by_cases c2 : w < 3
    · rw [if_pos (by omega), if_pos c2]
    · rw [if_neg (by omega), if_neg c2]; rfl
theorem two_q {w : Nat} (_ : w < 6) : mTwo w = qtwo w := by
  unfold mTwo qtwo
  by_cases c2 : w < 3
  · rw [if_pos (by omega), if_pos c2]
  · rw [if_neg (by omega), if_neg c2]
    by_cases c : w = 3
    · rw [if_pos (by omega), if_pos c]; rfl
    · rw [if_neg (by omega), if_neg c]; rfl
theorem cnt_q (h : MI m Z) {w : Nat} (hw : w < 6) : mCnt Z w = qcnt m w := by
  have h1 := h.2.1.1
  unfold mCnt qcnt
  rw [h1.1, h1.2.2.2.2.2.2, two_q hw]
  by_cases c : w < 3
  · rw [if_pos (by omega), if_pos c]
    exact decide_eq_decide.mpr (by omega)
  · rw [if_neg (by omega), if_neg c]
    congr 1
    · congr 1
      exact decide_eq_decide.mpr (by omega)
    · exact decide_eq_decide.mpr (by omega)
theorem sh_q (h : MI m Z) (hx : MX b Z) {i : Nat} (hi : i < qS m) (st : Int) : mShort Z i st = qsh m b i st := by
  have h1 := h.1.1
  unfold mShort qsh
  rw [mGoal_q h hi, show ((i : Nat) : Int).toNat = i by omega]
  have := (hx i (by omega)).1
  omega
theorem qcnt_lt {w : Nat} (hw : w < 6) (hS : 2 ≤ qS m) (hc : qcnt m w = true) : qone w < qS m ∧ qtwo w < qS m := by
  unfold qcnt at hc
  by_cases c : w < 3
  · rw [if_pos c] at hc
    have := of_decide_eq_true hc
    unfold qone qtwo
    rw [if_neg (by omega), if_pos c, if_pos c]
    exact ⟨this, this⟩
  · rw [if_neg c] at hc
    have h2 : qtwo w < qS m := by
      have := (Bool.and_eq_true _ _ ▸ hc : _ ∧ _).2
      exact of_decide_eq_true this
    refine ⟨?_, h2⟩
    unfold qone
    rw [if_neg c]
    split <;> omega
theorem more_q (h : MI m Z) (hx : MX b Z) {s w : Nat} (hs : s < qN m) (hw : w < 6) (hc : qcnt m w = true) : mMore Z s w = qmore m b s w := by
  have h0 := MI_n h
  have h1 := qcnt_lt hw h0.1.1 hc
  unfold mMore qmore
  rw [one_q hw, two_q hw, show (3 * (s : Int) + ((qone w : Nat) : Int)).toNat = 3 * s + qone w by omega, show (3 * (s : Int) + ((qtwo w : Nat) : Int)).toNat = 3 * s + qtwo w by omega, h.2.2.2.2.2.2 s hs _ h1.1, h.2.2.2.2.2.2 s hs _ h1.2, sh_q h hx h1.1, sh_q h hx h1.2]
  by_cases c : qone w = qtwo w
  · rw [if_pos (by omega), if_pos c]
  · rw [if_neg (by omega), if_neg c]
theorem would_q (h : MI m Z) (hx : MX b Z) {s w n : Nat} (hs : s < qN m) (hw : w < 6) (hc : qcnt m w = true) : mWould Z s w n = qwould m b s w n := by
  unfold mWould qwould
  rw [more_q h hx hs hw hc, h.2.1.1.2.2.1]
  by_cases c : w < 3
  · rw [if_pos (by omega), if_pos c]
  · rw [if_neg (by omega), if_neg c]
    push_cast
    rfl
theorem g_counts (h : MI m Z) (hx : MX b Z) {w : Nat} (hw : w < 6) : Mean (d + 2) 184 [.ref 140, .int (i32 (w : Int))] (176, zs Z, J, RP p0 p1 p2 p3 p4 p5 p6 p7) = some (some (.int (i32 (bB (qcnt m w)))), (176, zs Z, J, RP p0 p1 p2 p3 p4 p5 p6 p7)) := by
  rw [s_counts d J Z p0 p1 p2 p3 p4 p5 p6 p7 (MI_sm h hx) (by omega), cnt_q h hw]
theorem g_would (h : MI m Z) (hx : MX b Z) {s w n : Nat} (hs : s < qN m) (hw : w < 6) (hc : qcnt m w = true) (hn : n ≤ 40) : Mean (d + 4) 187 [.ref 140, .int (i32 (s : Int)), .int (i32 (w : Int)), .int (i32 (n : Int))] (176, zs Z, J, RP p0 p1 p2 p3 p4 p5 p6 p7) = some (some (.int (i32 (bB (qwould m b s w n)))), (176, zs Z, J, RP p0 p1 p2 p3 p4 p5 p6 p7)) := by
  have h0 := MI_n h
  rw [s_wouldStop d J Z p0 p1 p2 p3 p4 p5 p6 p7 (MI_sm h hx) (by omega) (by omega) (by omega), would_q h hx hs hw hc]
theorem g_leave (h : MI m Z) (hx : MX b Z) {s n : Int} (hs : -2147483648 ≤ s ∧ s < 2147483648) (hn : -2147483648 ≤ n ∧ n < 2147483648) : Mean (d + 5) 188 [.ref 140, .int (i32 s), .int (i32 n)] (176, zs Z, J, RP p0 p1 p2 p3 p4 p5 p6 p7) = some (some (.int (if (0 ≤ s ∧ s < qN m) ∧ (0 ≤ n ∧ n ≤ 40) then qlv m b s.toNat n.toNat 6 else -2)), (176, zs Z, J, RP p0 p1 p2 p3 p4 p5 p6 p7)) := by
  have h0 := MI_n h
  rw [e_X11_leave]
  by_cases c1 : 0 ≤ s ∧ s < qN m
  · by_cases c2 : 0 ≤ n ∧ n ≤ 40
    · obtain ⟨s, rfl⟩ : ∃ i : Nat, s = i := ⟨s.toNat, by omega⟩
      obtain ⟨n, rfl⟩ : ∃ i : Nat, n = i := ⟨n.toNat, by omega⟩
      rw [if_pos ⟨c1, c2⟩, Int.toNat_natCast, Int.toNat_natCast]
      simp (disch := omega) only [k_X11_leave_0, k_X11_leave_5, k_X11_leave_8, k_X11_leave_17, k_X11_leave_20, k_X11_leave_23, k_X11_leave_35, k_X11_leave_41, k_X11_leave_44, k_X11_leave_52, k_X11_leave_55, k_X11_leave_62, k_X11_leave_68, li_0, li_1, li_2, li_3, li_4, li_5, li_6, li_9, li_10, li_40, lm_1, lm_2, lm_3, lm_4, zs_ap, i32_add, i32_sub, i32_mul, i32_neg, i32_lt, i32_le, i32_eq, i32_nat, ckn, pka_r, pka_v, if_pos, if_neg, if_true, if_false, s_isState, i32_to64, lj_0, lj_40, s_inZ, bI_t, bI_f]
      refine (up_eq (fun w : Nat => den none (Mean (d + 4)) (some .int) tQ_X11_leave (28, [some (.ref 140), some (.int (i32 (s : Int))), some (.int (i32 (n : Int))), some (.int (qlv m b s n w)), some (.int (i32 (w : Int)))], [], 176, zs Z, J, RP p0 p1 p2 p3 p4 p5 p6 p7)) 6 (fun w hw => ?_)).trans ?_
      · rw [k_X11_leave_28]
        simp only [qlv]
        cases hc : qcnt m w
        · simp (disch := omega) only [k_X11_leave_0, k_X11_leave_5, k_X11_leave_8, k_X11_leave_17, k_X11_leave_20, k_X11_leave_23, k_X11_leave_35, k_X11_leave_41, k_X11_leave_44, k_X11_leave_52, k_X11_leave_55, k_X11_leave_62, k_X11_leave_68, li_0, li_1, li_2, li_3, li_4, li_5, li_6, li_9, li_10, li_40, lm_1, lm_2, lm_3, lm_4, zs_ap, i32_add, i32_sub, i32_mul, i32_neg, i32_lt, i32_le, i32_eq, i32_nat, ckn, pka_r, pka_v, if_pos, if_neg, if_true, if_false, g_counts h hx, hc, bBf, Bool.false_and]
          simp
        · cases hd : qwould m b s w n
          · simp (disch := omega) only [k_X11_leave_0, k_X11_leave_5, k_X11_leave_8, k_X11_leave_17, k_X11_leave_20, k_X11_leave_23, k_X11_leave_35, k_X11_leave_41, k_X11_leave_44, k_X11_leave_52, k_X11_leave_55, k_X11_leave_62, k_X11_leave_68, li_0, li_1, li_2, li_3, li_4, li_5, li_6, li_9, li_10, li_40, lm_1, lm_2, lm_3, lm_4, zs_ap, i32_add, i32_sub, i32_mul, i32_neg, i32_lt, i32_le, i32_eq, i32_nat, ckn, pka_r, pka_v, if_pos, if_neg, if_true, if_false, g_counts h hx, hc, bBt, g_would h hx, hd, bBf, Bool.and_false]
            simp
          · simp (disch := omega) only [k_X11_leave_0, k_X11_leave_5, k_X11_leave_8, k_X11_leave_17, k_X11_leave_20, k_X11_leave_23, k_X11_leave_35, k_X11_leave_41, k_X11_leave_44, k_X11_leave_52, k_X11_leave_55, k_X11_leave_62, k_X11_leave_68, li_0, li_1, li_2, li_3, li_4, li_5, li_6, li_9, li_10, li_40, lm_1, lm_2, lm_3, lm_4, zs_ap, i32_add, i32_sub, i32_mul, i32_neg, i32_lt, i32_le, i32_eq, i32_nat, ckn, pka_r, pka_v, if_pos, if_neg, if_true, if_false, g_counts h hx, hc, bBt, g_would h hx, hd, bBf, Bool.and_self]
            rfl
      · rw [k_X11_leave_28]
        simp (disch := omega) only [k_X11_leave_0, k_X11_leave_5, k_X11_leave_8, k_X11_leave_17, k_X11_leave_20, k_X11_leave_23, k_X11_leave_35, k_X11_leave_41, k_X11_leave_44, k_X11_leave_52, k_X11_leave_55, k_X11_leave_62, k_X11_leave_68, li_0, li_1, li_2, li_3, li_4, li_5, li_6, li_9, li_10, li_40, lm_1, lm_2, lm_3, lm_4, zs_ap, i32_add, i32_sub, i32_mul, i32_neg, i32_lt, i32_le, i32_eq, i32_nat, ckn, pka_r, pka_v, if_pos, if_neg, if_true, if_false]
    · simp (disch := omega) only [k_X11_leave_0, k_X11_leave_5, k_X11_leave_8, k_X11_leave_17, k_X11_leave_20, k_X11_leave_23, k_X11_leave_35, k_X11_leave_41, k_X11_leave_44, k_X11_leave_52, k_X11_leave_55, k_X11_leave_62, k_X11_leave_68, li_0, li_1, li_2, li_3, li_4, li_5, li_6, li_9, li_10, li_40, lm_1, lm_2, lm_3, lm_4, zs_ap, i32_add, i32_sub, i32_mul, i32_neg, i32_lt, i32_le, i32_eq, i32_nat, ckn, pka_r, pka_v, if_pos, if_neg, if_true, if_false, s_isState, i32_to64, lj_0, lj_40, s_inZ, bI_t, bI_f]
  · simp (disch := omega) only [k_X11_leave_0, k_X11_leave_5, k_X11_leave_8, k_X11_leave_17, k_X11_leave_20, k_X11_leave_23, k_X11_leave_35, k_X11_leave_41, k_X11_leave_44, k_X11_leave_52, k_X11_leave_55, k_X11_leave_62, k_X11_leave_68, li_0, li_1, li_2, li_3, li_4, li_5, li_6, li_9, li_10, li_40, lm_1, lm_2, lm_3, lm_4, zs_ap, i32_add, i32_sub, i32_mul, i32_neg, i32_lt, i32_le, i32_eq, i32_nat, ckn, pka_r, pka_v, if_pos, if_neg, if_true, if_false, s_isState, i32_to64, lj_0, lj_40, s_inZ, bI_t, bI_f]
end
