/-! THE CLASS'S Reader: the draft, refuse, takeNumber and its like -/
def fsum (D : Nat → Nat → Int) : Int := D 140 30 + 2 * D 140 31 + 4 * D 140 26 + 8 * D 140 27 + 16 * D 140 28 + 32 * D 140 29 + 64 * D 140 25
def tbit (g : Nat → Int) (n : Nat) (v : Int) : Prop := ∃ x : Nat, x < 64 ∧ v = (x : Int) ∧ ∀ k : Nat, k < 6 → x.testBit k = (decide (k < n) && decide (g k = 1))
/-- the class's draft is the draft D, N -/
def CD (p : Nat) (D : Nat → Nat → Int) (N : Nat → Int64) (Z : Nat → Nat → Int) (J : Nat → Nat → Int64) : Prop :=
  (Z p 1 = D 140 17 ∧ Z p 2 = D 140 18 ∧ Z p 11 = D 140 19 ∧ Z p 12 = D 140 20 ∧ Z p 13 = D 140 21 ∧ Z p 14 = D 140 22 ∧ Z p 15 = D 140 25) ∧
  (∀ k : Nat, k < (D 140 18).toNat → Z (p + 2) k = D 151 k ∧ Z (p + 3) k = D 152 k ∧ Z (p + 4) k = D 153 k ∧ Z (p + 5) k = D 149 k ∧ J (p + 1) k = N k) ∧
  (∀ k : Nat, k < (D 140 18).toNat → ∀ i : Nat, i < (D 140 17).toNat → Z (p + 7 + k) i = D 154 (3 * k + i)) ∧
  (∀ i : Nat, i < 3 → Z (p + 13) i = D 155 i ∧ Z (p + 14) i = D 156 i) ∧
  (Z 3 2 = fsum D ∧ tbit (D 149) (D 140 18).toNat (Z 3 3) ∧ tbit (D 150) (D 140 18).toNat (Z 3 4))
def CX (p : Nat) (Z0 Z : Nat → Nat → Int) : Prop := ∀ a : Nat, (a < p ∨ p + 14 < a) → a ≠ 3 → a ≠ 4 → Z a = Z0 a
def CQ (len p : Nat) (c : Int) (Z0 : Nat → Nat → Int) (J0 : Nat → Nat → Int64) (D : Nat → Nat → Int) (N : Nat → Int64) (q : Nat) (Z : Nat → Nat → Int) (J : Nat → Nat → Int64) : Prop :=
  CX p Z0 Z ∧ (∀ a : Nat, a ≠ p + 1 → J a = J0 a) ∧ CD p D N Z J ∧ (Z 4 1 = (q : Int) ∧ q ≤ len) ∧ Z p 0 = c ∧ (Z 3 5 = 0 ∧ Z 3 6 = -1)
def CE (p : Nat) (Z0 : Nat → Nat → Int) (J0 : Nat → Nat → Int64) (R : Nat → Nat → Option Nat) (e : Int × Nat) (o : Option (Option Value × pW)) : Prop := ∃ (Z' : Nat → Nat → Int) (J' : Nat → Nat → Int64), CX p Z0 Z' ∧ (∀ a : Nat, a ≠ p + 1 → J' a = J0 a) ∧ (Z' 3 5 = e.1 ∧ Z' 3 6 = (e.2 : Int)) ∧ o = some (some (.int (i32 0)), (176, zs Z', J', R))
def CO (len p : Nat) (c : Int) (Z0 : Nat → Nat → Int) (J0 : Nat → Nat → Int64) (R : Nat → Nat → Option Nat) (r : PE) (o : Option (Option Value × pW)) : Prop := match r with
  | .error e => CE p Z0 J0 R e o
  | .ok s => ∃ (Z' : Nat → Nat → Int) (J' : Nat → Nat → Int64), CQ len p c Z0 J0 s.1 s.2.1 s.2.2 Z' J' ∧ o = some (some (.int (i32 1)), (176, zs Z', J', R))
abbrev hv2 (p : Nat) : Prop := p = 5 ∨ p = 20
theorem CX_fc {p : Nat} {l : List Nat} {Z0 Z Z' : Nat → Nat → Int} (h : CX p Z0 Z) (hx : FC 4 l Z Z') : CX p Z0 Z' := fun a h1 h2 h3 => (hx.1 a h3).trans (h a h1 h2 h3)
theorem CX_u3 {p j : Nat} {v : Int} {Z0 Z : Nat → Nat → Int} (h : CX p Z0 Z) : CX p Z0 (u2 Z 3 j v) := fun a h1 h2 h3 => (u2_ne h2).trans (h a h1 h2 h3)
theorem CX_up {p a j : Nat} {v : Int} {Z0 Z : Nat → Nat → Int} (h : CX p Z0 Z) (ha : p ≤ a ∧ a ≤ p + 14) : CX p Z0 (u2 Z a j v) := fun b h1 h2 h3 => (u2_ne (by omega)).trans (h b h1 h2 h3)
theorem CD_fc {p : Nat} {l : List Nat} {D : Nat → Nat → Int} {N : Nat → Int64} {Z Z' : Nat → Nat → Int} {J : Nat → Nat → Int64} (hp : hv2 p) (h : CD p D N Z J) (hx : FC 4 l Z Z') : CD p D N Z' J := by
  have e : ∀ a : Nat, a ≠ 4 → Z' a = Z a := hx.1
  obtain ⟨h1, h2, h3, h4, h5⟩ := h
  refine ⟨?_, fun k hk => ?_, fun k hk i hi => ?_, fun i hi => ?_, ?_⟩
  · rw [e p (by omega)]; exact h1
  · rw [e (p + 2) (by omega), e (p + 3) (by omega), e (p + 4) (by omega), e (p + 5) (by omega)]; exact h2 k hk
  · rw [e (p + 7 + k) (by omega)]; exact h3 k hk i hi
  · rw [e (p + 13) (by omega), e (p + 14) (by omega)]; exact h4 i hi
  · rw [e 3 (by omega)]; exact h5
section
variable {d : Nat} {J J0 : Nat → Nat → Int64} {Z Z0 D : Nat → Nat → Int} {N : Nat → Int64} {p0 p1 p2 p3 p4 p5 p6 p7 : Nat} {tp : Nat → Nat} {len q n S : Nat} {c : Int}
/-- what reading stands on -/
def CT (tp : Nat → Nat) (len p : Nat) (Z0 : Nat → Nat → Int) : Prop := len ≤ 700 ∧ TC tp Z0 ∧ Z0 1 1 = (len : Int) ∧ hv2 p
theorem CQ_tc (ht : CT tp len p1 Z0) (h : CX p1 Z0 Z) : TC tp Z ∧ Z 1 1 = (len : Int) := by
  obtain ⟨h1, h2, h3, h4⟩ := ht
  exact ⟨TC_fr h2 (h 2 (by omega) (by decide) (by decide)), by rw [h 1 (by omega) (by decide) (by decide)]; exact h3⟩
theorem CQ_adv (ht : CT tp len p1 Z0) (h : CQ len p1 c Z0 J0 D N q Z J) : ∃ Z' : Nat → Nat → Int, FC 4 [1, 2, 3, 4] Z Z' ∧ LT tp len q Z' ∧ CQ len p1 c Z0 J0 D N (tkB tp len q) Z' J ∧ Mean (d + 1) 29 [.ref 4] (176, zs Z, J, RP p0 p1 p2 p3 p4 p5 p6 p7) = some (none, (176, zs Z', J, RP p0 p1 p2 p3 p4 p5 p6 p7)) := by
  obtain ⟨t1, t2⟩ := CQ_tc ht h.1
  obtain ⟨Z', f, l, e⟩ := h_advance (d := d) (J := J) (p0 := p0) (p1 := p1) (p2 := p2) (p3 := p3) (p4 := p4) (p5 := p5) (p6 := p6) (p7 := p7) ht.1 t1 t2 h.2.2.2.1.1 h.2.2.2.1.2
  have hp : hv2 p1 := ht.2.2.2
  have hb := (tk_le (tp := tp) h.2.2.2.1.2).2.1
  refine ⟨Z', f, l, ⟨CX_fc h.1 f, h.2.1, CD_fc hp h.2.2.1 f, ⟨l.1, hb.2⟩, ?_, ?_⟩, e⟩
  · rw [f.1 p1 (by omega)]; exact h.2.2.2.2.1
  · rw [f.1 3 (by omega)]; exact h.2.2.2.2.2
theorem h_refuse {k : Int} : Mean (d + 1) 62 [.ref 3, .int (i32 k)] (176, zs Z, J, RP p0 p1 p2 p3 p4 p5 p6 p7) = some (some (.int (i32 0)), (176, zs (u2 (u2 Z 3 5 k) 3 6 (Z 4 3)), J, RP p0 p1 p2 p3 p4 p5 p6 p7)) := by
  rw [e_X5_refuse, k_X5_refuse_0]
  simp (disch := omega) only [li_0, li_1, li_2, li_3, li_4, li_5, li_6, li_9, li_10, li_40, lm_1, lm_2, lm_3, lm_4, zs_u2, zs_ap, u2a]
theorem CE_mk {k : Int} {o : Option (Option Value × pW)} (h1 : CX p1 Z0 Z) (h2 : ∀ a : Nat, a ≠ p1 + 1 → J a = J0 a) (hl : LT tp len q Z) (ho : o = some (some (.int (i32 0)), (176, zs (u2 (u2 Z 3 5 k) 3 6 (Z 4 3)), J, RP p0 p1 p2 p3 p4 p5 p6 p7))) : CE p1 Z0 J0 (RP p0 p1 p2 p3 p4 p5 p6 p7) (k, tkF tp len q) o :=
  ⟨_, J, CX_u3 (CX_u3 h1), h2, ⟨by rw [u2f (by decide), u2s], by rw [u2s, hl.2.2.1]⟩, ho⟩
theorem h_isNumber (hl : LT tp len q Z) (hq : q ≤ len) {lo hi : Int} (b1 : -10000 ≤ lo ∧ lo ≤ 10000) (b2 : -10000 ≤ hi ∧ hi ≤ 10000) : Mean (d + 2) 61 [.ref 3, .int (i32 lo), .int (i32 hi)] (176, zs Z, J, RP p0 p1 p2 p3 p4 p5 p6 p7) = if eNum tp len q lo hi = 0 then some (some (.int (i32 1)), (176, zs Z, J, RP p0 p1 p2 p3 p4 p5 p6 p7)) else some (some (.int (i32 0)), (176, zs (u2 (u2 Z 3 5 (eNum tp len q lo hi)) 3 6 (Z 4 3)), J, RP p0 p1 p2 p3 p4 p5 p6 p7)) := by
  have hK5 := tk_K5 (tp := tp) (len := len) (q := q)
  rw [e_X5_isNumber, k_X5_isNumber_0]
  unfold eNum
  by_cases c1 : tkK tp len q = 2
  · have hv := hl.2.2.2 c1
    have hb := (tk_num hq c1).1
    rw [if_pos c1]
    by_cases c2 : lo ≤ tkV tp len q ∧ tkV tp len q ≤ hi
    · rw [if_pos c2, if_pos rfl]
      simp (disch := omega) only [k_X5_isNumber_11, k_X5_isNumber_16, k_X5_isNumber_17, k_X5_isNumber_28, k_X5_isNumber_39, k_X5_isNumber_43, k_X5_isNumber_44, k_X5_isNumber_49, k_X5_isNumber_54, k_X5_isNumber_57, k_X5_isNumber_61, k_X5_isNumber_62, li_0, li_1, li_2, li_3, li_4, li_5, li_6, li_9, li_10, li_40, lm_1, lm_2, lm_3, lm_4, zs_ap, i32_add, i32_sub, i32_mul, i32_neg, i32_lt, i32_le, i32_eq, i32_nat, ckn, pka_r, pka_v, if_pos, if_neg, if_true, if_false, hl.2.1, c1, hv, or_true]
    · rw [if_neg c2, if_neg (show ¬ (2 : Int) = 0 by decide)]
      by_cases c3 : tkV tp len q < lo
      · simp (disch := omega) only [k_X5_isNumber_11, k_X5_isNumber_16, k_X5_isNumber_17, k_X5_isNumber_28, k_X5_isNumber_39, k_X5_isNumber_43, k_X5_isNumber_44, k_X5_isNumber_49, k_X5_isNumber_54, k_X5_isNumber_57, k_X5_isNumber_61, k_X5_isNumber_62, li_0, li_1, li_2, li_3, li_4, li_5, li_6, li_9, li_10, li_40, lm_1, lm_2, lm_3, lm_4, zs_ap, i32_add, i32_sub, i32_mul, i32_neg, i32_lt, i32_le, i32_eq, i32_nat, ckn, pka_r, pka_v, if_pos, if_neg, if_true, if_false, hl.2.1, c1, hv, h_refuse, true_or]
      · simp (disch := omega) only [k_X5_isNumber_11, k_X5_isNumber_16, k_X5_isNumber_17, k_X5_isNumber_28, k_X5_isNumber_39, k_X5_isNumber_43, k_X5_isNumber_44, k_X5_isNumber_49, k_X5_isNumber_54, k_X5_isNumber_57, k_X5_isNumber_61, k_X5_isNumber_62, li_0, li_1, li_2, li_3, li_4, li_5, li_6, li_9, li_10, li_40, lm_1, lm_2, lm_3, lm_4, zs_ap, i32_add, i32_sub, i32_mul, i32_neg, i32_lt, i32_le, i32_eq, i32_nat, ckn, pka_r, pka_v, if_pos, if_neg, if_true, if_false, hl.2.1, c1, hv, h_refuse, true_or]
  · rw [if_neg c1, if_neg (show ¬ (1 : Int) = 0 by decide)]
    simp (disch := omega) only [k_X5_isNumber_11, k_X5_isNumber_16, k_X5_isNumber_17, k_X5_isNumber_28, k_X5_isNumber_39, k_X5_isNumber_43, k_X5_isNumber_44, k_X5_isNumber_49, k_X5_isNumber_54, k_X5_isNumber_57, k_X5_isNumber_61, k_X5_isNumber_62, li_0, li_1, li_2, li_3, li_4, li_5, li_6, li_9, li_10, li_40, lm_1, lm_2, lm_3, lm_4, zs_ap, i32_add, i32_sub, i32_mul, i32_neg, i32_lt, i32_le, i32_eq, i32_nat, ckn, pka_r, pka_v, if_pos, if_neg, if_true, if_false, hl.2.1, h_refuse, true_or]
theorem h_takeNumber (ht : CT tp len p1 Z0) (h : CQ len p1 c Z0 J0 D N q Z J) {lo hi : Int} (b1 : -10000 ≤ lo ∧ lo ≤ 10000) (b2 : -10000 ≤ hi ∧ hi ≤ 10000) : (eNum tp len q lo hi = 0 → ∃ Z' : Nat → Nat → Int, CQ len p1 c Z0 J0 D N (tkB tp len q) Z' J ∧ Z' 4 4 = tkV tp len q ∧ (LT tp len q Z' ∧ FC 4 [1, 2, 3, 4] Z Z') ∧ Mean (d + 3) 60 [.ref 3, .int (i32 lo), .int (i32 hi)] (176, zs Z, J, RP p0 p1 p2 p3 p4 p5 p6 p7) = some (some (.int (i32 1)), (176, zs Z', J, RP p0 p1 p2 p3 p4 p5 p6 p7))) ∧ (eNum tp len q lo hi ≠ 0 → CE p1 Z0 J0 (RP p0 p1 p2 p3 p4 p5 p6 p7) (eNum tp len q lo hi, tkF tp len q) (Mean (d + 3) 60 [.ref 3, .int (i32 lo), .int (i32 hi)] (176, zs Z, J, RP p0 p1 p2 p3 p4 p5 p6 p7))) := by
  obtain ⟨Z', f, l, h', e⟩ := CQ_adv (d := d + 1) (p0 := p0) (p1 := p1) (p2 := p2) (p3 := p3) (p4 := p4) (p5 := p5) (p6 := p6) (p7 := p7) ht h
  have hn := h_isNumber (d := d) (J := J) (p0 := p0) (p1 := p1) (p2 := p2) (p3 := p3) (p4 := p4) (p5 := p5) (p6 := p6) (p7 := p7) (Z := Z') l h.2.2.2.1.2 b1 b2
  constructor
  · intro c0
    rw [if_pos c0] at hn
    have c1 : tkK tp len q = 2 := by
      unfold eNum at c0
      split at c0
      · assumption
      · cases c0
    refine ⟨Z', h', l.2.2.2 c1, ⟨l, f⟩, ?_⟩
    rw [e_X5_takeNumber, k_X5_takeNumber_0]
    simp (disch := omega) only [k_X5_takeNumber_7, k_X5_takeNumber_13, li_0, li_1, li_2, li_3, li_4, li_5, li_6, li_9, li_10, li_40, lm_1, lm_2, lm_3, lm_4, zs_ap, i32_add, i32_sub, i32_mul, i32_neg, i32_lt, i32_le, i32_eq, i32_nat, ckn, pka_r, pka_v, if_pos, if_neg, if_true, if_false, e, hn, or_true]
  · intro c0
    rw [if_neg c0] at hn
    refine CE_mk h'.1 h'.2.1 l ?_
    rw [e_X5_takeNumber, k_X5_takeNumber_0]
    simp (disch := omega) only [k_X5_takeNumber_7, k_X5_takeNumber_13, li_0, li_1, li_2, li_3, li_4, li_5, li_6, li_9, li_10, li_40, lm_1, lm_2, lm_3, lm_4, zs_ap, i32_add, i32_sub, i32_mul, i32_neg, i32_lt, i32_le, i32_eq, i32_nat, ckn, pka_r, pka_v, if_pos, if_neg, if_true, if_false, e, hn, true_or]
theorem h_takeSemicolon (ht : CT tp len p1 Z0) (h : CQ len p1 c Z0 J0 D N q Z J) : (tkK tp len q = 3 → ∃ Z' : Nat → Nat → Int, CQ len p1 c Z0 J0 D N (tkB tp len q) Z' J ∧ Mean (d + 2) 59 [.ref 3] (176, zs Z, J, RP p0 p1 p2 p3 p4 p5 p6 p7) = some (some (.int (i32 1)), (176, zs Z', J, RP p0 p1 p2 p3 p4 p5 p6 p7))) ∧ (tkK tp len q ≠ 3 → CE p1 Z0 J0 (RP p0 p1 p2 p3 p4 p5 p6 p7) (1, tkF tp len q) (Mean (d + 2) 59 [.ref 3] (176, zs Z, J, RP p0 p1 p2 p3 p4 p5 p6 p7))) := by
  obtain ⟨Z', f, l, h', e⟩ := CQ_adv (d := d) (p0 := p0) (p1 := p1) (p2 := p2) (p3 := p3) (p4 := p4) (p5 := p5) (p6 := p6) (p7 := p7) ht h
  have hK5 := tk_K5 (tp := tp) (len := len) (q := q)
  constructor
  · intro c0
    refine ⟨Z', h', ?_⟩
    rw [e_X5_takeSemicolon, k_X5_takeSemicolon_0]
    simp (disch := omega) only [k_X5_takeSemicolon_7, k_X5_takeSemicolon_18, k_X5_takeSemicolon_23, k_X5_takeSemicolon_26, k_X5_takeSemicolon_30, k_X5_takeSemicolon_31, li_0, li_1, li_2, li_3, li_4, li_5, li_6, li_9, li_10, li_40, lm_1, lm_2, lm_3, lm_4, zs_ap, i32_add, i32_sub, i32_mul, i32_neg, i32_lt, i32_le, i32_eq, i32_nat, ckn, pka_r, pka_v, if_pos, if_neg, if_true, if_false, e, l.2.1, c0, or_true]
  · intro c0
    refine CE_mk h'.1 h'.2.1 l ?_
    rw [e_X5_takeSemicolon, k_X5_takeSemicolon_0]
    simp (disch := omega) only [k_X5_takeSemicolon_7, k_X5_takeSemicolon_18, k_X5_takeSemicolon_23, k_X5_takeSemicolon_26, k_X5_takeSemicolon_30, k_X5_takeSemicolon_31, li_0, li_1, li_2, li_3, li_4, li_5, li_6, li_9, li_10, li_40, lm_1, lm_2, lm_3, lm_4, zs_ap, i32_add, i32_sub, i32_mul, i32_neg, i32_lt, i32_le, i32_eq, i32_nat, ckn, pka_r, pka_v, if_pos, if_neg, if_true, if_false, e, l.2.1, h_refuse, true_or]
theorem h_takeWord (ht : CT tp len p1 Z0) (h : CQ len p1 c Z0 J0 D N q Z J) : (tkK tp len q = 1 → ∃ Z' : Nat → Nat → Int, (LT tp len q Z' ∧ CQ len p1 c Z0 J0 D N (tkB tp len q) Z' J) ∧ Mean (d + 2) 58 [.ref 3] (176, zs Z, J, RP p0 p1 p2 p3 p4 p5 p6 p7) = some (some (.int (i32 1)), (176, zs Z', J, RP p0 p1 p2 p3 p4 p5 p6 p7))) ∧ (tkK tp len q ≠ 1 → CE p1 Z0 J0 (RP p0 p1 p2 p3 p4 p5 p6 p7) (1, tkF tp len q) (Mean (d + 2) 58 [.ref 3] (176, zs Z, J, RP p0 p1 p2 p3 p4 p5 p6 p7))) := by
  obtain ⟨Z', f, l, h', e⟩ := CQ_adv (d := d) (p0 := p0) (p1 := p1) (p2 := p2) (p3 := p3) (p4 := p4) (p5 := p5) (p6 := p6) (p7 := p7) ht h
  have hK5 := tk_K5 (tp := tp) (len := len) (q := q)
  constructor
  · intro c0
    refine ⟨Z', ⟨l, h'⟩, ?_⟩
    rw [e_X5_takeWord, k_X5_takeWord_0]
    simp (disch := omega) only [k_X5_takeWord_7, k_X5_takeWord_18, k_X5_takeWord_23, k_X5_takeWord_26, k_X5_takeWord_30, k_X5_takeWord_31, li_0, li_1, li_2, li_3, li_4, li_5, li_6, li_9, li_10, li_40, lm_1, lm_2, lm_3, lm_4, zs_ap, i32_add, i32_sub, i32_mul, i32_neg, i32_lt, i32_le, i32_eq, i32_nat, ckn, pka_r, pka_v, if_pos, if_neg, if_true, if_false, e, l.2.1, c0, or_true]
  · intro c0
    refine CE_mk h'.1 h'.2.1 l ?_
    rw [e_X5_takeWord, k_X5_takeWord_0]
    simp (disch := omega) only [k_X5_takeWord_7, k_X5_takeWord_18, k_X5_takeWord_23, k_X5_takeWord_26, k_X5_takeWord_30, k_X5_takeWord_31, li_0, li_1, li_2, li_3, li_4, li_5, li_6, li_9, li_10, li_40, lm_1, lm_2, lm_3, lm_4, zs_ap, i32_add, i32_sub, i32_mul, i32_neg, i32_lt, i32_le, i32_eq, i32_nat, ckn, pka_r, pka_v, if_pos, if_neg, if_true, if_false, e, l.2.1, h_refuse, true_or]
theorem CQ_is (ht : CT tp len p1 Z0) (hx : CX p1 Z0 Z) (hl : LT tp len q Z) (hq : q ≤ len) {t : Nat} (h17 : t < 17) (h00 : 0 < t) : Mean (d + 7) 30 [.ref 4, .retAddr t] (176, zs Z, J, RP p0 p1 p2 p3 p4 p5 p6 p7) = some (some (.int (i32 (bB (tkIs tp len q t)))), (176, zs Z, J, RP p0 p1 p2 p3 p4 p5 p6 p7)) := by
  obtain ⟨t1, t2⟩ := CQ_tc ht hx
  exact h_spells ht.1 hq t1 t2 hl h17 h00
theorem h_takeKeyword (ht : CT tp len p1 Z0) (h : CQ len p1 c Z0 J0 D N q Z J) {t : Nat} (h17 : t < 17) (h00 : 0 < t) : (tkIs tp len q t = true → ∃ Z' : Nat → Nat → Int, (FC 4 [1, 2, 3, 4] Z Z' ∧ CQ len p1 c Z0 J0 D N (tkB tp len q) Z' J) ∧ Mean (d + 8) 57 [.ref 3, .retAddr t] (176, zs Z, J, RP p0 p1 p2 p3 p4 p5 p6 p7) = some (some (.int (i32 1)), (176, zs Z', J, RP p0 p1 p2 p3 p4 p5 p6 p7))) ∧ (tkIs tp len q t = false → CE p1 Z0 J0 (RP p0 p1 p2 p3 p4 p5 p6 p7) (1, tkF tp len q) (Mean (d + 8) 57 [.ref 3, .retAddr t] (176, zs Z, J, RP p0 p1 p2 p3 p4 p5 p6 p7))) := by
  obtain ⟨Z', f, l, h', e⟩ := CQ_adv (d := d + 6) (p0 := p0) (p1 := p1) (p2 := p2) (p3 := p3) (p4 := p4) (p5 := p5) (p6 := p6) (p7 := p7) ht h
  have hs := CQ_is (d := d) (J := J) (p0 := p0) (p1 := p1) (p2 := p2) (p3 := p3) (p4 := p4) (p5 := p5) (p6 := p6) (p7 := p7) (Z := Z') ht h'.1 l h.2.2.2.1.2 h17 h00
  have w1 := (wok h17 h00).1
  constructor
  · intro c0
    rw [c0, bBt] at hs
    refine ⟨Z', ⟨f, h'⟩, ?_⟩
    rw [e_X5_takeKeyword, k_X5_takeKeyword_0]
    simp (disch := omega) only [k_X5_takeKeyword_7, k_X5_takeKeyword_15, k_X5_takeKeyword_18, k_X5_takeKeyword_23, k_X5_takeKeyword_26, k_X5_takeKeyword_30, k_X5_takeKeyword_31, li_0, li_1, li_2, li_3, li_4, li_5, li_6, li_9, li_10, li_40, lm_1, lm_2, lm_3, lm_4, zs_ap, i32_add, i32_sub, i32_mul, i32_neg, i32_lt, i32_le, i32_eq, i32_nat, ckn, pka_r, pka_v, if_pos, if_neg, if_true, if_false, e, w1, hs, or_true]
  · intro c0
    rw [c0, bBf] at hs
    refine CE_mk h'.1 h'.2.1 l ?_
    rw [e_X5_takeKeyword, k_X5_takeKeyword_0]
    simp (disch := omega) only [k_X5_takeKeyword_7, k_X5_takeKeyword_15, k_X5_takeKeyword_18, k_X5_takeKeyword_23, k_X5_takeKeyword_26, k_X5_takeKeyword_30, k_X5_takeKeyword_31, li_0, li_1, li_2, li_3, li_4, li_5, li_6, li_9, li_10, li_40, lm_1, lm_2, lm_3, lm_4, zs_ap, i32_add, i32_sub, i32_mul, i32_neg, i32_lt, i32_le, i32_eq, i32_nat, ckn, pka_r, pka_v, if_pos, if_neg, if_true, if_false, e, w1, hs, h_refuse, true_or]
end
