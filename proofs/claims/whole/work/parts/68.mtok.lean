/-! TOKENS, and THE MODEL'S scan -/
def isSp (c : Nat) : Bool := decide (c = 32 ∨ c = 10)
def isSm (c : Nat) : Bool := decide (97 ≤ c ∧ c ≤ 122)
def isDg (c : Nat) : Bool := decide (48 ≤ c ∧ c ≤ 57)
def rtn (tp : Nat → Nat) (len : Nat) (p : Nat → Bool) : Nat → Nat → Nat
  | 0, q => q
  | n + 1, q => if q < len ∧ p (tp q) = true then rtn tp len p n (q + 1) else q
def rt (tp : Nat → Nat) (len : Nat) (p : Nat → Bool) (q : Nat) : Nat := rtn tp len p (len - q) q
theorem rt_y {tp : Nat → Nat} {len : Nat} {p : Nat → Bool} {q : Nat} (h : q < len) (hp : p (tp q) = true) : rt tp len p q = rt tp len p (q + 1) := by
  unfold rt
  rw [show len - q = (len - (q + 1)) + 1 by omega]
  exact if_pos ⟨h, hp⟩
theorem rt_n {tp : Nat → Nat} {len : Nat} {p : Nat → Bool} {q : Nat} (h : ¬ (q < len ∧ p (tp q) = true)) : rt tp len p q = q := by
  unfold rt
  cases len - q with
  | zero => rfl
  | succ n => exact if_neg h
theorem rt_le (tp : Nat → Nat) (len : Nat) (p : Nat → Bool) : ∀ n q : Nat, len - q = n → q ≤ rt tp len p q ∧ (q ≤ len → rt tp len p q ≤ len)
  | 0, q, h => by
    rw [rt_n (by omega)]
    exact ⟨Nat.le_refl _, id⟩
  | n + 1, q, h => by
    by_cases c : q < len ∧ p (tp q) = true
    · rw [rt_y c.1 c.2]
      have := rt_le tp len p n (q + 1) (by omega)
      exact ⟨by omega, fun _ => this.2 (by omega)⟩
    · rw [rt_n c]
      exact ⟨Nat.le_refl _, id⟩
def vF (tp : Nat → Nat) (f : Nat) : Nat → Int
  | 0 => 0
  | n + 1 => 10 * vF tp f n + ((tp (f + n) : Int) - 48)
def tkF (tp : Nat → Nat) (len q : Nat) : Nat := rt tp len isSp q
def tkB (tp : Nat → Nat) (len q : Nat) : Nat := if len ≤ tkF tp len q then tkF tp len q else if isSm (tp (tkF tp len q)) then rt tp len isSm (tkF tp len q) else if isDg (tp (tkF tp len q)) then rt tp len isDg (tkF tp len q) else tkF tp len q + 1
/-- 0 END, 1 WORD, 2 NUMBER, 3 a semicolon, 4 a minus, 5 no TOKEN -/
def tkK (tp : Nat → Nat) (len q : Nat) : Nat := if len ≤ tkF tp len q then 0 else if isSm (tp (tkF tp len q)) then (if tkB tp len q - tkF tp len q ≤ 8 then 1 else 5) else if isDg (tp (tkF tp len q)) then (if tkB tp len q - tkF tp len q ≤ 4 then 2 else 5) else if tp (tkF tp len q) = 59 then 3 else if tp (tkF tp len q) = 45 then 4 else 5
def tkV (tp : Nat → Nat) (len q : Nat) : Int := vF tp (tkF tp len q) (tkB tp len q - tkF tp len q)
def mh (k : Nat) : Int := if k ≤ 3 then (k : Int) else if k = 4 then 3 else 4
/-- the model's tape, byte by byte -/
def TBz (tp : Nat → Nat) (Z : Nat → Nat → Int) : Prop := ∀ x : Nat, x < 700 → (tp x < 128 ∧ Z 141 x = (tp x : Int)) ∨ ((128 ≤ tp x ∧ tp x < 256) ∧ Z 141 x = (tp x : Int) - 256)
set_option maxRecDepth 8000 in
theorem and255 {c : Nat} {v : Int} (h : (c < 128 ∧ v = (c : Int)) ∨ ((128 ≤ c ∧ c < 256) ∧ v = (c : Int) - 256)) : i32 v &&& 255 = i32 (c : Int) := by
  have h1 : ∀ c : Nat, c < 128 → i32 (c : Int) &&& 255 = i32 (c : Int) := by decide
  have h2 : ∀ c : Nat, c < 256 → 128 ≤ c → i32 ((c : Int) - 256) &&& 255 = i32 (c : Int) := by decide
  rcases h with ⟨h, e⟩ | ⟨h, e⟩
  · rw [e]
    exact h1 c h
  · rw [e]
    exact h2 c h.2 h.1
theorem TBz_TB {tp : Nat → Nat} {Z : Nat → Nat → Int} (h : TBz tp Z) : TB tp Z := fun x hx => ⟨and255 (h x hx), by have := h x hx; omega⟩
def bt (tp : Nat → Nat) (len k : Nat) : Nat := if k < len then tp k else 0
/-- the model stands at the TOKEN from q on -/
def TK (tp : Nat → Nat) (len q : Nat) (Z : Nat → Nat → Int) : Prop := Z 140 2 = (len : Int) ∧ Z 140 3 = (tkF tp len q : Int) ∧ Z 140 4 = (tkB tp len q : Int) ∧ Z 140 5 = mh (tkK tp len q) ∧ (tkK tp len q = 2 → Z 140 6 = tkV tp len q)
theorem li_122 : (122 : Int32) = i32 122 := rfl
theorem li_57 : (57 : Int32) = i32 57 := rfl
theorem li_32 : (32 : Int32) = i32 32 := rfl
theorem li_59 : (59 : Int32) = i32 59 := rfl
theorem li_45 : (45 : Int32) = i32 45 := rfl
theorem li_96 : (96 : Int32) = i32 96 := rfl
section
variable {d : Nat} {J : Nat → Nat → Int64} {Z : Nat → Nat → Int} {p0 p1 p2 p3 p4 p5 p6 p7 : Nat} {tp : Nat → Nat} {len : Nat}
theorem g_byteAt (ht : TBz tp Z) (hl : len ≤ 700) (h2 : Z 140 2 = (len : Int)) {k : Nat} (hk : k < 1000) : Mean (d + 1) 141 [.ref 140, .int (i32 (k : Int))] (176, zs Z, J, RP p0 p1 p2 p3 p4 p5 p6 p7) = some (some (.int (i32 ((bt tp len k : Nat) : Int))), (176, zs Z, J, RP p0 p1 p2 p3 p4 p5 p6 p7)) := by
  rw [e_X11_byteAt]
  unfold bt
  by_cases c : k < len
  · have h3 := ht k (by omega)
    rw [if_pos c]
    simp (disch := omega) only [k_X11_byteAt_0, k_X11_byteAt_8, k_X11_byteAt_14, k_X11_byteAt_21, k_X11_byteAt_22, li_0, li_1, li_2, li_3, li_4, li_5, li_6, li_9, li_10, li_40, lm_1, lm_2, lm_3, lm_4, zs_ap, i32_add, i32_sub, i32_mul, i32_neg, i32_lt, i32_le, i32_eq, i32_nat, ckn, pka_r, pka_v, if_pos, if_neg, if_true, if_false, h2, Int.toNat_natCast, and255 h3]
  · rw [if_neg c]
    simp (disch := omega) only [k_X11_byteAt_0, k_X11_byteAt_8, k_X11_byteAt_14, k_X11_byteAt_21, k_X11_byteAt_22, li_0, li_1, li_2, li_3, li_4, li_5, li_6, li_9, li_10, li_40, lm_1, lm_2, lm_3, lm_4, zs_ap, i32_add, i32_sub, i32_mul, i32_neg, i32_lt, i32_le, i32_eq, i32_nat, ckn, pka_r, pka_v, if_pos, if_neg, if_true, if_false, h2]
    rfl
theorem g_isSmall {c : Nat} (hc : c < 1000) : Mean (d + 1) 142 [.int (i32 (c : Int))] (176, zs Z, J, RP p0 p1 p2 p3 p4 p5 p6 p7) = some (some (.int (i32 (bB (isSm c)))), (176, zs Z, J, RP p0 p1 p2 p3 p4 p5 p6 p7)) := by
  rw [e_X11_isSmall]
  unfold isSm
  by_cases h1 : 97 ≤ c
  · by_cases h2 : c ≤ 122
    · rw [decide_eq_true ⟨h1, h2⟩]
      simp (disch := omega) only [k_X11_isSmall_0, k_X11_isSmall_6, k_X11_isSmall_12, k_X11_isSmall_16, k_X11_isSmall_17, li_0, li_1, li_2, li_3, li_4, li_5, li_6, li_9, li_10, li_40, lm_1, lm_2, lm_3, lm_4, zs_ap, i32_add, i32_sub, i32_mul, i32_neg, i32_lt, i32_le, i32_eq, i32_nat, ckn, pka_r, pka_v, if_pos, if_neg, if_true, if_false, li_97, li_122, bBt, or_true]
    · rw [decide_eq_false (fun q => h2 q.2)]
      simp (disch := omega) only [k_X11_isSmall_0, k_X11_isSmall_6, k_X11_isSmall_12, k_X11_isSmall_16, k_X11_isSmall_17, li_0, li_1, li_2, li_3, li_4, li_5, li_6, li_9, li_10, li_40, lm_1, lm_2, lm_3, lm_4, zs_ap, i32_add, i32_sub, i32_mul, i32_neg, i32_lt, i32_le, i32_eq, i32_nat, ckn, pka_r, pka_v, if_pos, if_neg, if_true, if_false, li_97, li_122, bBf, true_or]
  · rw [decide_eq_false (fun q => h1 q.1)]
    simp (disch := omega) only [k_X11_isSmall_0, k_X11_isSmall_6, k_X11_isSmall_12, k_X11_isSmall_16, k_X11_isSmall_17, li_0, li_1, li_2, li_3, li_4, li_5, li_6, li_9, li_10, li_40, lm_1, lm_2, lm_3, lm_4, zs_ap, i32_add, i32_sub, i32_mul, i32_neg, i32_lt, i32_le, i32_eq, i32_nat, ckn, pka_r, pka_v, if_pos, if_neg, if_true, if_false, li_97, li_122, bBf, true_or]
theorem g_isDigit {c : Nat} (hc : c < 1000) : Mean (d + 1) 143 [.int (i32 (c : Int))] (176, zs Z, J, RP p0 p1 p2 p3 p4 p5 p6 p7) = some (some (.int (i32 (bB (isDg c)))), (176, zs Z, J, RP p0 p1 p2 p3 p4 p5 p6 p7)) := by
  rw [e_X11_isDigit]
  unfold isDg
  by_cases h1 : 48 ≤ c
  · by_cases h2 : c ≤ 57
    · rw [decide_eq_true ⟨h1, h2⟩]
      simp (disch := omega) only [k_X11_isDigit_0, k_X11_isDigit_6, k_X11_isDigit_12, k_X11_isDigit_16, k_X11_isDigit_17, li_0, li_1, li_2, li_3, li_4, li_5, li_6, li_9, li_10, li_40, lm_1, lm_2, lm_3, lm_4, zs_ap, i32_add, i32_sub, i32_mul, i32_neg, i32_lt, i32_le, i32_eq, i32_nat, ckn, pka_r, pka_v, if_pos, if_neg, if_true, if_false, li_48, li_57, bBt, or_true]
    · rw [decide_eq_false (fun q => h2 q.2)]
      simp (disch := omega) only [k_X11_isDigit_0, k_X11_isDigit_6, k_X11_isDigit_12, k_X11_isDigit_16, k_X11_isDigit_17, li_0, li_1, li_2, li_3, li_4, li_5, li_6, li_9, li_10, li_40, lm_1, lm_2, lm_3, lm_4, zs_ap, i32_add, i32_sub, i32_mul, i32_neg, i32_lt, i32_le, i32_eq, i32_nat, ckn, pka_r, pka_v, if_pos, if_neg, if_true, if_false, li_48, li_57, bBf, true_or]
  · rw [decide_eq_false (fun q => h1 q.1)]
    simp (disch := omega) only [k_X11_isDigit_0, k_X11_isDigit_6, k_X11_isDigit_12, k_X11_isDigit_16, k_X11_isDigit_17, li_0, li_1, li_2, li_3, li_4, li_5, li_6, li_9, li_10, li_40, lm_1, lm_2, lm_3, lm_4, zs_ap, i32_add, i32_sub, i32_mul, i32_neg, i32_lt, i32_le, i32_eq, i32_nat, ckn, pka_r, pka_v, if_pos, if_neg, if_true, if_false, li_48, li_57, bBf, true_or]
/-- the store but for the given fields of the model -/
def FX (l : List Nat) (Z Z' : Nat → Nat → Int) : Prop := (∀ a : Nat, a ≠ 140 → Z' a = Z a) ∧ ∀ j : Nat, j ∉ l → Z' 140 j = Z 140 j
theorem FX_rfl {l : List Nat} {Z : Nat → Nat → Int} : FX l Z Z := ⟨fun _ _ => rfl, fun _ _ => rfl⟩
theorem FX_tr {l : List Nat} {Z1 Z2 Z3 : Nat → Nat → Int} (h1 : FX l Z1 Z2) (h2 : FX l Z2 Z3) : FX l Z1 Z3 := ⟨fun a ha => (h2.1 a ha).trans (h1.1 a ha), fun j hj => (h2.2 j hj).trans (h1.2 j hj)⟩
theorem FX_u {l : List Nat} {Z1 Z2 : Nat → Nat → Int} {j : Nat} {v : Int} (h1 : FX l Z1 Z2) (hj : j ∈ l) : FX l Z1 (u2 Z2 140 j v) := ⟨fun a ha => (u2_ne ha).trans (h1.1 a ha), fun k hk => (u2f (fun e => hk (by rw [e]; exact hj))).trans (h1.2 k hk)⟩
theorem FX_TBz {l : List Nat} {Z1 Z2 : Nat → Nat → Int} (h1 : FX l Z1 Z2) (ht : TBz tp Z1) : TBz tp Z2 := fun x hx => by
  rw [h1.1 141 (by decide)]
  exact ht x hx
theorem sc_skip (hl : len ≤ 700) : ∀ (n q : Nat) (Z : Nat → Nat → Int) (o1 : Option Value), len - q = n → q ≤ len → TBz tp Z → Z 140 2 = (len : Int) → Z 140 4 = (q : Int) → ∃ Z' : Nat → Nat → Int, FX [4] Z Z' ∧ Z' 140 4 = ((rt tp len isSp q : Nat) : Int) ∧ den none (Mean d) none tQ_X11_scan (0, [some (.ref 140), o1], [], 176, zs Z, J, RP p0 p1 p2 p3 p4 p5 p6 p7) = den none (Mean d) none tQ_X11_scan (52, [some (.ref 140), o1], [], 176, zs Z', J, RP p0 p1 p2 p3 p4 p5 p6 p7) := by
  intro n
  induction n with
  | zero =>
    intro q Z o1 hn hq ht h2 h4
    refine ⟨Z, FX_rfl, by rw [h4, rt_n (by omega)], ?_⟩
    rw [k_X11_scan_0]
    simp (disch := omega) only [k_X11_scan_11, k_X11_scan_20, k_X11_scan_25, k_X11_scan_34, k_X11_scan_39, k_X11_scan_68, k_X11_scan_80, k_X11_scan_88, k_X11_scan_92, k_X11_scan_103, k_X11_scan_106, k_X11_scan_109, k_X11_scan_122, k_X11_scan_137, k_X11_scan_141, k_X11_scan_142, k_X11_scan_148, k_X11_scan_152, k_X11_scan_155, k_X11_scan_168, k_X11_scan_171, k_X11_scan_174, k_X11_scan_187, k_X11_scan_203, k_X11_scan_210, k_X11_scan_223, k_X11_scan_237, k_X11_scan_241, k_X11_scan_242, k_X11_scan_248, k_X11_scan_255, k_X11_scan_261, k_X11_scan_265, k_X11_scan_266, k_X11_scan_279, li_0, li_1, li_2, li_3, li_4, li_5, li_6, li_9, li_10, li_40, lm_1, lm_2, lm_3, lm_4, zs_ap, i32_add, i32_sub, i32_mul, i32_neg, i32_lt, i32_le, i32_eq, i32_nat, ckn, pka_r, pka_v, if_pos, if_neg, if_true, if_false, h2, h4]
  | succ n ih =>
    intro q Z o1 hn hq ht h2 h4
    have hb := ht q (by omega)
    by_cases c : isSp (tp q) = true
    · have c' := of_decide_eq_true c
      have hx : FX [4] Z (u2 Z 140 4 ((q : Int) + 1)) := FX_u FX_rfl (by decide)
      obtain ⟨Z', e1, e2, e3⟩ := ih (q + 1) (u2 Z 140 4 ((q : Int) + 1)) o1 (by omega) (by omega) (FX_TBz hx ht) (by rw [hx.2 2 (by decide), h2]) (by rw [u2s]; omega)
      refine ⟨Z', FX_tr hx e1, by rw [e2, rt_y (by omega) c], ?_⟩
      rw [k_X11_scan_0]
      by_cases c32 : tp q = 32
      · simp (disch := omega) only [k_X11_scan_11, k_X11_scan_20, k_X11_scan_25, k_X11_scan_34, k_X11_scan_39, k_X11_scan_68, k_X11_scan_80, k_X11_scan_88, k_X11_scan_92, k_X11_scan_103, k_X11_scan_106, k_X11_scan_109, k_X11_scan_122, k_X11_scan_137, k_X11_scan_141, k_X11_scan_142, k_X11_scan_148, k_X11_scan_152, k_X11_scan_155, k_X11_scan_168, k_X11_scan_171, k_X11_scan_174, k_X11_scan_187, k_X11_scan_203, k_X11_scan_210, k_X11_scan_223, k_X11_scan_237, k_X11_scan_241, k_X11_scan_242, k_X11_scan_248, k_X11_scan_255, k_X11_scan_261, k_X11_scan_265, k_X11_scan_266, k_X11_scan_279, li_0, li_1, li_2, li_3, li_4, li_5, li_6, li_9, li_10, li_40, lm_1, lm_2, lm_3, lm_4, zs_ap, i32_add, i32_sub, i32_mul, i32_neg, i32_lt, i32_le, i32_eq, i32_nat, ckn, pka_r, pka_v, if_pos, if_neg, if_true, if_false, h2, h4, Int.toNat_natCast, li_32, zs_u2]
        exact e3
      · have c10 : tp q = 10 := by omega
        simp (disch := omega) only [k_X11_scan_11, k_X11_scan_20, k_X11_scan_25, k_X11_scan_34, k_X11_scan_39, k_X11_scan_68, k_X11_scan_80, k_X11_scan_88, k_X11_scan_92, k_X11_scan_103, k_X11_scan_106, k_X11_scan_109, k_X11_scan_122, k_X11_scan_137, k_X11_scan_141, k_X11_scan_142, k_X11_scan_148, k_X11_scan_152, k_X11_scan_155, k_X11_scan_168, k_X11_scan_171, k_X11_scan_174, k_X11_scan_187, k_X11_scan_203, k_X11_scan_210, k_X11_scan_223, k_X11_scan_237, k_X11_scan_241, k_X11_scan_242, k_X11_scan_248, k_X11_scan_255, k_X11_scan_261, k_X11_scan_265, k_X11_scan_266, k_X11_scan_279, li_0, li_1, li_2, li_3, li_4, li_5, li_6, li_9, li_10, li_40, lm_1, lm_2, lm_3, lm_4, zs_ap, i32_add, i32_sub, i32_mul, i32_neg, i32_lt, i32_le, i32_eq, i32_nat, ckn, pka_r, pka_v, if_pos, if_neg, if_true, if_false, h2, h4, Int.toNat_natCast, li_32, zs_u2]
        exact e3
    · refine ⟨Z, FX_rfl, by rw [h4, rt_n (fun q => c q.2)], ?_⟩
      have c' : ¬ (tp q = 32 ∨ tp q = 10) := fun h => c (decide_eq_true h)
      rw [k_X11_scan_0]
      simp (disch := omega) only [k_X11_scan_11, k_X11_scan_20, k_X11_scan_25, k_X11_scan_34, k_X11_scan_39, k_X11_scan_68, k_X11_scan_80, k_X11_scan_88, k_X11_scan_92, k_X11_scan_103, k_X11_scan_106, k_X11_scan_109, k_X11_scan_122, k_X11_scan_137, k_X11_scan_141, k_X11_scan_142, k_X11_scan_148, k_X11_scan_152, k_X11_scan_155, k_X11_scan_168, k_X11_scan_171, k_X11_scan_174, k_X11_scan_187, k_X11_scan_203, k_X11_scan_210, k_X11_scan_223, k_X11_scan_237, k_X11_scan_241, k_X11_scan_242, k_X11_scan_248, k_X11_scan_255, k_X11_scan_261, k_X11_scan_265, k_X11_scan_266, k_X11_scan_279, li_0, li_1, li_2, li_3, li_4, li_5, li_6, li_9, li_10, li_40, lm_1, lm_2, lm_3, lm_4, zs_ap, i32_add, i32_sub, i32_mul, i32_neg, i32_lt, i32_le, i32_eq, i32_nat, ckn, pka_r, pka_v, if_pos, if_neg, if_true, if_false, h2, h4, Int.toNat_natCast, li_32]
theorem sc_word (hl : len ≤ 700) : ∀ (n q : Nat) (Z : Nat → Nat → Int) (x1 : Int32), len - q = n → q ≤ len → TBz tp Z → Z 140 2 = (len : Int) → Z 140 4 = (q : Int) → ∃ Z' : Nat → Nat → Int, FX [4] Z Z' ∧ Z' 140 4 = ((rt tp len isSm q : Nat) : Int) ∧ den none (Mean (d + 1)) none tQ_X11_scan (95, [some (.ref 140), some (.int x1)], [], 176, zs Z, J, RP p0 p1 p2 p3 p4 p5 p6 p7) = den none (Mean (d + 1)) none tQ_X11_scan (122, [some (.ref 140), some (.int x1)], [], 176, zs Z', J, RP p0 p1 p2 p3 p4 p5 p6 p7) := by
  intro n
  induction n with
  | zero =>
    intro q Z x1 hn hq ht h2 h4
    refine ⟨Z, FX_rfl, by rw [h4, rt_n (by omega)], ?_⟩
    have e : bt tp len q = 0 := if_neg (by omega)
    rw [k_X11_scan_95]
    simp (disch := omega) only [k_X11_scan_11, k_X11_scan_20, k_X11_scan_25, k_X11_scan_34, k_X11_scan_39, k_X11_scan_52, k_X11_scan_68, k_X11_scan_80, k_X11_scan_88, k_X11_scan_92, k_X11_scan_103, k_X11_scan_106, k_X11_scan_109, k_X11_scan_137, k_X11_scan_141, k_X11_scan_142, k_X11_scan_148, k_X11_scan_152, k_X11_scan_155, k_X11_scan_168, k_X11_scan_171, k_X11_scan_174, k_X11_scan_187, k_X11_scan_203, k_X11_scan_210, k_X11_scan_223, k_X11_scan_237, k_X11_scan_241, k_X11_scan_242, k_X11_scan_248, k_X11_scan_255, k_X11_scan_261, k_X11_scan_265, k_X11_scan_266, k_X11_scan_279, li_0, li_1, li_2, li_3, li_4, li_5, li_6, li_9, li_10, li_40, lm_1, lm_2, lm_3, lm_4, zs_ap, i32_add, i32_sub, i32_mul, i32_neg, i32_lt, i32_le, i32_eq, i32_nat, ckn, pka_r, pka_v, if_pos, if_neg, if_true, if_false, h4, g_byteAt ht hl h2, e, g_isSmall, show isSm 0 = false from rfl, bBf]
  | succ n ih =>
    intro q Z x1 hn hq ht h2 h4
    have hb := ht q (by omega)
    have e : bt tp len q = tp q := if_pos (by omega)
    by_cases c : isSm (tp q) = true
    · have hx : FX [4] Z (u2 Z 140 4 ((q : Int) + 1)) := FX_u FX_rfl (by decide)
      obtain ⟨Z', e1, e2, e3⟩ := ih (q + 1) (u2 Z 140 4 ((q : Int) + 1)) x1 (by omega) (by omega) (FX_TBz hx ht) (by rw [hx.2 2 (by decide), h2]) (by rw [u2s]; omega)
      refine ⟨Z', FX_tr hx e1, by rw [e2, rt_y (by omega) c], ?_⟩
      rw [k_X11_scan_95]
      simp (disch := omega) only [k_X11_scan_11, k_X11_scan_20, k_X11_scan_25, k_X11_scan_34, k_X11_scan_39, k_X11_scan_52, k_X11_scan_68, k_X11_scan_80, k_X11_scan_88, k_X11_scan_92, k_X11_scan_103, k_X11_scan_106, k_X11_scan_109, k_X11_scan_137, k_X11_scan_141, k_X11_scan_142, k_X11_scan_148, k_X11_scan_152, k_X11_scan_155, k_X11_scan_168, k_X11_scan_171, k_X11_scan_174, k_X11_scan_187, k_X11_scan_203, k_X11_scan_210, k_X11_scan_223, k_X11_scan_237, k_X11_scan_241, k_X11_scan_242, k_X11_scan_248, k_X11_scan_255, k_X11_scan_261, k_X11_scan_265, k_X11_scan_266, k_X11_scan_279, li_0, li_1, li_2, li_3, li_4, li_5, li_6, li_9, li_10, li_40, lm_1, lm_2, lm_3, lm_4, zs_ap, i32_add, i32_sub, i32_mul, i32_neg, i32_lt, i32_le, i32_eq, i32_nat, ckn, pka_r, pka_v, if_pos, if_neg, if_true, if_false, h4, g_byteAt ht hl h2, e, g_isSmall, c, bBt, zs_u2]
      exact e3
    · refine ⟨Z, FX_rfl, by rw [h4, rt_n (fun q => c q.2)], ?_⟩
      rw [Bool.not_eq_true] at c
      rw [k_X11_scan_95]
      simp (disch := omega) only [k_X11_scan_11, k_X11_scan_20, k_X11_scan_25, k_X11_scan_34, k_X11_scan_39, k_X11_scan_52, k_X11_scan_68, k_X11_scan_80, k_X11_scan_88, k_X11_scan_92, k_X11_scan_103, k_X11_scan_106, k_X11_scan_109, k_X11_scan_137, k_X11_scan_141, k_X11_scan_142, k_X11_scan_148, k_X11_scan_152, k_X11_scan_155, k_X11_scan_168, k_X11_scan_171, k_X11_scan_174, k_X11_scan_187, k_X11_scan_203, k_X11_scan_210, k_X11_scan_223, k_X11_scan_237, k_X11_scan_241, k_X11_scan_242, k_X11_scan_248, k_X11_scan_255, k_X11_scan_261, k_X11_scan_265, k_X11_scan_266, k_X11_scan_279, li_0, li_1, li_2, li_3, li_4, li_5, li_6, li_9, li_10, li_40, lm_1, lm_2, lm_3, lm_4, zs_ap, i32_add, i32_sub, i32_mul, i32_neg, i32_lt, i32_le, i32_eq, i32_nat, ckn, pka_r, pka_v, if_pos, if_neg, if_true, if_false, h4, g_byteAt ht hl h2, e, g_isSmall, c, bBf]
theorem sc_num (hl : len ≤ 700) {f : Nat} : ∀ (n q : Nat) (Z : Nat → Nat → Int) (x1 : Int32), len - q = n → f ≤ q → q ≤ len → TBz tp Z → Z 140 2 = (len : Int) → Z 140 3 = (f : Int) → Z 140 4 = (q : Int) → (q - f ≤ 4 → Z 140 6 = vF tp f (q - f)) → ∃ Z' : Nat → Nat → Int, FX [4, 6] Z Z' ∧ Z' 140 4 = ((rt tp len isDg q : Nat) : Int) ∧ (rt tp len isDg q - f ≤ 4 → Z' 140 6 = vF tp f (rt tp len isDg q - f)) ∧ den none (Mean (d + 1)) none tQ_X11_scan (160, [some (.ref 140), some (.int x1)], [], 176, zs Z, J, RP p0 p1 p2 p3 p4 p5 p6 p7) = den none (Mean (d + 1)) none tQ_X11_scan (223, [some (.ref 140), some (.int x1)], [], 176, zs Z', J, RP p0 p1 p2 p3 p4 p5 p6 p7) := by
  intro n
  induction n with
  | zero =>
    intro q Z x1 hn hf hq ht h2 h3 h4 h6
    have er := rt_n (tp := tp) (len := len) (p := isDg) (q := q) (by omega)
    refine ⟨Z, FX_rfl, by rw [h4, er], by rw [er]; exact h6, ?_⟩
    have e : bt tp len q = 0 := if_neg (by omega)
    rw [k_X11_scan_160]
    simp (disch := omega) only [k_X11_scan_11, k_X11_scan_20, k_X11_scan_25, k_X11_scan_34, k_X11_scan_39, k_X11_scan_52, k_X11_scan_68, k_X11_scan_80, k_X11_scan_88, k_X11_scan_92, k_X11_scan_103, k_X11_scan_106, k_X11_scan_109, k_X11_scan_122, k_X11_scan_137, k_X11_scan_141, k_X11_scan_142, k_X11_scan_148, k_X11_scan_152, k_X11_scan_155, k_X11_scan_168, k_X11_scan_171, k_X11_scan_174, k_X11_scan_187, k_X11_scan_203, k_X11_scan_210, k_X11_scan_237, k_X11_scan_241, k_X11_scan_242, k_X11_scan_248, k_X11_scan_255, k_X11_scan_261, k_X11_scan_265, k_X11_scan_266, k_X11_scan_279, li_0, li_1, li_2, li_3, li_4, li_5, li_6, li_9, li_10, li_40, lm_1, lm_2, lm_3, lm_4, zs_ap, i32_add, i32_sub, i32_mul, i32_neg, i32_lt, i32_le, i32_eq, i32_nat, ckn, pka_r, pka_v, if_pos, if_neg, if_true, if_false, h4, g_byteAt ht hl h2, e, g_isDigit, show isDg 0 = false from rfl, bBf]
  | succ n ih =>
    intro q Z x1 hn hf hq ht h2 h3 h4 h6
    have hb := ht q (by omega)
    have e : bt tp len q = tp q := if_pos (by omega)
    by_cases c : isDg (tp q) = true
    · by_cases c4 : q - f < 4
      · have hx : FX [4, 6] Z (u2 (u2 Z 140 6 (10 * Z 140 6 + (tp q : Int) - 48)) 140 4 ((q : Int) + 1)) := FX_u (FX_u FX_rfl (by decide)) (by decide)
        obtain ⟨Z', e1, e2, e3, e4⟩ := ih (q + 1) _ x1 (by omega) (by omega) (by omega) (FX_TBz hx ht) (by rw [hx.2 2 (by decide), h2]) (by rw [hx.2 3 (by decide), h3]) (by rw [u2s]; omega) (fun _ => by
          rw [u2f (by decide), u2s, h6 (by omega), show q + 1 - f = (q - f) + 1 by omega]
          rw [show vF tp f ((q - f) + 1) = 10 * vF tp f (q - f) + ((tp (f + (q - f)) : Int) - 48) from rfl, show f + (q - f) = q by omega]
          omega)
        refine ⟨Z', FX_tr hx e1, by rw [e2, rt_y (by omega) c], by rw [rt_y (by omega) c]; exact e3, ?_⟩
        rw [k_X11_scan_160]
        simp (disch := omega) only [k_X11_scan_11, k_X11_scan_20, k_X11_scan_25, k_X11_scan_34, k_X11_scan_39, k_X11_scan_52, k_X11_scan_68, k_X11_scan_80, k_X11_scan_88, k_X11_scan_92, k_X11_scan_103, k_X11_scan_106, k_X11_scan_109, k_X11_scan_122, k_X11_scan_137, k_X11_scan_141, k_X11_scan_142, k_X11_scan_148, k_X11_scan_152, k_X11_scan_155, k_X11_scan_168, k_X11_scan_171, k_X11_scan_174, k_X11_scan_187, k_X11_scan_203, k_X11_scan_210, k_X11_scan_237, k_X11_scan_241, k_X11_scan_242, k_X11_scan_248, k_X11_scan_255, k_X11_scan_261, k_X11_scan_265, k_X11_scan_266, k_X11_scan_279, li_0, li_1, li_2, li_3, li_4, li_5, li_6, li_9, li_10, li_40, lm_1, lm_2, lm_3, lm_4, zs_ap, i32_add, i32_sub, i32_mul, i32_neg, i32_lt, i32_le, i32_eq, i32_nat, ckn, pka_r, pka_v, if_pos, if_neg, if_true, if_false, h4, h3, g_byteAt ht hl h2, e, g_isDigit, c, bBt, zs_u2, li_48, u2f (show 4 ≠ 6 by decide)]
        exact e4
      · have hx : FX [4, 6] Z (u2 Z 140 4 ((q : Int) + 1)) := FX_u FX_rfl (by decide)
        obtain ⟨Z', e1, e2, e3, e4⟩ := ih (q + 1) _ x1 (by omega) (by omega) (by omega) (FX_TBz hx ht) (by rw [hx.2 2 (by decide), h2]) (by rw [hx.2 3 (by decide), h3]) (by rw [u2s]; omega) (fun q => absurd q (by omega))
        refine ⟨Z', FX_tr hx e1, by rw [e2, rt_y (by omega) c], by rw [rt_y (by omega) c]; exact e3, ?_⟩
        rw [k_X11_scan_160]
        simp (disch := omega) only [k_X11_scan_11, k_X11_scan_20, k_X11_scan_25, k_X11_scan_34, k_X11_scan_39, k_X11_scan_52, k_X11_scan_68, k_X11_scan_80, k_X11_scan_88, k_X11_scan_92, k_X11_scan_103, k_X11_scan_106, k_X11_scan_109, k_X11_scan_122, k_X11_scan_137, k_X11_scan_141, k_X11_scan_142, k_X11_scan_148, k_X11_scan_152, k_X11_scan_155, k_X11_scan_168, k_X11_scan_171, k_X11_scan_174, k_X11_scan_187, k_X11_scan_203, k_X11_scan_210, k_X11_scan_237, k_X11_scan_241, k_X11_scan_242, k_X11_scan_248, k_X11_scan_255, k_X11_scan_261, k_X11_scan_265, k_X11_scan_266, k_X11_scan_279, li_0, li_1, li_2, li_3, li_4, li_5, li_6, li_9, li_10, li_40, lm_1, lm_2, lm_3, lm_4, zs_ap, i32_add, i32_sub, i32_mul, i32_neg, i32_lt, i32_le, i32_eq, i32_nat, ckn, pka_r, pka_v, if_pos, if_neg, if_true, if_false, h4, h3, g_byteAt ht hl h2, e, g_isDigit, c, bBt, zs_u2]
        exact e4
    · have er := rt_n (tp := tp) (len := len) (p := isDg) (q := q) (fun q => c q.2)
      refine ⟨Z, FX_rfl, by rw [h4, er], by rw [er]; exact h6, ?_⟩
      rw [Bool.not_eq_true] at c
      rw [k_X11_scan_160]
      simp (disch := omega) only [k_X11_scan_11, k_X11_scan_20, k_X11_scan_25, k_X11_scan_34, k_X11_scan_39, k_X11_scan_52, k_X11_scan_68, k_X11_scan_80, k_X11_scan_88, k_X11_scan_92, k_X11_scan_103, k_X11_scan_106, k_X11_scan_109, k_X11_scan_122, k_X11_scan_137, k_X11_scan_141, k_X11_scan_142, k_X11_scan_148, k_X11_scan_152, k_X11_scan_155, k_X11_scan_168, k_X11_scan_171, k_X11_scan_174, k_X11_scan_187, k_X11_scan_203, k_X11_scan_210, k_X11_scan_237, k_X11_scan_241, k_X11_scan_242, k_X11_scan_248, k_X11_scan_255, k_X11_scan_261, k_X11_scan_265, k_X11_scan_266, k_X11_scan_279, li_0, li_1, li_2, li_3, li_4, li_5, li_6, li_9, li_10, li_40, lm_1, lm_2, lm_3, lm_4, zs_ap, i32_add, i32_sub, i32_mul, i32_neg, i32_lt, i32_le, i32_eq, i32_nat, ckn, pka_r, pka_v, if_pos, if_neg, if_true, if_false, h4, g_byteAt ht hl h2, e, g_isDigit, c, bBf]
theorem g_scan (hl : len ≤ 700) (ht : TBz tp Z) (h2 : Z 140 2 = (len : Int)) {q : Nat} (h4 : Z 140 4 = (q : Int)) (hq : q ≤ len) : ∃ Z' : Nat → Nat → Int, FX [3, 4, 5, 6] Z Z' ∧ TK tp len q Z' ∧ Mean (d + 2) 144 [.ref 140] (176, zs Z, J, RP p0 p1 p2 p3 p4 p5 p6 p7) = some (none, (176, zs Z', J, RP p0 p1 p2 p3 p4 p5 p6 p7)) := by
  obtain ⟨Z1, a1, a2, a3⟩ := sc_skip (d := d + 1) (J := J) (p0 := p0) (p1 := p1) (p2 := p2) (p3 := p3) (p4 := p4) (p5 := p5) (p6 := p6) (p7 := p7) (tp := tp) hl (len - q) q Z none rfl hq ht h2 h4
  have hle := rt_le tp len isSp (len - q) q rfl
  have hF : tkF tp len q = rt tp len isSp q := rfl
  rw [← hF] at a2 hle
  generalize hf : tkF tp len q = f at a2 hle hF
  have hfl := hle.2 hq
  have x0 : FX [3, 4, 5, 6] Z Z1 := ⟨a1.1, fun j hj => a1.2 j (fun e => hj (by revert e; simp; omega))⟩
  have x1 : FX [3, 4, 5, 6] Z (u2 Z1 140 3 (f : Int)) := FX_u x0 (by decide)
  have t1 := FX_TBz x1 ht
  have z2 : u2 Z1 140 3 (f : Int) 140 2 = (len : Int) := by rw [x1.2 2 (by decide), h2]
  have z3 : u2 Z1 140 3 (f : Int) 140 3 = (f : Int) := u2s
  have z4 : u2 Z1 140 3 (f : Int) 140 4 = (f : Int) := by rw [u2f (by decide), a2]
  have e0 : Mean (d + 2) 144 [.ref 140] (176, zs Z, J, RP p0 p1 p2 p3 p4 p5 p6 p7) = den none (Mean (d + 1)) none tQ_X11_scan (68, [some (.ref 140), none], [.int (i32 ((bt tp len f : Nat) : Int))], 176, zs (u2 Z1 140 3 (f : Int)), J, RP p0 p1 p2 p3 p4 p5 p6 p7) := by
    rw [e_X11_scan]
    refine Eq.trans a3 ?_
    simp (disch := omega) only [k_X11_scan_11, k_X11_scan_20, k_X11_scan_25, k_X11_scan_34, k_X11_scan_39, k_X11_scan_52, k_X11_scan_80, k_X11_scan_88, k_X11_scan_92, k_X11_scan_103, k_X11_scan_106, k_X11_scan_109, k_X11_scan_122, k_X11_scan_137, k_X11_scan_141, k_X11_scan_142, k_X11_scan_148, k_X11_scan_152, k_X11_scan_155, k_X11_scan_168, k_X11_scan_171, k_X11_scan_174, k_X11_scan_187, k_X11_scan_203, k_X11_scan_210, k_X11_scan_223, k_X11_scan_237, k_X11_scan_241, k_X11_scan_242, k_X11_scan_248, k_X11_scan_255, k_X11_scan_261, k_X11_scan_265, k_X11_scan_266, k_X11_scan_279, li_0, li_1, li_2, li_3, li_4, li_5, li_6, li_9, li_10, li_40, lm_1, lm_2, lm_3, lm_4, zs_ap, i32_add, i32_sub, i32_mul, i32_neg, i32_lt, i32_le, i32_eq, i32_nat, ckn, pka_r, pka_v, if_pos, if_neg, if_true, if_false, a2, zs_u2, u2s, g_byteAt t1 hl z2]
  generalize hZ2 : u2 Z1 140 3 (f : Int) = Z2 at *
  by_cases c0 : f = len
  · have hB : tkB tp len q = f := by
      unfold tkB
      rw [hf, if_pos (by omega)]
    have hK : tkK tp len q = 0 := by
      unfold tkK
      rw [hf, if_pos (by omega)]
    refine ⟨u2 Z2 140 5 0, FX_u x1 (by decide), ⟨?_, ?_, ?_, ?_, ?_⟩, ?_⟩
    · rw [u2f (by decide), z2]
    · rw [u2f (by decide), z3, hf]
    · rw [u2f (by decide), z4, hB]
    · rw [u2s, hK]
      rfl
    · intro q
      rw [hK] at q
      omega
    · rw [e0]
      simp (disch := omega) only [k_X11_scan_11, k_X11_scan_20, k_X11_scan_25, k_X11_scan_34, k_X11_scan_39, k_X11_scan_52, k_X11_scan_68, k_X11_scan_80, k_X11_scan_88, k_X11_scan_92, k_X11_scan_103, k_X11_scan_106, k_X11_scan_109, k_X11_scan_122, k_X11_scan_137, k_X11_scan_141, k_X11_scan_142, k_X11_scan_148, k_X11_scan_152, k_X11_scan_155, k_X11_scan_168, k_X11_scan_171, k_X11_scan_174, k_X11_scan_187, k_X11_scan_203, k_X11_scan_210, k_X11_scan_223, k_X11_scan_237, k_X11_scan_241, k_X11_scan_242, k_X11_scan_248, k_X11_scan_255, k_X11_scan_261, k_X11_scan_265, k_X11_scan_266, k_X11_scan_279, li_0, li_1, li_2, li_3, li_4, li_5, li_6, li_9, li_10, li_40, lm_1, lm_2, lm_3, lm_4, zs_ap, i32_add, i32_sub, i32_mul, i32_neg, i32_lt, i32_le, i32_eq, i32_nat, ckn, pka_r, pka_v, if_pos, if_neg, if_true, if_false, z3, z2, zs_u2]
  · have hb : bt tp len f = tp f := if_pos (by omega)
    have hbb := t1 f (by omega)
    rw [hb] at e0
    cases cs : isSm (tp f)
    · cases cd : isDg (tp f)
      · have hB : tkB tp len q = f + 1 := by
          unfold tkB
          rw [hf, if_neg (by omega), cs, cd, if_neg Bool.false_ne_true, if_neg Bool.false_ne_true]
        by_cases c59 : tp f = 59
        · have hK : tkK tp len q = 3 := by
            unfold tkK
            rw [hf, if_neg (by omega), cs, cd, if_neg Bool.false_ne_true, if_neg Bool.false_ne_true, if_pos c59]
          refine ⟨u2 (u2 Z2 140 5 3) 140 4 ((f : Int) + 1), FX_u (FX_u x1 (by decide)) (by decide), ⟨?_, ?_, ?_, ?_, ?_⟩, ?_⟩
          · rw [u2f (by decide), u2f (by decide), z2]
          · rw [u2f (by decide), u2f (by decide), z3, hf]
          · rw [u2s, hB]
            omega
          · rw [u2f (by decide), u2s, hK]
            rfl
          · intro q
            rw [hK] at q
            omega
          · rw [e0]
            simp (disch := omega) only [k_X11_scan_11, k_X11_scan_20, k_X11_scan_25, k_X11_scan_34, k_X11_scan_39, k_X11_scan_52, k_X11_scan_68, k_X11_scan_80, k_X11_scan_88, k_X11_scan_92, k_X11_scan_103, k_X11_scan_106, k_X11_scan_109, k_X11_scan_122, k_X11_scan_137, k_X11_scan_141, k_X11_scan_142, k_X11_scan_148, k_X11_scan_152, k_X11_scan_155, k_X11_scan_168, k_X11_scan_171, k_X11_scan_174, k_X11_scan_187, k_X11_scan_203, k_X11_scan_210, k_X11_scan_223, k_X11_scan_237, k_X11_scan_241, k_X11_scan_242, k_X11_scan_248, k_X11_scan_255, k_X11_scan_261, k_X11_scan_265, k_X11_scan_266, k_X11_scan_279, li_0, li_1, li_2, li_3, li_4, li_5, li_6, li_9, li_10, li_40, lm_1, lm_2, lm_3, lm_4, zs_ap, i32_add, i32_sub, i32_mul, i32_neg, i32_lt, i32_le, i32_eq, i32_nat, ckn, pka_r, pka_v, if_pos, if_neg, if_true, if_false, z3, z2, g_isSmall, cs, bBf, g_isDigit, cd, li_59, li_45, zs_u2, u2f (show 4 ≠ 5 by decide), z4]
        · by_cases c45 : tp f = 45
          · have hK : tkK tp len q = 4 := by
              unfold tkK
              rw [hf, if_neg (by omega), cs, cd, if_neg Bool.false_ne_true, if_neg Bool.false_ne_true, if_neg c59, if_pos c45]
            refine ⟨u2 (u2 Z2 140 5 3) 140 4 ((f : Int) + 1), FX_u (FX_u x1 (by decide)) (by decide), ⟨?_, ?_, ?_, ?_, ?_⟩, ?_⟩
            · rw [u2f (by decide), u2f (by decide), z2]
            · rw [u2f (by decide), u2f (by decide), z3, hf]
            · rw [u2s, hB]
              omega
            · rw [u2f (by decide), u2s, hK]
              rfl
            · intro q
              rw [hK] at q
              omega
            · rw [e0]
              simp (disch := omega) only [k_X11_scan_11, k_X11_scan_20, k_X11_scan_25, k_X11_scan_34, k_X11_scan_39, k_X11_scan_52, k_X11_scan_68, k_X11_scan_80, k_X11_scan_88, k_X11_scan_92, k_X11_scan_103, k_X11_scan_106, k_X11_scan_109, k_X11_scan_122, k_X11_scan_137, k_X11_scan_141, k_X11_scan_142, k_X11_scan_148, k_X11_scan_152, k_X11_scan_155, k_X11_scan_168, k_X11_scan_171, k_X11_scan_174, k_X11_scan_187, k_X11_scan_203, k_X11_scan_210, k_X11_scan_223, k_X11_scan_237, k_X11_scan_241, k_X11_scan_242, k_X11_scan_248, k_X11_scan_255, k_X11_scan_261, k_X11_scan_265, k_X11_scan_266, k_X11_scan_279, li_0, li_1, li_2, li_3, li_4, li_5, li_6, li_9, li_10, li_40, lm_1, lm_2, lm_3, lm_4, zs_ap, i32_add, i32_sub, i32_mul, i32_neg, i32_lt, i32_le, i32_eq, i32_nat, ckn, pka_r, pka_v, if_pos, if_neg, if_true, if_false, z3, z2, g_isSmall, cs, bBf, g_isDigit, cd, li_59, li_45, zs_u2, u2f (show 4 ≠ 5 by decide), z4]
          · have hK : tkK tp len q = 5 := by
              unfold tkK
              rw [hf, if_neg (by omega), cs, cd, if_neg Bool.false_ne_true, if_neg Bool.false_ne_true, if_neg c59, if_neg c45]
            refine ⟨u2 (u2 Z2 140 5 4) 140 4 ((f : Int) + 1), FX_u (FX_u x1 (by decide)) (by decide), ⟨?_, ?_, ?_, ?_, ?_⟩, ?_⟩
            · rw [u2f (by decide), u2f (by decide), z2]
            · rw [u2f (by decide), u2f (by decide), z3, hf]
            · rw [u2s, hB]
              omega
            · rw [u2f (by decide), u2s, hK]
              rfl
            · intro q
              rw [hK] at q
              omega
            · rw [e0]
              simp (disch := omega) only [k_X11_scan_11, k_X11_scan_20, k_X11_scan_25, k_X11_scan_34, k_X11_scan_39, k_X11_scan_52, k_X11_scan_68, k_X11_scan_80, k_X11_scan_88, k_X11_scan_92, k_X11_scan_103, k_X11_scan_106, k_X11_scan_109, k_X11_scan_122, k_X11_scan_137, k_X11_scan_141, k_X11_scan_142, k_X11_scan_148, k_X11_scan_152, k_X11_scan_155, k_X11_scan_168, k_X11_scan_171, k_X11_scan_174, k_X11_scan_187, k_X11_scan_203, k_X11_scan_210, k_X11_scan_223, k_X11_scan_237, k_X11_scan_241, k_X11_scan_242, k_X11_scan_248, k_X11_scan_255, k_X11_scan_261, k_X11_scan_265, k_X11_scan_266, k_X11_scan_279, li_0, li_1, li_2, li_3, li_4, li_5, li_6, li_9, li_10, li_40, lm_1, lm_2, lm_3, lm_4, zs_ap, i32_add, i32_sub, i32_mul, i32_neg, i32_lt, i32_le, i32_eq, i32_nat, ckn, pka_r, pka_v, if_pos, if_neg, if_true, if_false, z3, z2, g_isSmall, cs, bBf, g_isDigit, cd, li_59, li_45, zs_u2, u2f (show 4 ≠ 5 by decide), z4]
      · have hB : tkB tp len q = rt tp len isDg f := by
          unfold tkB
          rw [hf, if_neg (by omega), cs, cd, if_neg Bool.false_ne_true, if_pos rfl]
        have hrl := rt_le tp len isDg (len - f) f rfl
        have hrl2 := hrl.2 hfl
        have x6 : FX [3, 4, 5, 6] Z (u2 Z2 140 6 0) := FX_u x1 (by decide)
        obtain ⟨Z3, b1, b2, b3, b4⟩ := sc_num (d := d) (J := J) (p0 := p0) (p1 := p1) (p2 := p2) (p3 := p3) (p4 := p4) (p5 := p5) (p6 := p6) (p7 := p7) (tp := tp) hl (f := f) (len - f) f (u2 Z2 140 6 0) (i32 (tp f : Int)) rfl (Nat.le_refl _) hfl (FX_TBz x6 ht) (by rw [u2f (by decide), z2]) (by rw [u2f (by decide), z3]) (by rw [u2f (by decide), z4]) (fun _ => by rw [u2s, Nat.sub_self]; rfl)
        have x7 : FX [3, 4, 5, 6] (u2 Z2 140 6 0) Z3 := ⟨b1.1, fun j hj => b1.2 j (fun e => hj (by revert e; simp; omega))⟩
        have w3 : Z3 140 3 = (f : Int) := by rw [b1.2 3 (by decide), u2f (by decide), z3]
        have w2 : Z3 140 2 = (len : Int) := by rw [b1.2 2 (by decide), u2f (by decide), z2]
        have hV : tkV tp len q = vF tp f (rt tp len isDg f - f) := by
          unfold tkV
          rw [hB, hf]
        generalize hr : rt tp len isDg f = r at *
        by_cases c4 : r - f ≤ 4
        · have hK : tkK tp len q = 2 := by
            unfold tkK
            rw [hB, hf, if_neg (by omega), cs, cd, if_neg Bool.false_ne_true, if_pos rfl, if_pos c4]
          refine ⟨u2 Z3 140 5 2, FX_u (FX_tr x6 x7) (by decide), ⟨?_, ?_, ?_, ?_, ?_⟩, ?_⟩
          · rw [u2f (by decide), w2]
          · rw [u2f (by decide), w3, hf]
          · rw [u2f (by decide), b2, hB]
          · rw [u2s, hK]
            rfl
          · intro _
            rw [u2f (by decide), b3 c4, hV]
          · rw [e0]
            simp (disch := omega) only [k_X11_scan_11, k_X11_scan_20, k_X11_scan_25, k_X11_scan_34, k_X11_scan_39, k_X11_scan_52, k_X11_scan_68, k_X11_scan_80, k_X11_scan_88, k_X11_scan_92, k_X11_scan_103, k_X11_scan_106, k_X11_scan_109, k_X11_scan_122, k_X11_scan_137, k_X11_scan_141, k_X11_scan_142, k_X11_scan_148, k_X11_scan_152, k_X11_scan_155, k_X11_scan_168, k_X11_scan_171, k_X11_scan_174, k_X11_scan_187, k_X11_scan_203, k_X11_scan_210, k_X11_scan_237, k_X11_scan_241, k_X11_scan_242, k_X11_scan_248, k_X11_scan_255, k_X11_scan_261, k_X11_scan_265, k_X11_scan_266, k_X11_scan_279, li_0, li_1, li_2, li_3, li_4, li_5, li_6, li_9, li_10, li_40, lm_1, lm_2, lm_3, lm_4, zs_ap, i32_add, i32_sub, i32_mul, i32_neg, i32_lt, i32_le, i32_eq, i32_nat, ckn, pka_r, pka_v, if_pos, if_neg, if_true, if_false, z3, z2, g_isSmall, cs, bBf, g_isDigit, cd, bBt, zs_u2]
            refine Eq.trans b4 ?_
            simp (disch := omega) only [k_X11_scan_11, k_X11_scan_20, k_X11_scan_25, k_X11_scan_34, k_X11_scan_39, k_X11_scan_52, k_X11_scan_68, k_X11_scan_80, k_X11_scan_88, k_X11_scan_92, k_X11_scan_103, k_X11_scan_106, k_X11_scan_109, k_X11_scan_122, k_X11_scan_137, k_X11_scan_141, k_X11_scan_142, k_X11_scan_148, k_X11_scan_152, k_X11_scan_155, k_X11_scan_168, k_X11_scan_171, k_X11_scan_174, k_X11_scan_187, k_X11_scan_203, k_X11_scan_210, k_X11_scan_223, k_X11_scan_237, k_X11_scan_241, k_X11_scan_242, k_X11_scan_248, k_X11_scan_255, k_X11_scan_261, k_X11_scan_265, k_X11_scan_266, k_X11_scan_279, li_0, li_1, li_2, li_3, li_4, li_5, li_6, li_9, li_10, li_40, lm_1, lm_2, lm_3, lm_4, zs_ap, i32_add, i32_sub, i32_mul, i32_neg, i32_lt, i32_le, i32_eq, i32_nat, ckn, pka_r, pka_v, if_pos, if_neg, if_true, if_false, b2, w3, zs_u2]
        · have hK : tkK tp len q = 5 := by
            unfold tkK
            rw [hB, hf, if_neg (by omega), cs, cd, if_neg Bool.false_ne_true, if_pos rfl, if_neg c4]
          refine ⟨u2 Z3 140 5 4, FX_u (FX_tr x6 x7) (by decide), ⟨?_, ?_, ?_, ?_, ?_⟩, ?_⟩
          · rw [u2f (by decide), w2]
          · rw [u2f (by decide), w3, hf]
          · rw [u2f (by decide), b2, hB]
          · rw [u2s, hK]
            rfl
          · intro q
            rw [hK] at q
            omega
          · rw [e0]
            simp (disch := omega) only [k_X11_scan_11, k_X11_scan_20, k_X11_scan_25, k_X11_scan_34, k_X11_scan_39, k_X11_scan_52, k_X11_scan_68, k_X11_scan_80, k_X11_scan_88, k_X11_scan_92, k_X11_scan_103, k_X11_scan_106, k_X11_scan_109, k_X11_scan_122, k_X11_scan_137, k_X11_scan_141, k_X11_scan_142, k_X11_scan_148, k_X11_scan_152, k_X11_scan_155, k_X11_scan_168, k_X11_scan_171, k_X11_scan_174, k_X11_scan_187, k_X11_scan_203, k_X11_scan_210, k_X11_scan_237, k_X11_scan_241, k_X11_scan_242, k_X11_scan_248, k_X11_scan_255, k_X11_scan_261, k_X11_scan_265, k_X11_scan_266, k_X11_scan_279, li_0, li_1, li_2, li_3, li_4, li_5, li_6, li_9, li_10, li_40, lm_1, lm_2, lm_3, lm_4, zs_ap, i32_add, i32_sub, i32_mul, i32_neg, i32_lt, i32_le, i32_eq, i32_nat, ckn, pka_r, pka_v, if_pos, if_neg, if_true, if_false, z3, z2, g_isSmall, cs, bBf, g_isDigit, cd, bBt, zs_u2]
            refine Eq.trans b4 ?_
            simp (disch := omega) only [k_X11_scan_11, k_X11_scan_20, k_X11_scan_25, k_X11_scan_34, k_X11_scan_39, k_X11_scan_52, k_X11_scan_68, k_X11_scan_80, k_X11_scan_88, k_X11_scan_92, k_X11_scan_103, k_X11_scan_106, k_X11_scan_109, k_X11_scan_122, k_X11_scan_137, k_X11_scan_141, k_X11_scan_142, k_X11_scan_148, k_X11_scan_152, k_X11_scan_155, k_X11_scan_168, k_X11_scan_171, k_X11_scan_174, k_X11_scan_187, k_X11_scan_203, k_X11_scan_210, k_X11_scan_223, k_X11_scan_237, k_X11_scan_241, k_X11_scan_242, k_X11_scan_248, k_X11_scan_255, k_X11_scan_261, k_X11_scan_265, k_X11_scan_266, k_X11_scan_279, li_0, li_1, li_2, li_3, li_4, li_5, li_6, li_9, li_10, li_40, lm_1, lm_2, lm_3, lm_4, zs_ap, i32_add, i32_sub, i32_mul, i32_neg, i32_lt, i32_le, i32_eq, i32_nat, ckn, pka_r, pka_v, if_pos, if_neg, if_true, if_false, b2, w3, zs_u2]
    · have hB : tkB tp len q = rt tp len isSm f := by
        unfold tkB
        rw [hf, if_neg (by omega), cs, if_pos rfl]
      have hrl := rt_le tp len isSm (len - f) f rfl
      have hrl2 := hrl.2 hfl
      obtain ⟨Z3, b1, b2, b4⟩ := sc_word (d := d) (J := J) (p0 := p0) (p1 := p1) (p2 := p2) (p3 := p3) (p4 := p4) (p5 := p5) (p6 := p6) (p7 := p7) (tp := tp) hl (len - f) f Z2 (i32 (tp f : Int)) rfl hfl t1 z2 z4
      have x7 : FX [3, 4, 5, 6] Z2 Z3 := ⟨b1.1, fun j hj => b1.2 j (fun e => hj (by revert e; simp; omega))⟩
      have w3 : Z3 140 3 = (f : Int) := by rw [b1.2 3 (by decide), z3]
      have w2 : Z3 140 2 = (len : Int) := by rw [b1.2 2 (by decide), z2]
      generalize hr : rt tp len isSm f = r at *
      by_cases c4 : r - f ≤ 8
      · have hK : tkK tp len q = 1 := by
          unfold tkK
          rw [hB, hf, if_neg (by omega), cs, if_pos rfl, if_pos c4]
        refine ⟨u2 Z3 140 5 1, FX_u (FX_tr x1 x7) (by decide), ⟨?_, ?_, ?_, ?_, ?_⟩, ?_⟩
        · rw [u2f (by decide), w2]
        · rw [u2f (by decide), w3, hf]
        · rw [u2f (by decide), b2, hB]
        · rw [u2s, hK]
          rfl
        · intro q
          rw [hK] at q
          omega
        · rw [e0]
          simp (disch := omega) only [k_X11_scan_11, k_X11_scan_20, k_X11_scan_25, k_X11_scan_34, k_X11_scan_39, k_X11_scan_52, k_X11_scan_68, k_X11_scan_80, k_X11_scan_88, k_X11_scan_92, k_X11_scan_103, k_X11_scan_106, k_X11_scan_109, k_X11_scan_137, k_X11_scan_141, k_X11_scan_142, k_X11_scan_148, k_X11_scan_152, k_X11_scan_155, k_X11_scan_168, k_X11_scan_171, k_X11_scan_174, k_X11_scan_187, k_X11_scan_203, k_X11_scan_210, k_X11_scan_223, k_X11_scan_237, k_X11_scan_241, k_X11_scan_242, k_X11_scan_248, k_X11_scan_255, k_X11_scan_261, k_X11_scan_265, k_X11_scan_266, k_X11_scan_279, li_0, li_1, li_2, li_3, li_4, li_5, li_6, li_9, li_10, li_40, lm_1, lm_2, lm_3, lm_4, zs_ap, i32_add, i32_sub, i32_mul, i32_neg, i32_lt, i32_le, i32_eq, i32_nat, ckn, pka_r, pka_v, if_pos, if_neg, if_true, if_false, z3, z2, g_isSmall, cs, bBt, li_8]
          refine Eq.trans b4 ?_
          simp (disch := omega) only [k_X11_scan_11, k_X11_scan_20, k_X11_scan_25, k_X11_scan_34, k_X11_scan_39, k_X11_scan_52, k_X11_scan_68, k_X11_scan_80, k_X11_scan_88, k_X11_scan_92, k_X11_scan_103, k_X11_scan_106, k_X11_scan_109, k_X11_scan_122, k_X11_scan_137, k_X11_scan_141, k_X11_scan_142, k_X11_scan_148, k_X11_scan_152, k_X11_scan_155, k_X11_scan_168, k_X11_scan_171, k_X11_scan_174, k_X11_scan_187, k_X11_scan_203, k_X11_scan_210, k_X11_scan_223, k_X11_scan_237, k_X11_scan_241, k_X11_scan_242, k_X11_scan_248, k_X11_scan_255, k_X11_scan_261, k_X11_scan_265, k_X11_scan_266, k_X11_scan_279, li_0, li_1, li_2, li_3, li_4, li_5, li_6, li_9, li_10, li_40, lm_1, lm_2, lm_3, lm_4, zs_ap, i32_add, i32_sub, i32_mul, i32_neg, i32_lt, i32_le, i32_eq, i32_nat, ckn, pka_r, pka_v, if_pos, if_neg, if_true, if_false, b2, w3, zs_u2, li_8]
      · have hK : tkK tp len q = 5 := by
          unfold tkK
          rw [hB, hf, if_neg (by omega), cs, if_pos rfl, if_neg c4]
        refine ⟨u2 Z3 140 5 4, FX_u (FX_tr x1 x7) (by decide), ⟨?_, ?_, ?_, ?_, ?_⟩, ?_⟩
        · rw [u2f (by decide), w2]
        · rw [u2f (by decide), w3, hf]
        · rw [u2f (by decide), b2, hB]
        · rw [u2s, hK]
          rfl
        · intro q
          rw [hK] at q
          omega
        · rw [e0]
          simp (disch := omega) only [k_X11_scan_11, k_X11_scan_20, k_X11_scan_25, k_X11_scan_34, k_X11_scan_39, k_X11_scan_52, k_X11_scan_68, k_X11_scan_80, k_X11_scan_88, k_X11_scan_92, k_X11_scan_103, k_X11_scan_106, k_X11_scan_109, k_X11_scan_137, k_X11_scan_141, k_X11_scan_142, k_X11_scan_148, k_X11_scan_152, k_X11_scan_155, k_X11_scan_168, k_X11_scan_171, k_X11_scan_174, k_X11_scan_187, k_X11_scan_203, k_X11_scan_210, k_X11_scan_223, k_X11_scan_237, k_X11_scan_241, k_X11_scan_242, k_X11_scan_248, k_X11_scan_255, k_X11_scan_261, k_X11_scan_265, k_X11_scan_266, k_X11_scan_279, li_0, li_1, li_2, li_3, li_4, li_5, li_6, li_9, li_10, li_40, lm_1, lm_2, lm_3, lm_4, zs_ap, i32_add, i32_sub, i32_mul, i32_neg, i32_lt, i32_le, i32_eq, i32_nat, ckn, pka_r, pka_v, if_pos, if_neg, if_true, if_false, z3, z2, g_isSmall, cs, bBt, li_8]
          refine Eq.trans b4 ?_
          simp (disch := omega) only [k_X11_scan_11, k_X11_scan_20, k_X11_scan_25, k_X11_scan_34, k_X11_scan_39, k_X11_scan_52, k_X11_scan_68, k_X11_scan_80, k_X11_scan_88, k_X11_scan_92, k_X11_scan_103, k_X11_scan_106, k_X11_scan_109, k_X11_scan_122, k_X11_scan_137, k_X11_scan_141, k_X11_scan_142, k_X11_scan_148, k_X11_scan_152, k_X11_scan_155, k_X11_scan_168, k_X11_scan_171, k_X11_scan_174, k_X11_scan_187, k_X11_scan_203, k_X11_scan_210, k_X11_scan_223, k_X11_scan_237, k_X11_scan_241, k_X11_scan_242, k_X11_scan_248, k_X11_scan_255, k_X11_scan_261, k_X11_scan_265, k_X11_scan_266, k_X11_scan_279, li_0, li_1, li_2, li_3, li_4, li_5, li_6, li_9, li_10, li_40, lm_1, lm_2, lm_3, lm_4, zs_ap, i32_add, i32_sub, i32_mul, i32_neg, i32_lt, i32_le, i32_eq, i32_nat, ckn, pka_r, pka_v, if_pos, if_neg, if_true, if_false, b2, w3, zs_u2, li_8]
end
