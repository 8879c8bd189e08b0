/-! THE MODEL'S noExtra, holdsBy, need, holdsWith, pledge, again -/
def ex (e : Nat → Int) (n : Nat) (Z : Nat → Nat → Int) : Nat → Nat → Int := fun a j => if a = 161 ∧ j < n then e j else Z a j
theorem ex_ne {e : Nat → Int} {n : Nat} {Z : Nat → Nat → Int} {a : Nat} (h : a ≠ 161) : ex e n Z a = Z a := by
  funext j
  unfold ex
  rw [if_neg (fun q => h q.1)]
theorem ex_s {e : Nat → Int} {n : Nat} {Z : Nat → Nat → Int} : u2 (ex e n Z) 161 n (e n) = ex e (n + 1) Z := by
  funext a j
  by_cases c : a = 161
  · subst c
    by_cases c2 : j = n
    · subst c2
      rw [u2s]
      unfold ex
      rw [if_pos ⟨rfl, by omega⟩]
    · rw [u2f c2]
      unfold ex
      by_cases c3 : j < n
      · rw [if_pos ⟨rfl, c3⟩, if_pos ⟨rfl, by omega⟩]
      · rw [if_neg (fun q => c3 q.2), if_neg (fun q => absurd q.2 (by omega))]
  · rw [u2a c, ex_ne c, ex_ne c]
theorem ex_0 {e : Nat → Int} {Z : Nat → Nat → Int} : ex e 0 Z = Z := by
  funext a j
  unfold ex
  rw [if_neg (fun q => absurd q.2 (by omega))]
theorem ex_ex {e e' : Nat → Int} {n k : Nat} {Z : Nat → Nat → Int} (h : k ≤ n) : ex e n (ex e' k Z) = ex e n Z := by
  funext a j
  unfold ex
  by_cases c : a = 161 ∧ j < n
  · rw [if_pos c, if_pos c]
  · rw [if_neg c, if_neg c, if_neg (fun q => c ⟨q.1, by omega⟩)]
theorem ex_id {n : Nat} {Z : Nat → Nat → Int} (h : ∀ i : Nat, i < n → Z 161 i = 0) : ex (fun _ => 0) n Z = Z := by
  funext a j
  unfold ex
  by_cases c : a = 161 ∧ j < n
  · rw [if_pos c, c.1, h j c.2]
  · rw [if_neg c]
theorem ex_MI {m : Mat} {e : Nat → Int} {n : Nat} {Z : Nat → Nat → Int} (h : MI m Z) : MI m (ex e n Z) := MI_fr h (fun j _ => by rw [ex_ne (by decide)]) (fun a _ hb => ex_ne (by omega))
/-- a matter lies in the model, and nothing is added -/
def MB (m : Mat) (Z : Nat → Nat → Int) : Prop := MI m Z ∧ ∀ i : Nat, i < 3 → Z 161 i = 0
def bpl (m : Mat) (e : Nat → Int) : Nat → Int := fun i => qbre m i + e i
theorem MB_MX {m : Mat} {Z : Nat → Nat → Int} (h : MB m Z) : MX (qbre m) Z := fun i hi => by
  rw [h.2 i hi, (h.1.2.1.2.2.2 i hi).2]
  omega
theorem ex_MX {m : Mat} {e : Nat → Int} {n : Nat} {Z : Nat → Nat → Int} (h : MB m Z) (he : ∀ i : Nat, i < n → -200000 ≤ e i ∧ e i ≤ 200000) : MX (bpl m (fun i => if i < n then e i else 0)) (ex e n Z) := fun i hi => by
  rw [ex_ne (by decide), (h.1.2.1.2.2.2 i hi).2]
  unfold ex bpl
  by_cases c : i < n
  · rw [if_pos ⟨rfl, c⟩]
    simp only [if_pos c]
    exact ⟨trivial, he i c⟩
  · rw [if_neg (fun q => c q.2), h.2 i hi]
    simp only [if_neg c]
    exact ⟨trivial, by omega⟩
theorem bBr {α : Type} (c : Bool) {x y : α} : (if i32 (bB c) = i32 0 ∨ i32 (bB c) = i32 1 then x else y) = x := by
  cases c
  · exact if_pos (Or.inl rfl)
  · exact if_pos (Or.inr rfl)
def hdm (m : Mat) (b : Nat → Int) : Bool := hld m b (qbeg m) (qtt m (qfst m))
/-- halving -/
def bs (p : Nat → Bool) : Nat → Nat → Nat → Nat
  | 0, lo, _ => lo
  | n + 1, lo, hi => if lo < hi then (if p ((lo + hi) / 2) then bs p n lo ((lo + hi) / 2) else bs p n ((lo + hi) / 2 + 1) hi) else lo
theorem bs_done {p : Nat → Bool} {lo hi : Nat} (h : hi ≤ lo) : ∀ n : Nat, bs p n lo hi = lo
  | 0 => rfl
  | n + 1 => by
    unfold bs
    rw [if_neg (by omega)]
theorem bs_b {p : Nat → Bool} : ∀ (n lo hi : Nat), lo ≤ hi → lo ≤ bs p n lo hi ∧ bs p n lo hi ≤ hi
  | 0, lo, hi, h => ⟨Nat.le_refl _, h⟩
  | n + 1, lo, hi, h => by
    unfold bs
    by_cases c : lo < hi
    · rw [if_pos c]
      cases p ((lo + hi) / 2)
      · rw [if_neg Bool.false_ne_true]
        have := bs_b (p := p) n ((lo + hi) / 2 + 1) hi (by omega)
        omega
      · rw [if_pos rfl]
        have := bs_b (p := p) n lo ((lo + hi) / 2) (by omega)
        omega
    · rw [if_neg c]
      omega
theorem bs_least {p : Nat → Bool} (hm : ∀ a c : Nat, a ≤ c → p a = true → p c = true) : ∀ (n lo hi : Nat), lo ≤ hi → hi - lo ≤ n → p hi = true → (∀ c : Nat, c < lo → p c = false) → p (bs p n lo hi) = true ∧ ∀ c : Nat, c < bs p n lo hi → p c = false
  | 0, lo, hi, h, hn, h1, h2 => by
    have : lo = hi := by omega
    subst this
    exact ⟨h1, h2⟩
  | n + 1, lo, hi, h, hn, h1, h2 => by
    unfold bs
    by_cases c : lo < hi
    · rw [if_pos c]
      cases cp : p ((lo + hi) / 2)
      · rw [if_neg Bool.false_ne_true]
        refine bs_least hm n ((lo + hi) / 2 + 1) hi (by omega) (by omega) h1 (fun x hx => ?_)
        cases cx : p x
        · rfl
        · rw [hm x ((lo + hi) / 2) (by omega) cx] at cp
          cases cp
      · rw [if_pos rfl]
        exact bs_least hm n lo ((lo + hi) / 2) (by omega) (by omega) cp h2
    · rw [if_neg c]
      have : lo = hi := by omega
      subst this
      exact ⟨h1, h2⟩
theorem mid_c (a c : Nat) : ((a : Int) + (c : Int)).tdiv 2 = (((a + c) / 2 : Nat) : Int) := by
  rw [show (a : Int) + (c : Int) = ((a + c : Nat) : Int) by omega]
  rfl
section
variable {d : Nat} {J : Nat → Nat → Int64} {Z : Nat → Nat → Int} {p0 p1 p2 p3 p4 p5 p6 p7 : Nat} {m : Mat} {b : Nat → Int}
theorem g_noExtra : Mean (d + 1) 197 [.ref 140] (176, zs Z, J, RP p0 p1 p2 p3 p4 p5 p6 p7) = some (none, (176, zs (ex (fun _ => 0) 3 Z), J, RP p0 p1 p2 p3 p4 p5 p6 p7)) := by
  rw [e_X11_noExtra, k_X11_noExtra_0]
  have e := up_eq (fun k => den none (Mean d) none tQ_X11_noExtra (2, [some (.ref 140), some (.int (i32 (k : Int)))], [], 176, zs (ex (fun _ => 0) k Z), J, RP p0 p1 p2 p3 p4 p5 p6 p7)) 3 (fun k hk => by
    rw [k_X11_noExtra_2]
    simp (disch := omega) only [k_X11_noExtra_0, k_X11_noExtra_7, k_X11_noExtra_14, k_X11_noExtra_20, li_0, li_1, li_2, li_3, li_4, li_5, li_6, li_9, li_10, li_40, lm_1, lm_2, lm_3, lm_4, zs_ap, i32_add, i32_sub, i32_mul, i32_neg, i32_lt, i32_le, i32_eq, i32_nat, ckn, pka_r, pka_v, if_pos, if_neg, if_true, if_false, Int.toNat_natCast, zs_u2, ex_s (e := fun _ => 0)]
    rfl)
  rw [ex_0] at e
  refine e.trans ?_
  rw [k_X11_noExtra_2]
  simp (disch := omega) only [k_X11_noExtra_0, k_X11_noExtra_7, k_X11_noExtra_14, k_X11_noExtra_20, li_0, li_1, li_2, li_3, li_4, li_5, li_6, li_9, li_10, li_40, lm_1, lm_2, lm_3, lm_4, zs_ap, i32_add, i32_sub, i32_mul, i32_neg, i32_lt, i32_le, i32_eq, i32_nat, ckn, pka_r, pka_v, if_pos, if_neg, if_true, if_false]
theorem g_holdsBy (h : MB m Z) {e : Int} (he : 0 ≤ e ∧ e ≤ 2000) : ∃ J' : Nat → Nat → Int64, (∀ a : Nat, a ≠ 162 → a ≠ 163 → J' a = J a) ∧ Mean (d + 10) 210 [.ref 140, .int (i32 e)] (176, zs Z, J, RP p0 p1 p2 p3 p4 p5 p6 p7) = some (some (.int (i32 (bB (hdm m (bpl m (fun i => if i < 3 then e else 0)))))), (176, zs Z, J', RP p0 p1 p2 p3 p4 p5 p6 p7)) := by
  have e0 := up_eq (fun k => den none (Mean (d + 9)) (some .boolean) tQ_X11_holdsBy (2, [some (.ref 140), some (.int (i32 e)), some (.int (i32 (k : Int)))], [], 176, zs (ex (fun _ => e) k Z), J, RP p0 p1 p2 p3 p4 p5 p6 p7)) 3 (fun k hk => by
    rw [k_X11_holdsBy_2]
    simp (disch := omega) only [k_X11_holdsBy_0, k_X11_holdsBy_7, k_X11_holdsBy_14, k_X11_holdsBy_20, k_X11_holdsBy_24, k_X11_holdsBy_28, k_X11_holdsBy_32, li_0, li_1, li_2, li_3, li_4, li_5, li_6, li_9, li_10, li_40, lm_1, lm_2, lm_3, lm_4, zs_ap, i32_add, i32_sub, i32_mul, i32_neg, i32_lt, i32_le, i32_eq, i32_nat, ckn, pka_r, pka_v, if_pos, if_neg, if_true, if_false, Int.toNat_natCast, zs_u2, ex_s (e := fun _ => e)]
    rfl)
  rw [ex_0] at e0
  have hM := ex_MI (e := fun _ => e) (n := 3) h.1
  obtain ⟨J', h1, h2, h3⟩ := g_work (d := d) (J := J) (p0 := p0) (p1 := p1) (p2 := p2) (p3 := p3) (p4 := p4) (p5 := p5) (p6 := p6) (p7 := p7) hM (ex_MX (n := 3) (e := fun _ => e) h (fun i hi => by omega))
  refine ⟨J', h1, ?_⟩
  rw [e_X11_holdsBy, k_X11_holdsBy_0]
  refine e0.trans ?_
  rw [k_X11_holdsBy_2]
  simp (disch := omega) only [k_X11_holdsBy_0, k_X11_holdsBy_7, k_X11_holdsBy_14, k_X11_holdsBy_20, k_X11_holdsBy_24, k_X11_holdsBy_28, k_X11_holdsBy_32, li_0, li_1, li_2, li_3, li_4, li_5, li_6, li_9, li_10, li_40, lm_1, lm_2, lm_3, lm_4, zs_ap, i32_add, i32_sub, i32_mul, i32_neg, i32_lt, i32_le, i32_eq, i32_nat, ckn, pka_r, pka_v, if_pos, if_neg, if_true, if_false, h3, g_noExtra, ex_ex, ex_id h.2, g_holds h.1 h2, bBr]
  rfl
def pNeed (m : Mat) (e : Nat) : Bool := hdm m (bpl m (fun i => if i < 3 then (e : Int) else 0))
def aNeed (m : Mat) : Int := if pNeed m 2000 then (bs (pNeed m) 2000 0 2000 : Nat) else -1
theorem nd_loop (h : MB m Z) : ∀ (n lo hi : Nat) (J : Nat → Nat → Int64) (o3 : Option Value), lo ≤ hi → hi ≤ 2000 → hi - lo ≤ n → ∃ J' : Nat → Nat → Int64, (∀ a : Nat, a ≠ 162 → a ≠ 163 → J' a = J a) ∧ den none (Mean (d + 10)) (some .int) tQ_X11_need (18, [some (.ref 140), some (.int (i32 (lo : Int))), some (.int (i32 (hi : Int))), o3], [], 176, zs Z, J, RP p0 p1 p2 p3 p4 p5 p6 p7) = some (some (.int (i32 ((bs (pNeed m) n lo hi : Nat) : Int))), (176, zs Z, J', RP p0 p1 p2 p3 p4 p5 p6 p7)) := by
  intro n
  induction n with
  | zero =>
    intro lo hi J o3 h1 h2 h3
    refine ⟨J, fun _ _ _ => rfl, ?_⟩
    rw [k_X11_need_18]
    simp (disch := omega) only [k_X11_need_0, k_X11_need_7, k_X11_need_10, k_X11_need_12, k_X11_need_23, k_X11_need_34, k_X11_need_37, k_X11_need_42, k_X11_need_46, k_X11_need_49, li_0, li_1, li_2, li_3, li_4, li_5, li_6, li_9, li_10, li_40, lm_1, lm_2, lm_3, lm_4, zs_ap, i32_add, i32_sub, i32_mul, i32_neg, i32_lt, i32_le, i32_eq, i32_nat, ckn, pka_r, pka_v, if_pos, if_neg, if_true, if_false, bs]
  | succ n ih =>
    intro lo hi J o3 h1 h2 h3
    by_cases c : lo < hi
    · obtain ⟨J1, g1, g2⟩ := g_holdsBy (d := d) (J := J) (p0 := p0) (p1 := p1) (p2 := p2) (p3 := p3) (p4 := p4) (p5 := p5) (p6 := p6) (p7 := p7) h (e := (((lo + hi) / 2 : Nat) : Int)) (by omega)
      have em := mid_c lo hi
      have ed := i32_div (a := (lo : Int) + (hi : Int)) (b := 2) (by omega) (by omega)
      rw [em] at ed
      unfold bs
      rw [if_pos c, k_X11_need_18]
      cases cp : pNeed m ((lo + hi) / 2)
      · obtain ⟨J2, g3, g4⟩ := ih ((lo + hi) / 2 + 1) hi J1 (some (.int (i32 (((lo + hi) / 2 : Nat) : Int)))) (by omega) (by omega) (by omega)
        refine ⟨J2, fun a ha hb => (g3 a ha hb).trans (g1 a ha hb), ?_⟩
        unfold pNeed at cp
        rw [cp, bBf] at g2
        simp (disch := omega) only [k_X11_need_0, k_X11_need_7, k_X11_need_10, k_X11_need_12, k_X11_need_23, k_X11_need_34, k_X11_need_37, k_X11_need_42, k_X11_need_46, k_X11_need_49, li_0, li_1, li_2, li_3, li_4, li_5, li_6, li_9, li_10, li_40, lm_1, lm_2, lm_3, lm_4, zs_ap, i32_add, i32_sub, i32_mul, i32_neg, i32_lt, i32_le, i32_eq, i32_nat, ckn, pka_r, pka_v, if_pos, if_neg, if_true, if_false, ed, g2]
        rw [if_neg Bool.false_ne_true]
        exact g4
      · obtain ⟨J2, g3, g4⟩ := ih lo ((lo + hi) / 2) J1 (some (.int (i32 (((lo + hi) / 2 : Nat) : Int)))) (by omega) (by omega) (by omega)
        refine ⟨J2, fun a ha hb => (g3 a ha hb).trans (g1 a ha hb), ?_⟩
        unfold pNeed at cp
        rw [cp, bBt] at g2
        simp (disch := omega) only [k_X11_need_0, k_X11_need_7, k_X11_need_10, k_X11_need_12, k_X11_need_23, k_X11_need_34, k_X11_need_37, k_X11_need_42, k_X11_need_46, k_X11_need_49, li_0, li_1, li_2, li_3, li_4, li_5, li_6, li_9, li_10, li_40, lm_1, lm_2, lm_3, lm_4, zs_ap, i32_add, i32_sub, i32_mul, i32_neg, i32_lt, i32_le, i32_eq, i32_nat, ckn, pka_r, pka_v, if_pos, if_neg, if_true, if_false, ed, g2]
        exact g4
    · refine ⟨J, fun _ _ _ => rfl, ?_⟩
      rw [k_X11_need_18]
      simp (disch := omega) only [k_X11_need_0, k_X11_need_7, k_X11_need_10, k_X11_need_12, k_X11_need_23, k_X11_need_34, k_X11_need_37, k_X11_need_42, k_X11_need_46, k_X11_need_49, li_0, li_1, li_2, li_3, li_4, li_5, li_6, li_9, li_10, li_40, lm_1, lm_2, lm_3, lm_4, zs_ap, i32_add, i32_sub, i32_mul, i32_neg, i32_lt, i32_le, i32_eq, i32_nat, ckn, pka_r, pka_v, if_pos, if_neg, if_true, if_false, bs]
theorem g_need (h : MB m Z) : ∃ J' : Nat → Nat → Int64, (∀ a : Nat, a ≠ 162 → a ≠ 163 → J' a = J a) ∧ Mean (d + 11) 211 [.ref 140] (176, zs Z, J, RP p0 p1 p2 p3 p4 p5 p6 p7) = some (some (.int (i32 (aNeed m))), (176, zs Z, J', RP p0 p1 p2 p3 p4 p5 p6 p7)) := by
  obtain ⟨J1, g1, g2⟩ := g_holdsBy (d := d) (J := J) (p0 := p0) (p1 := p1) (p2 := p2) (p3 := p3) (p4 := p4) (p5 := p5) (p6 := p6) (p7 := p7) h (e := 2000) (by omega)
  unfold aNeed
  cases cp : pNeed m 2000
  · refine ⟨J1, g1, ?_⟩
    unfold pNeed at cp
    rw [show ((2000 : Nat) : Int) = 2000 from rfl] at cp
    rw [cp, bBf] at g2
    rw [e_X11_need]
    simp (disch := omega) only [k_X11_need_0, k_X11_need_7, k_X11_need_10, k_X11_need_12, k_X11_need_23, k_X11_need_34, k_X11_need_37, k_X11_need_42, k_X11_need_46, k_X11_need_49, li_0, li_1, li_2, li_3, li_4, li_5, li_6, li_9, li_10, li_40, lm_1, lm_2, lm_3, lm_4, zs_ap, i32_add, i32_sub, i32_mul, i32_neg, i32_lt, i32_le, i32_eq, i32_nat, ckn, pka_r, pka_v, if_pos, if_neg, if_true, if_false, li_2000, g2, Bool.false_eq_true]
  · obtain ⟨J2, g3, g4⟩ := nd_loop (d := d) (p0 := p0) (p1 := p1) (p2 := p2) (p3 := p3) (p4 := p4) (p5 := p5) (p6 := p6) (p7 := p7) h 2000 0 2000 J1 none (by omega) (by omega) (by omega)
    refine ⟨J2, fun a ha hb => (g3 a ha hb).trans (g1 a ha hb), ?_⟩
    unfold pNeed at cp
    rw [show ((2000 : Nat) : Int) = 2000 from rfl] at cp
    rw [cp, bBt] at g2
    rw [e_X11_need]
    simp (disch := omega) only [k_X11_need_0, k_X11_need_7, k_X11_need_10, k_X11_need_12, k_X11_need_23, k_X11_need_34, k_X11_need_37, k_X11_need_42, k_X11_need_46, k_X11_need_49, li_0, li_1, li_2, li_3, li_4, li_5, li_6, li_9, li_10, li_40, lm_1, lm_2, lm_3, lm_4, zs_ap, i32_add, i32_sub, i32_mul, i32_neg, i32_lt, i32_le, i32_eq, i32_nat, ckn, pka_r, pka_v, if_pos, if_neg, if_true, if_false, li_2000, g2]
    exact g4
end
