/-! THE MODEL'S stayBits, findStay, turns -/
section
variable {d : Nat} {J : Nat → Nat → Int64} {Z : Nat → Nat → Int} {p0 p1 p2 p3 p4 p5 p6 p7 : Nat} {m : Mat} {b : Nat → Int}
theorem l_stay (h : MI m Z) (hx : MX b Z) {s w : Nat} (hs : s < qN m) (hw : w < 6) (hc : qcnt m w = true) : ∀ M : Nat, M ≤ 41 →
    den none (Mean (d + 4)) (some .long) tQ_X11_stayBits (22, [some (.ref 140), some (.int (i32 (s : Int))), some (.int (i32 ((M : Int) - 1))), some (.int (i32 (w : Int)))], [], 176, zs Z, J, RP p0 p1 p2 p3 p4 p5 p6 p7) = den none (Mean (d + 4)) (some .long) tQ_X11_stayBits (42, [some (.ref 140), some (.int (i32 (s : Int))), some (.int (i32 ((dn (qwould m b s w) M : Nat) - 1 : Int))), some (.int (i32 (w : Int)))], [], 176, zs Z, J, RP p0 p1 p2 p3 p4 p5 p6 p7)
  | 0, _ => by
    rw [k_X11_stayBits_22]
    simp (disch := omega) only [k_X11_stayBits_0, k_X11_stayBits_5, k_X11_stayBits_11, k_X11_stayBits_16, k_X11_stayBits_19, k_X11_stayBits_26, k_X11_stayBits_33, k_X11_stayBits_36, k_X11_stayBits_48, li_0, li_1, li_2, li_3, li_4, li_5, li_6, li_9, li_10, li_40, lm_1, lm_2, lm_3, lm_4, zs_ap, i32_add, i32_sub, i32_mul, i32_neg, i32_lt, i32_le, i32_eq, i32_nat, ckn, pka_r, pka_v, if_pos, if_neg, if_true, if_false]
    rfl
  | M + 1, hM => by
    have ih := l_stay h hx hs hw hc M (by omega)
    have e : ((M + 1 : Nat) : Int) - 1 = (M : Int) := by omega
    rw [k_X11_stayBits_22, e]
    unfold dn
    cases hd : qwould m b s w M
    · simp (disch := omega) only [k_X11_stayBits_0, k_X11_stayBits_5, k_X11_stayBits_11, k_X11_stayBits_16, k_X11_stayBits_19, k_X11_stayBits_26, k_X11_stayBits_33, k_X11_stayBits_36, k_X11_stayBits_48, li_0, li_1, li_2, li_3, li_4, li_5, li_6, li_9, li_10, li_40, lm_1, lm_2, lm_3, lm_4, zs_ap, i32_add, i32_sub, i32_mul, i32_neg, i32_lt, i32_le, i32_eq, i32_nat, ckn, pka_r, pka_v, if_pos, if_neg, if_true, if_false, g_would h hx, hd, bBf]
      simp
    · simp (disch := omega) only [k_X11_stayBits_0, k_X11_stayBits_5, k_X11_stayBits_11, k_X11_stayBits_16, k_X11_stayBits_19, k_X11_stayBits_26, k_X11_stayBits_33, k_X11_stayBits_36, k_X11_stayBits_48, li_0, li_1, li_2, li_3, li_4, li_5, li_6, li_9, li_10, li_40, lm_1, lm_2, lm_3, lm_4, zs_ap, i32_add, i32_sub, i32_mul, i32_neg, i32_lt, i32_le, i32_eq, i32_nat, ckn, pka_r, pka_v, if_pos, if_neg, if_true, if_false, g_would h hx, hd, bBt]
      exact ih
theorem g_stayBits (h : MI m Z) (hx : MX b Z) {s : Nat} (hs : s < qN m) : ∃ x : Int64, (∀ n : Nat, n < 64 → gb x n = qstay m b s n) ∧ Mean (d + 5) 189 [.ref 140, .int (i32 (s : Int))] (176, zs Z, J, RP p0 p1 p2 p3 p4 p5 p6 p7) = some (some (.long x), (176, zs Z, J, RP p0 p1 p2 p3 p4 p5 p6 p7)) := by
  have hq := qms_le m b s 6
  refine ⟨((1 : Int64) <<< ((i32 ((qms m b s 6 : Nat) : Int)).toInt64 &&& 63)) - 1, fun n hn => ?_, ?_⟩
  · rw [gb_mask hq hn]
    rfl
  · rw [e_X11_stayBits, k_X11_stayBits_0]
    refine (up_eq (fun w : Nat => den none (Mean (d + 4)) (some .long) tQ_X11_stayBits (5, [some (.ref 140), some (.int (i32 (s : Int))), some (.int (i32 (((qms m b s w : Nat) : Int) - 1))), some (.int (i32 (w : Int)))], [], 176, zs Z, J, RP p0 p1 p2 p3 p4 p5 p6 p7)) 6 (fun w hw => ?_)).trans ?_
    · rw [k_X11_stayBits_5]
      cases hc : qcnt m w
      · simp (disch := omega) only [k_X11_stayBits_0, k_X11_stayBits_11, k_X11_stayBits_16, k_X11_stayBits_19, k_X11_stayBits_26, k_X11_stayBits_33, k_X11_stayBits_36, k_X11_stayBits_42, k_X11_stayBits_48, li_0, li_1, li_2, li_3, li_4, li_5, li_6, li_9, li_10, li_40, lm_1, lm_2, lm_3, lm_4, zs_ap, i32_add, i32_sub, i32_mul, i32_neg, i32_lt, i32_le, i32_eq, i32_nat, ckn, pka_r, pka_v, if_pos, if_neg, if_true, if_false, g_counts h hx, hc, bBf]
        rw [show qms m b s (w + 1) = qms m b s w by simp [qms, hc]]
        rfl
      · simp (disch := omega) only [k_X11_stayBits_0, k_X11_stayBits_11, k_X11_stayBits_16, k_X11_stayBits_19, k_X11_stayBits_26, k_X11_stayBits_33, k_X11_stayBits_36, k_X11_stayBits_48, li_0, li_1, li_2, li_3, li_4, li_5, li_6, li_9, li_10, li_40, lm_1, lm_2, lm_3, lm_4, zs_ap, i32_add, i32_sub, i32_mul, i32_neg, i32_lt, i32_le, i32_eq, i32_nat, ckn, pka_r, pka_v, if_pos, if_neg, if_true, if_false, g_counts h hx, hc, bBt]
        rw [l_stay h hx hs hw hc _ (qms_le m b s w), k_X11_stayBits_42]
        simp (disch := omega) only [k_X11_stayBits_0, k_X11_stayBits_11, k_X11_stayBits_16, k_X11_stayBits_19, k_X11_stayBits_26, k_X11_stayBits_33, k_X11_stayBits_36, k_X11_stayBits_48, li_0, li_1, li_2, li_3, li_4, li_5, li_6, li_9, li_10, li_40, lm_1, lm_2, lm_3, lm_4, zs_ap, i32_add, i32_sub, i32_mul, i32_neg, i32_lt, i32_le, i32_eq, i32_nat, ckn, pka_r, pka_v, if_pos, if_neg, if_true, if_false]
        rw [show qms m b s (w + 1) = dn (qwould m b s w) (qms m b s w) by simp [qms, hc]]
        rfl
    · rw [k_X11_stayBits_5]
      simp (disch := omega) only [k_X11_stayBits_0, k_X11_stayBits_11, k_X11_stayBits_16, k_X11_stayBits_19, k_X11_stayBits_26, k_X11_stayBits_33, k_X11_stayBits_36, k_X11_stayBits_48, li_0, li_1, li_2, li_3, li_4, li_5, li_6, li_9, li_10, li_40, lm_1, lm_2, lm_3, lm_4, zs_ap, i32_add, i32_sub, i32_mul, i32_neg, i32_lt, i32_le, i32_eq, i32_nat, ckn, pka_r, pka_v, if_pos, if_neg, if_true, if_false, show ((qms m b s 6 : Nat) : Int) - 1 + 1 = (qms m b s 6 : Nat) by omega]
theorem g_findStay (h : MI m Z) (hx : MX b Z) : ∃ J' : Nat → Nat → Int64, (∀ a : Nat, a ≠ 163 → J' a = J a) ∧ (∀ s : Nat, s < qN m → ∀ n : Nat, n < 64 → gb (J' 163 s) n = qstay m b s n) ∧ Mean (d + 6) 193 [.ref 140] (176, zs Z, J, RP p0 p1 p2 p3 p4 p5 p6 p7) = some (none, (176, zs Z, J', RP p0 p1 p2 p3 p4 p5 p6 p7)) := by
  have h0 := MI_n h
  obtain ⟨J', v, e⟩ := up_inv (fun (s : Nat) (J : Nat → Nat → Int64) => den none (Mean (d + 5)) none tQ_X11_findStay (2, [some (.ref 140), some (.int (i32 (s : Int)))], [], 176, zs Z, J, RP p0 p1 p2 p3 p4 p5 p6 p7)) (qN m) (fun s J' => (∀ a : Nat, a ≠ 163 → J' a = J a) ∧ ∀ t : Nat, t < s → ∀ n : Nat, n < 64 → gb (J' 163 t) n = qstay m b t n) (fun s J' hs hv => by
    obtain ⟨x, h1, h2⟩ := g_stayBits (d := d) (J := J') (p0 := p0) (p1 := p1) (p2 := p2) (p3 := p3) (p4 := p4) (p5 := p5) (p6 := p6) (p7 := p7) h hx hs
    refine ⟨u2 J' 163 s x, ⟨fun a ha => ?_, fun t ht n hn => ?_⟩, ?_⟩
    · funext k
      rw [u2a ha, hv.1 a ha]
    · by_cases c : t = s
      · subst c
        rw [u2s]
        exact h1 n hn
      · rw [u2f c]
        exact hv.2 t (by omega) n hn
    · rw [k_X11_findStay_2]
      simp (disch := omega) only [k_X11_findStay_0, k_X11_findStay_10, k_X11_findStay_20, k_X11_findStay_21, k_X11_findStay_27, li_0, li_1, li_2, li_3, li_4, li_5, li_6, li_9, li_10, li_40, lm_1, lm_2, lm_3, lm_4, zs_ap, i32_add, i32_sub, i32_mul, i32_neg, i32_lt, i32_le, i32_eq, i32_nat, ckn, pka_r, pka_v, if_pos, if_neg, if_true, if_false, h2, Int.toNat_natCast]
      rfl) J ⟨fun _ _ => rfl, fun t ht => by omega⟩
  refine ⟨J', v.1, v.2, ?_⟩
  rw [e_X11_findStay, k_X11_findStay_0]
  refine e.trans ?_
  rw [k_X11_findStay_2]
  simp (disch := omega) only [k_X11_findStay_0, k_X11_findStay_10, k_X11_findStay_20, k_X11_findStay_21, k_X11_findStay_27, li_0, li_1, li_2, li_3, li_4, li_5, li_6, li_9, li_10, li_40, lm_1, lm_2, lm_3, lm_4, zs_ap, i32_add, i32_sub, i32_mul, i32_neg, i32_lt, i32_le, i32_eq, i32_nat, ckn, pka_r, pka_v, if_pos, if_neg, if_true, if_false]
theorem g_turns (h : MI m Z) : Mean (d + 1) 190 [.ref 140] (176, zs Z, J, RP p0 p1 p2 p3 p4 p5 p6 p7) = some (some (.int (i32 ((if qmode m = 0 then qS m else 1 : Nat) : Int))), (176, zs Z, J, RP p0 p1 p2 p3 p4 p5 p6 p7)) := by
  have h1 := h.2.1.1
  have h2 := h.1.2.2.2.2.2.1
  rw [e_X11_turns]
  by_cases c : qmode m = 0
  · simp (disch := omega) only [k_X11_turns_0, k_X11_turns_7, k_X11_turns_14, k_X11_turns_15, li_0, li_1, li_2, li_3, li_4, li_5, li_6, li_9, li_10, li_40, lm_1, lm_2, lm_3, lm_4, zs_ap, i32_add, i32_sub, i32_mul, i32_neg, i32_lt, i32_le, i32_eq, i32_nat, ckn, pka_r, pka_v, if_pos, if_neg, if_true, if_false, h1]
  · simp (disch := omega) only [k_X11_turns_0, k_X11_turns_7, k_X11_turns_14, k_X11_turns_15, li_0, li_1, li_2, li_3, li_4, li_5, li_6, li_9, li_10, li_40, lm_1, lm_2, lm_3, lm_4, zs_ap, i32_add, i32_sub, i32_mul, i32_neg, i32_lt, i32_le, i32_eq, i32_nat, ckn, pka_r, pka_v, if_pos, if_neg, if_true, if_false, h1]
    rfl
def qnext (m : Mat) (t : Nat) : Nat := if qmode m = 0 then (t + 1) % qS m else 0
theorem rem_q {a : Nat} {S : Nat} (_ : 0 < S) (h : a < 1000) (h2 : S < 1000) : i32 (a : Int) - i32 (a : Int) / i32 (S : Int) * i32 (S : Int) = i32 ((a % S : Nat) : Int) := by
  rw [i32_div (by omega) (by omega), i32_mul, i32_sub, tmod_q]
theorem g_next (h : MI m Z) {t : Nat} (ht : t < 100) : Mean (d + 1) 191 [.ref 140, .int (i32 (t : Int))] (176, zs Z, J, RP p0 p1 p2 p3 p4 p5 p6 p7) = some (some (.int (i32 ((qnext m t : Nat) : Int))), (176, zs Z, J, RP p0 p1 p2 p3 p4 p5 p6 p7)) := by
  have h1 := h.2.1.1
  have h2 := h.1.2.2.2.2.2.1
  have h3 := h.1.1
  rw [e_X11_next]
  unfold qnext
  by_cases c : qmode m = 0
  · have e := rem_q (a := t + 1) (S := qS m) (by omega) (by omega) (by omega)
    have e2 : i32 ((t + 1 : Nat) : Int) = i32 (t : Int) + i32 1 := by rw [i32_add]; rfl
    rw [e2] at e
    rw [k_X11_next_0]
    simp (disch := omega) only [zs_ap, h1, li_0, i32_eq, if_pos, k_X11_next_7, ckn, li_1, e, k_X11_next_15, k_X11_next_19]
  · simp (disch := omega) only [k_X11_next_0, k_X11_next_7, k_X11_next_15, k_X11_next_18, k_X11_next_19, li_0, li_1, li_2, li_3, li_4, li_5, li_6, li_9, li_10, li_40, lm_1, lm_2, lm_3, lm_4, zs_ap, i32_add, i32_sub, i32_mul, i32_neg, i32_lt, i32_le, i32_eq, i32_nat, ckn, pka_r, pka_v, if_pos, if_neg, if_true, if_false, h1]
    rfl
theorem g_turnOf (h : MI m Z) {t : Int} : Mean (d + 1) 192 [.ref 140, .int (i32 t)] (176, zs Z, J, RP p0 p1 p2 p3 p4 p5 p6 p7) = some (some (.int (i32 (if qmode m = 0 then t else 0))), (176, zs Z, J, RP p0 p1 p2 p3 p4 p5 p6 p7)) := by
  have h1 := h.2.1.1
  have h2 := h.1.2.2.2.2.2.1
  rw [e_X11_turnOf]
  by_cases c : qmode m = 0
  · simp (disch := omega) only [k_X11_turnOf_0, k_X11_turnOf_7, k_X11_turnOf_11, k_X11_turnOf_12, li_0, li_1, li_2, li_3, li_4, li_5, li_6, li_9, li_10, li_40, lm_1, lm_2, lm_3, lm_4, zs_ap, i32_add, i32_sub, i32_mul, i32_neg, i32_lt, i32_le, i32_eq, i32_nat, ckn, pka_r, pka_v, if_pos, if_neg, if_true, if_false, h1]
  · simp (disch := omega) only [k_X11_turnOf_0, k_X11_turnOf_7, k_X11_turnOf_11, k_X11_turnOf_12, li_0, li_1, li_2, li_3, li_4, li_5, li_6, li_9, li_10, li_40, lm_1, lm_2, lm_3, lm_4, zs_ap, i32_add, i32_sub, i32_mul, i32_neg, i32_lt, i32_le, i32_eq, i32_nat, ckn, pka_r, pka_v, if_pos, if_neg, if_true, if_false, h1]
end
