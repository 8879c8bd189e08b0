/-! THE CLASS'S fit, ask, did, right -/
def asL (m : Mat) (p : Nat → Bool) (i : Nat) (n : Int) (s : Nat) : Int := if (askF m p i n s).1 = -1 then ((cntN p 41 : Nat) : Int) else (askF m p i n s).2
theorem askM_all (m : Mat) (p : Nat → Bool) (i s : Nat) (n : Int) : askM m p i s n ≤ ((cntN p 41 : Nat) : Int) := by
  have h2 := cntN_mono (p := fun f => p f && frs m i s n f) (q := p) (fun k hk => by
    have hk : (p k && frs m i s n k) = true := hk
    rw [Bool.and_eq_true] at hk
    exact hk.1) 41
  unfold askM
  split <;> omega
theorem askF_all (m : Mat) (p : Nat → Bool) (i : Nat) (n : Int) : ∀ s : Nat, (askF m p i n s).1 = -1 ∨ (askF m p i n s).2 ≤ ((cntN p 41 : Nat) : Int)
  | 0 => Or.inl rfl
  | s + 1 => by
    have h1 := askF_all m p i n s
    have h2 := askM_all m p i s n
    unfold askF
    split
    · exact h1
    · exact Or.inr h2
theorem asL_s (m : Mat) (p : Nat → Bool) (i : Nat) (n : Int) (s : Nat) : (askM m p i s n < asL m p i n s → (askF m p i n (s + 1)).1 = (s : Int) ∧ asL m p i n (s + 1) = askM m p i s n) ∧ (¬ askM m p i s n < asL m p i n s → (askF m p i n (s + 1)).1 = (askF m p i n s).1 ∧ asL m p i n (s + 1) = asL m p i n s) := by
  have h1 := askM_all m p i s n
  have h2 := askF_all m p i n s
  have h3 := (askF_b m p i n s).1
  have e : askF m p i n (s + 1) = if askM m p i s n = (cntN p 41 : Nat) ∨ ((askF m p i n s).1 ≠ -1 ∧ (askF m p i n s).2 ≤ askM m p i s n) then askF m p i n s else ((s : Int), askM m p i s n) := rfl
  constructor
  · intro h
    have hc : ¬ (askM m p i s n = (cntN p 41 : Nat) ∨ ((askF m p i n s).1 ≠ -1 ∧ (askF m p i n s).2 ≤ askM m p i s n)) := by
      unfold asL at h
      split at h <;> omega
    rw [if_neg hc] at e
    unfold asL
    rw [e]
    refine ⟨rfl, if_neg ?_⟩
    show ¬ (s : Int) = -1
    omega
  · intro h
    have hc : askM m p i s n = (cntN p 41 : Nat) ∨ ((askF m p i n s).1 ≠ -1 ∧ (askF m p i n s).2 ≤ askM m p i s n) := by
      unfold asL at h
      split at h <;> omega
    rw [if_pos hc] at e
    unfold asL
    rw [e]
    exact ⟨rfl, rfl⟩
theorem asL_b (m : Mat) (p : Nat → Bool) (i : Nat) (n : Int) (s : Nat) : 0 ≤ asL m p i n s ∧ asL m p i n s ≤ 41 := by
  have h1 := cntN_le p 41
  have h2 := (askF_b m p i n s).2
  unfold asL
  split <;> omega
section
variable {d : Nat} {J : Nat → Nat → Int64} {Z Y : Nat → Nat → Int} {p0 p1 p5 p6 : Nat} {m : Mat} {nd nr : Nat}
theorem h_fit (h : KI m p0 Z) (hv : DV m Y nd nr) (hc : DC m Z Y nd nr) {i kn : Int} (hi : -2147483648 ≤ i ∧ i < 2147483648) (hkn : -2147483648 ≤ kn ∧ kn < 2147483648) : ∃ x : Int64, ((0 ≤ i ∧ i < qS m) ∧ (0 ≤ kn ∧ kn ≤ 999) → ∀ n : Nat, n < 64 → gb x n = (decide (n < 41) && ftB m Y nd nr i.toNat kn n)) ∧ (¬ ((0 ≤ i ∧ i < qS m) ∧ (0 ≤ kn ∧ kn ≤ 999)) → x = -2) ∧ Mean (d + 3) 134 [.ref 0, .int (i32 i), .int (i32 kn)] (176, zs Z, J, RP p0 p1 p0 35 p0 p5 p6 97) = some (some (.long x), (176, zs Z, J, RP p0 p1 p0 35 p0 p5 p6 97)) := by
  have hw := h.1
  have hS := hw.1
  have hp := h.2.1
  unfold hv2 at hp
  have hsd := h_hasSide (d := d + 1) (J := J) (Z := Z) (p0 := p0) (p1 := p1) (p2 := p0) (p3 := 35) (p4 := p0) (p5 := p5) (p6 := p6) (p7 := 97) (h := p0) (by unfold hv3; omega) hS.2 h.2.2.1.1.1 (a := i) hi
  have wi := h_within (d := d + 1) (J := J) (Z := Z) (p0 := p0) (p1 := p1) (p2 := p0) (p3 := 35) (p4 := p0) (p5 := p5) (p6 := p6) (p7 := 97) hkn (lo := 0) (hi := 999) (by omega) (by omega)
  have l999 : (999 : Int32) = i32 999 := rfl
  by_cases c1 : 0 ≤ i ∧ i < qS m
  · rw [bI_t c1] at hsd
    by_cases c2 : 0 ≤ kn ∧ kn ≤ 999
    · rw [bI_t c2] at wi
      obtain ⟨i', rfl⟩ := Int.eq_ofNat_of_zero_le c1.1
      obtain ⟨x, lo, hi', _, a2, a3⟩ := h_fitting (d := d) (J := J) (p0 := p0) (p1 := p1) (p5 := p5) (p6 := p6) hw hv hc (i := i') (by omega) c2
      refine ⟨x, fun _ => a2, fun q => absurd ⟨c1, c2⟩ q, ?_⟩
      rw [e_X10_fit, k_X10_fit_0 (hv_p0 := by omega)]
      simp (disch := omega) only [k_X10_fit_8, k_X10_fit_11, k_X10_fit_19, k_X10_fit_22, k_X10_fit_26, k_X10_fit_35, li_0, li_1, li_2, li_3, li_4, li_5, li_6, li_9, li_10, li_40, lm_1, lm_2, lm_3, lm_4, zs_ap, i32_add, i32_sub, i32_mul, i32_neg, i32_lt, i32_le, i32_eq, i32_nat, ckn, pka_r, pka_v, if_pos, if_neg, if_true, if_false, l999, hsd, wi, a3]
    · rw [bI_f c2] at wi
      refine ⟨-2, fun q => absurd q.2 c2, fun _ => rfl, ?_⟩
      rw [e_X10_fit, k_X10_fit_0 (hv_p0 := by omega)]
      simp (disch := omega) only [k_X10_fit_8, k_X10_fit_11, k_X10_fit_19, k_X10_fit_22, k_X10_fit_26, k_X10_fit_35, li_0, li_1, li_2, li_3, li_4, li_5, li_6, li_9, li_10, li_40, lm_1, lm_2, lm_3, lm_4, zs_ap, i32_add, i32_sub, i32_mul, i32_neg, i32_lt, i32_le, i32_eq, i32_nat, ckn, pka_r, pka_v, if_pos, if_neg, if_true, if_false, l999, hsd, wi]
  · rw [bI_f c1] at hsd
    refine ⟨-2, fun q => absurd q.1 c1, fun _ => rfl, ?_⟩
    rw [e_X10_fit, k_X10_fit_0 (hv_p0 := by omega)]
    simp (disch := omega) only [k_X10_fit_8, k_X10_fit_11, k_X10_fit_19, k_X10_fit_22, k_X10_fit_26, k_X10_fit_35, li_0, li_1, li_2, li_3, li_4, li_5, li_6, li_9, li_10, li_40, lm_1, lm_2, lm_3, lm_4, zs_ap, i32_add, i32_sub, i32_mul, i32_neg, i32_lt, i32_le, i32_eq, i32_nat, ckn, pka_r, pka_v, if_pos, if_neg, if_true, if_false, hsd]
theorem h_ask (h : KI m p0 Z) (hv : DV m Y nd nr) (hc : DC m Z Y nd nr) {i n : Int} (hi : -2147483648 ≤ i ∧ i < 2147483648) (hn : -2147483648 ≤ n ∧ n < 2147483648) : Mean (d + 4) 135 [.ref 0, .int (i32 i), .int (i32 n)] (176, zs Z, J, RP p0 p1 p0 35 p0 p5 p6 97) = some (some (.int (i32 (aAsk m Y nd nr i n))), (176, zs Z, J, RP p0 p1 p0 35 p0 p5 p6 97)) := by
  have hw := h.1
  have hS := hw.1
  have hN := hw.2.2.2.2.2.2
  have hp := h.2.1
  unfold hv2 at hp
  have hsd := h_hasSide (d := d + 2) (J := J) (Z := Z) (p0 := p0) (p1 := p1) (p2 := p0) (p3 := 35) (p4 := p0) (p5 := p5) (p6 := p6) (p7 := 97) (h := p0) (by unfold hv3; omega) hS.2 h.2.2.1.1.1 (a := i) hi
  have wi := h_within (d := d + 2) (J := J) (Z := Z) (p0 := p0) (p1 := p1) (p2 := p0) (p3 := 35) (p4 := p0) (p5 := p5) (p6 := p6) (p7 := 97) hn (lo := 1) (hi := 40) (by omega) (by omega)
  have l999 : (999 : Int32) = i32 999 := rfl
  unfold aAsk
  by_cases c1 : 0 ≤ i ∧ i < qS m
  · rw [bI_t c1] at hsd
    by_cases c2 : 1 ≤ n ∧ n ≤ 40
    · rw [bI_t c2] at wi
      rw [if_pos (show (0 ≤ i ∧ i < qS m) ∧ (1 ≤ n ∧ n ≤ 40) from ⟨c1, c2⟩)]
      obtain ⟨i', rfl⟩ := Int.eq_ofNat_of_zero_le c1.1
      have hi' : i' < qS m := by omega
      rw [Int.toNat_natCast]
      obtain ⟨x, lo, hi2, r1, a2, a3⟩ := h_fitting (d := d + 0) (J := J) (p0 := p0) (p1 := p1) (p5 := p5) (p6 := p6) hw hv hc (i := i') hi' (kn := 999) (by omega)
      obtain ⟨p, hpp⟩ : ∃ p : Nat → Bool, p = ftB m Y nd nr i' 999 := ⟨_, rfl⟩
      rw [← hpp] at a2 ⊢
      have hp41 : ∀ f : Nat, f < 41 → p f = decide (lo ≤ f ∧ f < hi2) := fun f hf => by
        have e := a2 f (by omega)
        rw [decide_eq_true hf, Bool.true_and, r1.2 f (by omega)] at e
        exact e.symm
      have hall : cntN p 41 = hi2 - lo := by
        have := r1.1.2
        rw [run_cnt hp41 41 (by omega), if_neg (by omega)]
      have b0 := h_bitCount (d := d + 1) (J := J) (Z := Z) (p0 := p0) (p1 := p1) (p2 := p0) (p3 := 35) (p4 := p0) (p5 := p5) (p6 := p6) (p7 := 97) x
      rw [run_bc r1, ← hall] at b0
      have hcl := cntN_le p 41
      have zN : Z 35 1 = (qN m : Int) := h.2.2.2.1.1.1
      obtain ⟨⟨o9, o10, o11, o12⟩, ho, e⟩ := up_inv (fun (s : Nat) (y : Option Value × Option Value × Option Value × Option Value) => den none (Mean (d + 2)) (some .int) tQ_X0_bestQuestion (25, [some (.ref 132), some (.int (i32 (i' : Int))), some (.int (i32 n)), some (.long x), none, some (.int (i32 ((cntN p 41 : Nat) : Int))), some (.int (i32 (askF m p i' n s).1)), some (.int (i32 (asL m p i' n s))), some (.int (i32 (s : Int))), y.1, y.2.1, y.2.2.1, y.2.2.2], [], 176, zs Z, J, RP p0 p1 p0 35 p0 p5 p6 97)) (qN m) (fun _ y => True) (fun s y hs _ => by
        obtain ⟨o9, o10, o11, o12⟩ := y
        have hk := h.2.2.2
        have mg := h_margin (d := d + 1) (J := J) (Z := Z) (p0 := p0) (p1 := p1) (p2 := p0) (p3 := 35) (p4 := p0) (p5 := p5) (p6 := p6) (p7 := 97) hp hw h.2.2.1 hk hi' hs n
        have ff := h_fears (d := d + 1) (J := J) (Z := Z) (p0 := p0) (p1 := p1) (p5 := p5) (p6 := p6) (mrg_b hw (s := s) hi' (n := n) (by omega))
        change Mean (d + 1 + 1) 8 [.int (i32 (qgoal m i' - n * (qday m : Int) - qstop m s i'))] _ = _ at ff
        have r2 := run_and r1 (manyF_le (mrg m i' s n))
        have bs := h_bitCount (d := d + 1) (J := J) (Z := Z) (p0 := p0) (p1 := p1) (p2 := p0) (p3 := 35) (p4 := p0) (p5 := p5) (p6 := p6) (p7 := 97) (x &&& mkM (manyF (mrg m i' s n)))
        have hcnt : cntN (fun f => p f && frs m i' s n f) 41 = (if hi2 < manyF (mrg m i' s n) then hi2 else manyF (mrg m i' s n)) - lo := by
          have hh := r2.1.2
          rw [run_cnt (lo := lo) (hi := if hi2 < manyF (mrg m i' s n) then hi2 else manyF (mrg m i' s n)) (fun f hf => ?_) 41 (by omega), if_neg (by omega)]
          show (p f && frs m i' s n f) = _
          rw [hp41 f hf, ← manyF_frs hf]
          apply beq_iff
          rw [Bool.and_eq_true, decide_eq_true_iff, decide_eq_true_iff, decide_eq_true_iff]
          split <;> omega
        rw [run_bc r2, ← hcnt] at bs
        have hM := (show askM m p i' s n = if ((cntN (fun f => p f && frs m i' s n f) 41 : Nat) : Int) < (cntN p 41 : Nat) - ((cntN (fun f => p f && frs m i' s n f) 41 : Nat) : Int) then (cntN p 41 : Nat) - ((cntN (fun f => p f && frs m i' s n f) 41 : Nat) : Int) else (cntN (fun f => p f && frs m i' s n f) 41 : Nat) from rfl)
        have hcs := cntN_le (fun f => p f && frs m i' s n f) 41
        have mb := askM_b m p i' s n
        have lb := asL_b m p i' n s
        obtain ⟨s1, s2⟩ := asL_s m p i' n s
        generalize cntN (fun f => p f && frs m i' s n f) 41 = cs at *
        have hmx : (if i32 (cs : Int) < i32 (((cntN p 41 : Nat) : Int) - (cs : Int)) then i32 (((cntN p 41 : Nat) : Int) - (cs : Int)) else i32 (cs : Int)) = i32 (askM m p i' s n) := by
          rw [hM]
          by_cases c : (cs : Int) < ((cntN p 41 : Nat) : Int) - (cs : Int)
          · rw [if_pos c]
            simp (disch := omega) only [i32_lt, if_pos]
          · rw [if_neg c]
            simp (disch := omega) only [i32_lt, if_neg]
        refine ⟨(some (.long (x &&& mkM (manyF (mrg m i' s n)))), none, some (.int (i32 (cs : Int))), some (.int (i32 (askM m p i' s n)))), trivial, ?_⟩
        try dsimp only
        rw [k_X0_bestQuestion_25]
        by_cases c : askM m p i' s n < asL m p i' n s
        · obtain ⟨t1, t2⟩ := s1 c
          rw [t1, t2]
          simp (disch := omega) only [zs_ap, zN, i32_le, if_neg, k_X0_bestQuestion_37, mg, pka_r, pka_v, k_X0_bestQuestion_49, ff, k_X0_bestQuestion_52, bs, k_X0_bestQuestion_60, i32_sub, hmx, k_X0_bestQuestion_81, k_X0_bestQuestion_89, li_1, i32_add]
          rfl
        · obtain ⟨t1, t2⟩ := s2 c
          rw [t1, t2]
          simp (disch := omega) only [zs_ap, zN, i32_le, if_neg, if_pos, k_X0_bestQuestion_37, mg, pka_r, pka_v, k_X0_bestQuestion_49, ff, k_X0_bestQuestion_52, bs, k_X0_bestQuestion_60, i32_sub, hmx, k_X0_bestQuestion_81, k_X0_bestQuestion_89, li_1, i32_add]
          rfl) (none, none, none, none) trivial
      have e1 : Mean (d + 3) 9 [.ref 132, .int (i32 (i' : Int)), .int (i32 n)] (176, zs Z, J, RP p0 p1 p0 35 p0 p5 p6 97) = some (some (.int (i32 (askF m p i' n (qN m)).1)), (176, zs Z, J, RP p0 p1 p0 35 p0 p5 p6 97)) := by
        rw [e_X0_bestQuestion, k_X0_bestQuestion_0]
        simp (disch := omega) only [l999, a3, pka_r, pka_v, k_X0_bestQuestion_8, b0, k_X0_bestQuestion_13, li_0, li_1, i32_neg]
        refine Eq.trans e ?_
        rw [k_X0_bestQuestion_25]
        simp (disch := omega) only [zs_ap, zN, i32_le, if_pos, k_X0_bestQuestion_95]
      rw [e_X10_ask, k_X10_ask_0 (hv_p0 := by omega)]
      simp (disch := omega) only [k_X10_ask_8, k_X10_ask_11, k_X10_ask_18, k_X10_ask_21, k_X10_ask_24, k_X10_ask_33, li_0, li_1, li_2, li_3, li_4, li_5, li_6, li_9, li_10, li_40, lm_1, lm_2, lm_3, lm_4, zs_ap, i32_add, i32_sub, i32_mul, i32_neg, i32_lt, i32_le, i32_eq, i32_nat, ckn, pka_r, pka_v, if_pos, if_neg, if_true, if_false, hsd, wi, e1]
    · rw [bI_f c2] at wi
      rw [if_neg (show ¬ ((0 ≤ i ∧ i < qS m) ∧ (1 ≤ n ∧ n ≤ 40)) from fun q => c2 q.2), e_X10_ask, k_X10_ask_0 (hv_p0 := by omega)]
      simp (disch := omega) only [k_X10_ask_8, k_X10_ask_11, k_X10_ask_18, k_X10_ask_21, k_X10_ask_24, k_X10_ask_33, li_0, li_1, li_2, li_3, li_4, li_5, li_6, li_9, li_10, li_40, lm_1, lm_2, lm_3, lm_4, zs_ap, i32_add, i32_sub, i32_mul, i32_neg, i32_lt, i32_le, i32_eq, i32_nat, ckn, pka_r, pka_v, if_pos, if_neg, if_true, if_false, hsd, wi]
  · rw [bI_f c1] at hsd
    rw [if_neg (show ¬ ((0 ≤ i ∧ i < qS m) ∧ (1 ≤ n ∧ n ≤ 40)) from fun q => c1 q.1), e_X10_ask, k_X10_ask_0 (hv_p0 := by omega)]
    simp (disch := omega) only [k_X10_ask_8, k_X10_ask_11, k_X10_ask_18, k_X10_ask_21, k_X10_ask_24, k_X10_ask_33, li_0, li_1, li_2, li_3, li_4, li_5, li_6, li_9, li_10, li_40, lm_1, lm_2, lm_3, lm_4, zs_ap, i32_add, i32_sub, i32_mul, i32_neg, i32_lt, i32_le, i32_eq, i32_nat, ckn, pka_r, pka_v, if_pos, if_neg, if_true, if_false, hsd]
end
