/-! THE MODEL'S readMatter, from a draft that is given; what a draft holds when it is read -/
section
variable {d : Nat} {J J0 : Nat → Nat → Int64} {Z Z0 D : Nat → Nat → Int} {N : Nat → Int64} {p0 p1 p2 p3 p4 p5 p6 p7 : Nat} {tp : Nat → Nat} {len q n S : Nat}
theorem g_plain2 : ∃ Z' : Nat → Nat → Int, ((∀ a : Nat, a ≠ 140 → a ≠ 155 → a ≠ 156 → Z' a = Z a) ∧ ∀ j : Nat, (j < 18 ∨ j = 24 ∨ 31 < j) → Z' 140 j = Z 140 j) ∧ (∀ a j : Nat, 3 ≤ j → a ≠ 140 → Z' a j = Z a j) ∧ P0 Z' ∧ Mean (d + 1) 160 [.ref 140] (176, zs Z, J, RP p0 p1 p2 p3 p4 p5 p6 p7) = some (none, (176, zs Z', J, RP p0 p1 p2 p3 p4 p5 p6 p7)) := by
  generalize hZ : u2 (u2 (u2 (u2 (u2 (u2 (u2 (u2 (u2 (u2 (u2 (u2 (u2 Z 140 18 0) 140 19 0) 140 20 1) 140 21 0) 140 22 0) 140 23 1) 140 25 0) 140 26 0) 140 27 0) 140 28 0) 140 29 0) 140 30 0) 140 31 0 = Z1
  have f1 : ∀ a : Nat, a ≠ 140 → Z1 a = Z a := fun a ha => by
    rw [← hZ]
    simp (disch := omega) only [u2_ne]
  have f2 : ∀ j : Nat, (j < 18 ∨ j = 24 ∨ 31 < j) → Z1 140 j = Z 140 j := fun j hj => by
    rw [← hZ]
    simp (disch := omega) only [u2f]
  have f3 : (Z1 140 18 = 0 ∧ Z1 140 19 = 0 ∧ Z1 140 20 = 1 ∧ Z1 140 21 = 0 ∧ Z1 140 22 = 0 ∧ Z1 140 23 = 1) ∧ (Z1 140 25 = 0 ∧ Z1 140 26 = 0 ∧ Z1 140 27 = 0 ∧ Z1 140 28 = 0 ∧ Z1 140 29 = 0 ∧ Z1 140 30 = 0 ∧ Z1 140 31 = 0) := by
    rw [← hZ]
    simp (disch := omega) only [u2f, u2s]
    decide
  obtain ⟨Z', v, e⟩ := up_inv (fun (i : Nat) (Z : Nat → Nat → Int) => den none (Mean d) none tQ_X11_plain (67, [some (.ref 140), some (.int (i32 (i : Int)))], [], 176, zs Z, J, RP p0 p1 p2 p3 p4 p5 p6 p7)) 3 (fun i Z' => (∀ a : Nat, a ≠ 155 → a ≠ 156 → Z' a = Z1 a) ∧ (∀ k : Nat, k < i → Z' 155 k = 0 ∧ Z' 156 k = 0) ∧ ∀ k : Nat, 3 ≤ k → Z' 155 k = Z1 155 k ∧ Z' 156 k = Z1 156 k) (fun i Z2 hi hv => by
    refine ⟨u2 (u2 Z2 155 i 0) 156 i 0, ⟨fun a h1 h2 => by rw [u2_ne h2, u2_ne h1]; exact hv.1 a h1 h2, fun k hk => ?_, fun k hk => ?_⟩, ?_⟩
    · by_cases c : k = i
      · rw [c, u2s, u2a (by decide), u2s]
        exact ⟨rfl, rfl⟩
      · rw [u2f c, u2a (by decide), u2f c, u2a (by decide)]
        exact hv.2.1 k (by omega)
    · rw [u2f (by omega), u2a (by decide), u2f (by omega), u2a (by decide)]
      exact hv.2.2 k hk
    · rw [k_X11_plain_67]
      simp (disch := omega) only [k_X11_plain_0, k_X11_plain_72, k_X11_plain_79, k_X11_plain_86, k_X11_plain_92, li_0, li_1, li_2, li_3, li_4, li_5, li_6, li_9, li_10, li_40, lm_1, lm_2, lm_3, lm_4, zs_ap, i32_add, i32_sub, i32_mul, i32_neg, i32_lt, i32_le, i32_eq, i32_nat, ckn, pka_r, pka_v, if_pos, if_neg, if_true, if_false, Int.toNat_natCast, zs_u2]
      rfl) Z1 ⟨fun _ _ _ => rfl, fun _ q => absurd q (by omega), fun _ _ => ⟨rfl, rfl⟩⟩
  have v1 := v.1 140 (by decide) (by decide)
  refine ⟨Z', ⟨fun a a1 a2 a3 => (v.1 a a2 a3).trans (f1 a a1), fun j hj => by rw [v1]; exact f2 j hj⟩, fun a j hj ha => ?_, ⟨by rw [v1]; exact f3.1, fun j hj hj2 => ?_, v.2.1⟩, ?_⟩
  · rw [← f1 a ha]
    by_cases c1 : a = 155
    · subst c1
      exact (v.2.2 j hj).1
    · by_cases c2 : a = 156
      · subst c2
        exact (v.2.2 j hj).2
      · rw [v.1 a c1 c2]
  · rw [v1]
    obtain ⟨_, g1, g2, g3, g4, g5, g6, g7⟩ := f3
    have : j = 25 ∨ j = 26 ∨ j = 27 ∨ j = 28 ∨ j = 29 ∨ j = 30 ∨ j = 31 := by omega
    rcases this with rfl | rfl | rfl | rfl | rfl | rfl | rfl
    · exact g1
    · exact g2
    · exact g3
    · exact g4
    · exact g5
    · exact g6
    · exact g7
  · rw [e_X11_plain]
    simp (disch := omega) only [k_X11_plain_0, k_X11_plain_72, k_X11_plain_79, k_X11_plain_86, k_X11_plain_92, li_0, li_1, li_2, li_3, li_4, li_5, li_6, li_9, li_10, li_40, lm_1, lm_2, lm_3, lm_4, zs_ap, i32_add, i32_sub, i32_mul, i32_neg, i32_lt, i32_le, i32_eq, i32_nat, ckn, pka_r, pka_v, if_pos, if_neg, if_true, if_false, zs_u2, hZ]
    refine Eq.trans e ?_
    rw [k_X11_plain_67]
    simp (disch := omega) only [k_X11_plain_0, k_X11_plain_72, k_X11_plain_79, k_X11_plain_86, k_X11_plain_92, li_0, li_1, li_2, li_3, li_4, li_5, li_6, li_9, li_10, li_40, lm_1, lm_2, lm_3, lm_4, zs_ap, i32_add, i32_sub, i32_mul, i32_neg, i32_lt, i32_le, i32_eq, i32_nat, ckn, pka_r, pka_v, if_pos, if_neg, if_true, if_false]
theorem g_readMatter2 {D0 : Nat → Nat → Int} (hP : P0 D0) (hA : ∀ a j : Nat, ((149 ≤ a ∧ a ≤ 154) ∨ ((a = 155 ∨ a = 156) ∧ 3 ≤ j) ∨ (a = 140 ∧ j = 17)) → D0 a j = Z a j) (hl : len ≤ 700) (ht : TBz tp Z) (hk : TK tp len 0 Z) (hw : WB Z) : MRq tp len Z J (RP p0 p1 p2 p3 p4 p5 p6 p7) (pMatter tp len D0 (J 157)) (Mean (d + 11) 161 [.ref 140] (176, zs Z, J, RP p0 p1 p2 p3 p4 p5 p6 p7)) := by
  obtain ⟨Z1, ⟨p1', p2'⟩, p5', p3', p4'⟩ := g_plain2 (d := d + 9) (J := J) (Z := Z) (p0 := p0) (p1 := p1) (p2 := p2) (p3 := p3) (p4 := p4) (p5 := p5) (p6 := p6) (p7 := p7)
  have hag : AG D0 Z1 := fun a j hr => by
    rcases hr with ⟨rfl, r1, r2, r3⟩ | ⟨r1, r2⟩
    · by_cases c : j = 17
      · subst c
        rw [p2' 17 (by omega), hA 140 17 (Or.inr (Or.inr ⟨rfl, rfl⟩))]
      · by_cases c2 : 25 ≤ j
        · rw [p3'.2.1 j c2 r2, hP.2.1 j c2 r2]
        · obtain ⟨a1, a2, a3, a4, a5, a6⟩ := p3'.1
          obtain ⟨b1, b2, b3, b4, b5, b6⟩ := hP.1
          have : j = 18 ∨ j = 19 ∨ j = 20 ∨ j = 21 ∨ j = 22 ∨ j = 23 := by omega
          rcases this with rfl | rfl | rfl | rfl | rfl | rfl
          · rw [a1, b1]
          · rw [a2, b2]
          · rw [a3, b3]
          · rw [a4, b4]
          · rw [a5, b5]
          · rw [a6, b6]
    · by_cases c : a ≤ 154
      · rw [p1' a (by omega) (by omega) (by omega), hA a j (Or.inl ⟨r1, c⟩)]
      · by_cases c3 : 3 ≤ j
        · rw [p5' a j c3 (by omega), hA a j (Or.inr (Or.inl ⟨by omega, c3⟩))]
        · have q1 := p3'.2.2 j (by omega)
          have q2 := hP.2.2 j (by omega)
          have : a = 155 ∨ a = 156 := by omega
          rcases this with rfl | rfl
          · rw [q1.1, q2.1]
          · rw [q1.2, q2.2]
  have hZ48 : u2 Z 140 48 (Z 140 48) = Z := by
    funext a j
    by_cases c : a = 140
    · subst c
      by_cases c2 : j = 48
      · subst c2
        exact u2s
      · exact u2f c2
    · exact u2a c
  have h0 : PQ tp len Z J D0 (J 157) 0 Z1 J := by
    refine ⟨⟨fun a ha hb => p1' a ha (by omega) (by omega), fun j hj => p2' j (by omega)⟩, fun _ _ => rfl, ⟨hag, fun x hx => by rw [hA 154 x (Or.inl ⟨by decide, by decide⟩)]; exact hw x hx, rfl, ?_, Nat.zero_le _⟩, by rw [p2' 7 (by omega), p2' 8 (by omega)]; exact ⟨rfl, rfl⟩⟩
    unfold TK
    rw [p2' 2 (by omega), p2' 3 (by omega), p2' 4 (by omega), p2' 5 (by omega), p2' 6 (by omega)]
    exact hk
  have hex := PQ_exp (d := d + 2) (p0 := p0) (p1 := p1) (p2 := p2) (p3 := p3) (p4 := p4) (p5 := p5) (p6 := p6) (p7 := p7) hl ht h0 (t := 1) (by decide) (by decide)
  unfold pMatter
  rw [e_X11_readMatter]
  cases c1 : tkIs tp len 0 1
  · rw [if_neg Bool.false_ne_true]
    obtain ⟨Z', x1, x3⟩ := hex.2 c1
    clear hex
    refine ⟨Z 140 48, ?_⟩
    rw [hZ48]
    refine PQ_fault h0 x1.1 (by decide) x1.2 ?_
    simp (disch := omega) only [k_X11_readMatter_0, k_X11_readMatter_4, k_X11_readMatter_10, k_X11_readMatter_13, k_X11_readMatter_19, k_X11_readMatter_22, k_X11_readMatter_24, k_X11_readMatter_36, k_X11_readMatter_39, k_X11_readMatter_41, k_X11_readMatter_53, k_X11_readMatter_57, k_X11_readMatter_60, k_X11_readMatter_64, k_X11_readMatter_67, k_X11_readMatter_69, k_X11_readMatter_82, li_0, li_1, li_2, li_3, li_4, li_5, li_6, li_9, li_10, li_40, lm_1, lm_2, lm_3, lm_4, zs_ap, i32_add, i32_sub, i32_mul, i32_neg, i32_lt, i32_le, i32_eq, i32_nat, ckn, pka_r, pka_v, if_pos, if_neg, if_true, if_false, p4', x3, true_or]
  · rw [if_pos rfl]
    obtain ⟨Z2, x1, x3⟩ := hex.1 c1
    clear hex
    have hn := PQ_num (d := d + 7) (p0 := p0) (p1 := p1) (p2 := p2) (p3 := p3) (p4 := p4) (p5 := p5) (p6 := p6) (p7 := p7) hl ht x1 (lo := 2) (hi := 3) (by omega) (by omega)
    generalize hq1 : tkB tp len 0 = q1 at *
    by_cases cn : eNum tp len q1 2 3 = 0
    · rw [if_pos cn]
      obtain ⟨Z3, f1, f2, f3⟩ := hn.1 cn
      clear hn
      have hvb : 2 ≤ tkV tp len q1 ∧ tkV tp len q1 ≤ 3 := by
        unfold eNum at cn
        split at cn
        · split at cn
          · assumption
          · omega
        · omega
      have g1 := PQ_u f1 (a := 140) (j := 17) (tkV tp len q1) (by decide) (Or.inl (by decide))
      generalize hv : tkV tp len q1 = v at *
      generalize hq2 : tkB tp len q1 = q2 at *
      have hcl := g_close (d := d + 7) (p0 := p0) (p1 := p1) (p2 := p2) (p3 := p3) (p4 := p4) (p5 := p5) (p6 := p6) (p7 := p7) hl ht g1
      by_cases c3 : tkK tp len q2 = 3
      · rw [if_pos c3]
        obtain ⟨Z4, b1, b2⟩ := hcl.1 c3
        clear hcl
        have b3 := PQ_48 (v := ((1 : Nat) : Int)) b1
        obtain ⟨S, rfl⟩ : ∃ S : Nat, v = S := ⟨v.toNat, by omega⟩
        have key := rm_loop (d := d) (p0 := p0) (p1 := p1) (p2 := p2) (p3 := p3) (p4 := p4) (p5 := p5) (p6 := p6) (p7 := p7) (S := S) hl ht (len + 1) (u2 D0 140 17 (S : Int)) (J 157) (tkB tp len q2) 0 1 _ J (by omega) b3.2.2.1.2.2.2.2 (P0_DW hP (by omega)) b3
        have e : den none (Mean (d + 10)) (some .boolean) tQ_X11_readMatter (0, [some (.ref 140)], [], 176, zs Z, J, RP p0 p1 p2 p3 p4 p5 p6 p7) = den none (Mean (d + 10)) (some .boolean) tQ_X11_readMatter (46, [some (.ref 140)], [], 176, zs (u2 Z4 140 48 ((1 : Nat) : Int)), J, RP p0 p1 p2 p3 p4 p5 p6 p7) := by
          simp (disch := omega) only [k_X11_readMatter_0, k_X11_readMatter_4, k_X11_readMatter_10, k_X11_readMatter_13, k_X11_readMatter_19, k_X11_readMatter_22, k_X11_readMatter_24, k_X11_readMatter_36, k_X11_readMatter_39, k_X11_readMatter_41, k_X11_readMatter_53, k_X11_readMatter_57, k_X11_readMatter_60, k_X11_readMatter_64, k_X11_readMatter_67, k_X11_readMatter_69, k_X11_readMatter_82, li_0, li_1, li_2, li_3, li_4, li_5, li_6, li_9, li_10, li_40, lm_1, lm_2, lm_3, lm_4, zs_ap, i32_add, i32_sub, i32_mul, i32_neg, i32_lt, i32_le, i32_eq, i32_nat, ckn, pka_r, pka_v, if_pos, if_neg, if_true, if_false, p4', x3, f3, f2, zs_u2, b2]
          rfl
        rw [e]
        exact key
      · rw [if_neg c3]
        obtain ⟨Z4, J4, b1, b2, b3, b4, b5⟩ := hcl.2 c3
        clear hcl
        refine ⟨Z 140 48, ?_⟩
        rw [hZ48]
        refine ⟨Z4, J4, b1, b2, b3, b4, ?_⟩
        simp (disch := omega) only [k_X11_readMatter_0, k_X11_readMatter_4, k_X11_readMatter_10, k_X11_readMatter_13, k_X11_readMatter_19, k_X11_readMatter_22, k_X11_readMatter_24, k_X11_readMatter_36, k_X11_readMatter_39, k_X11_readMatter_41, k_X11_readMatter_53, k_X11_readMatter_57, k_X11_readMatter_60, k_X11_readMatter_64, k_X11_readMatter_67, k_X11_readMatter_69, k_X11_readMatter_82, li_0, li_1, li_2, li_3, li_4, li_5, li_6, li_9, li_10, li_40, lm_1, lm_2, lm_3, lm_4, zs_ap, i32_add, i32_sub, i32_mul, i32_neg, i32_lt, i32_le, i32_eq, i32_nat, ckn, pka_r, pka_v, if_pos, if_neg, if_true, if_false, p4', x3, f3, f2, zs_u2, b5, true_or]
    · rw [if_neg cn]
      obtain ⟨Z3, f1, f3⟩ := hn.2 cn
      clear hn
      refine ⟨Z 140 48, ?_⟩
      rw [hZ48]
      refine PQ_fault x1 f1.1 (by decide) f1.2 ?_
      simp (disch := omega) only [k_X11_readMatter_0, k_X11_readMatter_4, k_X11_readMatter_10, k_X11_readMatter_13, k_X11_readMatter_19, k_X11_readMatter_22, k_X11_readMatter_24, k_X11_readMatter_36, k_X11_readMatter_39, k_X11_readMatter_41, k_X11_readMatter_53, k_X11_readMatter_57, k_X11_readMatter_60, k_X11_readMatter_64, k_X11_readMatter_67, k_X11_readMatter_69, k_X11_readMatter_82, li_0, li_1, li_2, li_3, li_4, li_5, li_6, li_9, li_10, li_40, lm_1, lm_2, lm_3, lm_4, zs_ap, i32_add, i32_sub, i32_mul, i32_neg, i32_lt, i32_le, i32_eq, i32_nat, ckn, pka_r, pka_v, if_pos, if_neg, if_true, if_false, p4', x3, f3, true_or]
end

theorem tkB_le {tp : Nat → Nat} {len q : Nat} (hl : q ≤ len) : tkB tp len q ≤ len := (tk_le hl).2.1.2
theorem pLoop_ok {tp : Nat → Nat} {len S : Nat} {r : PS × Nat} : ∀ (f : Nat) (D : Nat → Nat → Int) (N : Nat → Int64) (q n c : Nat), DW D n S → q ≤ len → pLoop tp len f D N q c = .ok r → (∃ n' : Nat, DW r.1.1 n' S) ∧ (c ≤ r.2 ∧ r.2 ≤ c + f)
  | 0, _, _, _, _, _, _, _, h => by cases h
  | f + 1, D, N, q, n, c, hd, hq, h => by
    unfold pLoop at h
    by_cases c0 : tkK tp len q = 0
    · rw [if_pos c0] at h
      cases h
      exact ⟨⟨n, hd⟩, by dsimp only; omega⟩
    · rw [if_neg c0] at h
      cases hc : pClause tp len D N q with
      | error e =>
        rw [hc] at h
        cases h
      | ok s =>
        rw [hc] at h
        dsimp only at h
        obtain ⟨⟨n', h1⟩, h2, h3⟩ := pClause_ok hd hq c0 hc
        by_cases c3 : tkK tp len s.2.2 = 3
        · rw [if_pos c3] at h
          have hb := tkB_le (tp := tp) (len := len) (q := s.2.2) h3
          obtain ⟨a1, a2⟩ := pLoop_ok f s.1 s.2.1 _ n' (c + 1) h1 hb h
          exact ⟨a1, by omega⟩
        · rw [if_neg c3] at h
          cases h
theorem pMatter_ok {tp : Nat → Nat} {len : Nat} {D : Nat → Nat → Int} {N : Nat → Int64} {r : PS × Nat} (hD : P0 D) (h : pMatter tp len D N = .ok r) : (∃ n' S : Nat, DW r.1.1 n' S) ∧ r.2 ≤ len + 2 := by
  unfold pMatter at h
  cases c1 : tkIs tp len 0 1
  · rw [c1, if_neg Bool.false_ne_true] at h
    cases h
  · rw [c1, if_pos rfl] at h
    by_cases cn : eNum tp len (tkB tp len 0) 2 3 = 0
    · rw [if_pos cn] at h
      have hvb : 2 ≤ tkV tp len (tkB tp len 0) ∧ tkV tp len (tkB tp len 0) ≤ 3 := by
        unfold eNum at cn
        split at cn
        · split at cn
          · assumption
          · omega
        · omega
      by_cases c3 : tkK tp len (tkB tp len (tkB tp len 0)) = 3
      · rw [if_pos c3] at h
        generalize hv : tkV tp len (tkB tp len 0) = v at *
        obtain ⟨S, rfl⟩ : ∃ S : Nat, v = S := ⟨v.toNat, by omega⟩
        have b0 := tkB_le (tp := tp) (len := len) (q := 0) (Nat.zero_le _)
        have b1 := tkB_le (tp := tp) (len := len) b0
        have b2 := tkB_le (tp := tp) (len := len) b1
        obtain ⟨⟨n', a1⟩, a2⟩ := pLoop_ok (len + 1) _ _ _ 0 1 (P0_DW hD (by omega)) b2 h
        exact ⟨⟨n', S, a1⟩, by omega⟩
      · rw [if_neg c3] at h
        cases h
    · rw [if_neg cn] at h
      cases h
