/-! THE MODEL'S plain, readMatter -/
def P0 (D : Nat → Nat → Int) : Prop := (D 140 18 = 0 ∧ D 140 19 = 0 ∧ D 140 20 = 1 ∧ D 140 21 = 0 ∧ D 140 22 = 0 ∧ D 140 23 = 1) ∧ (∀ j : Nat, 25 ≤ j → j ≤ 31 → D 140 j = 0) ∧ ∀ i : Nat, i < 3 → D 155 i = 0 ∧ D 156 i = 0
theorem P0_DW {D : Nat → Nat → Int} {S : Nat} (h : P0 D) (hS : 2 ≤ S ∧ S ≤ 3) : DW (u2 D 140 17 (S : Int)) 0 S := by
  obtain ⟨⟨h1, h2, h3, h4, h5, h6⟩, h7, h8⟩ := h
  unfold DW
  simp (disch := omega) only [u2a, u2f, u2s, u2_ne]
  rw [h1, h2, h3, h4, h5, h6]
  refine ⟨⟨trivial, hS⟩, ⟨rfl, by omega⟩, ⟨rfl, by omega⟩, fun j hj hj2 => ?_, by omega, fun i hi => ?_, fun k hk => absurd hk (by omega)⟩
  · rw [u2f (by omega), h7 j hj hj2]
    omega
  · have := h8 i hi
    omega
def pLoop (tp : Nat → Nat) (len : Nat) : Nat → (Nat → Nat → Int) → (Nat → Int64) → Nat → Nat → Except (Int × Nat) (PS × Nat)
  | 0, _, _, _, _ => .error (0, 0)
  | f + 1, D, N, q, c => if tkK tp len q = 0 then .ok ((D, N, q), c) else match pClause tp len D N q with
    | .error e => .error e
    | .ok r => if tkK tp len r.2.2 = 3 then pLoop tp len f r.1 r.2.1 (tkB tp len r.2.2) (c + 1) else .error (1, tkF tp len r.2.2)
def pMatter (tp : Nat → Nat) (len : Nat) (D : Nat → Nat → Int) (N : Nat → Int64) : Except (Int × Nat) (PS × Nat) :=
  if tkIs tp len 0 1 then
    (if eNum tp len (tkB tp len 0) 2 3 = 0 then
      (if tkK tp len (tkB tp len (tkB tp len 0)) = 3 then pLoop tp len (len + 1) (u2 D 140 17 (tkV tp len (tkB tp len 0))) N (tkB tp len (tkB tp len (tkB tp len 0))) 1
       else .error (1, tkF tp len (tkB tp len (tkB tp len 0))))
     else .error (eNum tp len (tkB tp len 0) 2 3, tkF tp len (tkB tp len 0)))
  else .error (1, tkF tp len 0)
def MRq (tp : Nat → Nat) (len : Nat) (Z0 : Nat → Nat → Int) (J0 : Nat → Nat → Int64) (R : Nat → Nat → Option Nat) (r : Except (Int × Nat) (PS × Nat)) (o : Option (Option Value × pW)) : Prop := match r with
  | .error e => ∃ c : Int, ME (u2 Z0 140 48 c) J0 R e o
  | .ok s => ∃ (Z' : Nat → Nat → Int) (J' : Nat → Nat → Int64), PQ tp len (u2 Z0 140 48 (s.2 : Int)) J0 s.1.1 s.1.2.1 s.1.2.2 Z' J' ∧ o = some (some (.int (i32 1)), (176, zs Z', J', R))
theorem u2_u2 {Z : Nat → Nat → Int} {a j : Nat} {v w : Int} : u2 (u2 Z a j v) a j w = u2 Z a j w := by
  funext x y
  by_cases c : x = a
  · subst c
    by_cases c2 : y = j
    · subst c2
      rw [u2s, u2s]
    · rw [u2f c2, u2f c2, u2f c2]
  · rw [u2a c, u2a c, u2a c]
section
variable {d : Nat} {J J0 : Nat → Nat → Int64} {Z Z0 D : Nat → Nat → Int} {N : Nat → Int64} {p0 p1 p2 p3 p4 p5 p6 p7 : Nat} {tp : Nat → Nat} {len q n S : Nat}
theorem PQ_48 {v : Int} (h : PQ tp len Z0 J0 D N q Z J) : PQ tp len (u2 Z0 140 48 v) J0 D N q (u2 Z 140 48 v) J := by
  obtain ⟨h1, h2, ⟨h3, h4, h5, h6, h7⟩, h8⟩ := h
  refine ⟨⟨fun a ha hb => ?_, fun j hj => ?_⟩, h2, ⟨fun a j hr => ?_, h4, h5, TK_fr h6 (FX_u (l := [48]) FX_rfl (by decide)) (by decide), h7⟩, ?_⟩
  · rw [u2_ne ha, u2_ne ha]
    exact h1.1 a ha hb
  · by_cases c : j = 48
    · rw [c, u2s, u2s]
    · rw [u2f c, u2f c]
      exact h1.2 j hj
  · rw [← h3 a j hr]
    by_cases c : a = 140
    · subst c
      exact u2f (by omega)
    · exact u2a c
  · rw [u2f (by decide), u2f (by decide), u2f (by decide), u2f (by decide)]
    exact h8
theorem TBz_48 {v : Int} (ht : TBz tp Z) : TBz tp (u2 Z 140 48 v) := fun x hx => by
  rw [u2a (by decide)]
  exact ht x hx
theorem rm_loop (hl : len ≤ 700) (ht : TBz tp Z0) : ∀ (f : Nat) (D : Nat → Nat → Int) (N : Nat → Int64) (q n c : Nat) (Z : Nat → Nat → Int) (J : Nat → Nat → Int64), len - q < f → q ≤ len → DW D n S → PQ tp len (u2 Z0 140 48 (c : Int)) J0 D N q Z J → MRq tp len Z0 J0 (RP p0 p1 p2 p3 p4 p5 p6 p7) (pLoop tp len f D N q c) (den none (Mean (d + 10)) (some .boolean) tQ_X11_readMatter (46, [some (.ref 140)], [], 176, zs Z, J, RP p0 p1 p2 p3 p4 p5 p6 p7)) := by
  intro f
  induction f with
  | zero => exact fun _ _ _ _ _ _ _ h => absurd h (by omega)
  | succ f ih =>
    intro D N q n c Z J hf hq hd h
    have hk := PQ_kind h
    unfold pLoop
    by_cases c0 : tkK tp len q = 0
    · rw [if_pos c0]
      refine ⟨Z, J, h, ?_⟩
      have k5 := hk.2.2.2.1 c0
      rw [k_X11_readMatter_46]
      simp (disch := omega) only [k_X11_readMatter_0, k_X11_readMatter_4, k_X11_readMatter_10, k_X11_readMatter_13, k_X11_readMatter_19, k_X11_readMatter_22, k_X11_readMatter_24, k_X11_readMatter_36, k_X11_readMatter_39, k_X11_readMatter_41, k_X11_readMatter_53, k_X11_readMatter_57, k_X11_readMatter_60, k_X11_readMatter_64, k_X11_readMatter_67, k_X11_readMatter_69, k_X11_readMatter_82, li_0, li_1, li_2, li_3, li_4, li_5, li_6, li_9, li_10, li_40, lm_1, lm_2, lm_3, lm_4, zs_ap, i32_add, i32_sub, i32_mul, i32_neg, i32_lt, i32_le, i32_eq, i32_nat, ckn, pka_r, pka_v, if_pos, if_neg, if_true, if_false, k5, or_true]
    · rw [if_neg c0]
      have k5 := hk.2.2.2.2 c0
      have k6 := hk.1
      clear hk
      have hr := g_readClause (d := d) (p0 := p0) (p1 := p1) (p2 := p2) (p3 := p3) (p4 := p4) (p5 := p5) (p6 := p6) (p7 := p7) hl (TBz_48 ht) (DW_DB hd) h
      have hp := pClause_ok (r := match pClause tp len D N q with | .ok r => r | .error _ => (D, N, q)) (N := N) hd hq c0
      cases hc : pClause tp len D N q with
      | error e =>
        rw [hc] at hr
        obtain ⟨Z', J', a1, a2, a3, a4, a5⟩ := hr
        refine ⟨(c : Int), Z', J', a1, a2, a3, a4, ?_⟩
        rw [k_X11_readMatter_46]
        simp (disch := omega) only [k_X11_readMatter_0, k_X11_readMatter_4, k_X11_readMatter_10, k_X11_readMatter_13, k_X11_readMatter_19, k_X11_readMatter_22, k_X11_readMatter_24, k_X11_readMatter_36, k_X11_readMatter_39, k_X11_readMatter_41, k_X11_readMatter_53, k_X11_readMatter_57, k_X11_readMatter_60, k_X11_readMatter_64, k_X11_readMatter_67, k_X11_readMatter_69, k_X11_readMatter_82, li_0, li_1, li_2, li_3, li_4, li_5, li_6, li_9, li_10, li_40, lm_1, lm_2, lm_3, lm_4, zs_ap, i32_add, i32_sub, i32_mul, i32_neg, i32_lt, i32_le, i32_eq, i32_nat, ckn, pka_r, pka_v, if_pos, if_neg, if_true, if_false, a5, true_or]
      | ok r =>
        rw [hc] at hr hp
        obtain ⟨⟨n', g1⟩, g2, g3⟩ := hp rfl
        clear hp
        simp only at g1 g2 g3
        obtain ⟨Z', J', a1, a2⟩ := hr
        have hcl := g_close (d := d + 7) (p0 := p0) (p1 := p1) (p2 := p2) (p3 := p3) (p4 := p4) (p5 := p5) (p6 := p6) (p7 := p7) hl (TBz_48 ht) a1
        simp only
        by_cases c3 : tkK tp len r.2.2 = 3
        · rw [if_pos c3]
          obtain ⟨Z2, b1, b2⟩ := hcl.1 c3
          clear hcl
          have b3 := PQ_48 (v := ((c + 1 : Nat) : Int)) b1
          rw [u2_u2] at b3
          have z48 : Z2 140 48 = (c : Int) := by
            rw [b1.1.2 48 (by omega), u2s]
          have hle := tk_le (tp := tp) g3
          have key := ih r.1 r.2.1 (tkB tp len r.2.2) n' (c + 1) (u2 Z2 140 48 ((c + 1 : Nat) : Int)) J' (by omega) hle.2.1.2 g1 b3
          have e : den none (Mean (d + 10)) (some .boolean) tQ_X11_readMatter (46, [some (.ref 140)], [], 176, zs Z, J, RP p0 p1 p2 p3 p4 p5 p6 p7) = den none (Mean (d + 10)) (some .boolean) tQ_X11_readMatter (46, [some (.ref 140)], [], 176, zs (u2 Z2 140 48 ((c + 1 : Nat) : Int)), J', RP p0 p1 p2 p3 p4 p5 p6 p7) := by
            rw [k_X11_readMatter_46]
            simp (disch := omega) only [k_X11_readMatter_0, k_X11_readMatter_4, k_X11_readMatter_10, k_X11_readMatter_13, k_X11_readMatter_19, k_X11_readMatter_22, k_X11_readMatter_24, k_X11_readMatter_36, k_X11_readMatter_39, k_X11_readMatter_41, k_X11_readMatter_53, k_X11_readMatter_57, k_X11_readMatter_60, k_X11_readMatter_64, k_X11_readMatter_67, k_X11_readMatter_69, k_X11_readMatter_82, li_0, li_1, li_2, li_3, li_4, li_5, li_6, li_9, li_10, li_40, lm_1, lm_2, lm_3, lm_4, zs_ap, i32_add, i32_sub, i32_mul, i32_neg, i32_lt, i32_le, i32_eq, i32_nat, ckn, pka_r, pka_v, if_pos, if_neg, if_true, if_false, a2, b2, z48, zs_u2]
            rfl
          rw [e]
          exact key
        · rw [if_neg c3]
          obtain ⟨Z2, J2, b1, b2, b3, b4, b5⟩ := hcl.2 c3
          clear hcl
          refine ⟨(c : Int), Z2, J2, b1, b2, b3, b4, ?_⟩
          rw [k_X11_readMatter_46]
          simp (disch := omega) only [k_X11_readMatter_0, k_X11_readMatter_4, k_X11_readMatter_10, k_X11_readMatter_13, k_X11_readMatter_19, k_X11_readMatter_22, k_X11_readMatter_24, k_X11_readMatter_36, k_X11_readMatter_39, k_X11_readMatter_41, k_X11_readMatter_53, k_X11_readMatter_57, k_X11_readMatter_60, k_X11_readMatter_64, k_X11_readMatter_67, k_X11_readMatter_69, k_X11_readMatter_82, li_0, li_1, li_2, li_3, li_4, li_5, li_6, li_9, li_10, li_40, lm_1, lm_2, lm_3, lm_4, zs_ap, i32_add, i32_sub, i32_mul, i32_neg, i32_lt, i32_le, i32_eq, i32_nat, ckn, pka_r, pka_v, if_pos, if_neg, if_true, if_false, a2, b5, true_or]
theorem g_plain : ∃ Z' : Nat → Nat → Int, ((∀ a : Nat, a ≠ 140 → a ≠ 155 → a ≠ 156 → Z' a = Z a) ∧ ∀ j : Nat, (j < 18 ∨ j = 24 ∨ 31 < j) → Z' 140 j = Z 140 j) ∧ P0 Z' ∧ Mean (d + 1) 160 [.ref 140] (176, zs Z, J, RP p0 p1 p2 p3 p4 p5 p6 p7) = some (none, (176, zs Z', J, RP p0 p1 p2 p3 p4 p5 p6 p7)) := by
  generalize hZ : u2 (u2 (u2 (u2 (u2 (u2 (u2 (u2 (u2 (u2 (u2 (u2 (u2 Z 140 18 0) 140 19 0) 140 20 1) 140 21 0) 140 22 0) 140 23 1) 140 25 0) 140 26 0) 140 27 0) 140 28 0) 140 29 0) 140 30 0) 140 31 0 = Z1
  have f1 : ∀ a : Nat, a ≠ 140 → Z1 a = Z a := fun a ha => by
    rw [← hZ]
    simp (disch := omega) only [u2_ne]
  have f2 : ∀ j : Nat, (j < 18 ∨ j = 24 ∨ 31 < j) → Z1 140 j = Z 140 j := fun j hj => by
    rw [← hZ]
    simp (disch := omega) only [u2f]
  have f3 : (Z1 140 18 = 0 ∧ Z1 140 19 = 0 ∧ Z1 140 20 = 1 ∧ Z1 140 21 = 0 ∧ Z1 140 22 = 0 ∧ Z1 140 23 = 1) ∧ (Z1 140 25 = 0 ∧ Z1 140 26 = 0 ∧ Z1 140 27 = 0 ∧ Z1 140 28 = 0 ∧ Z1 140 29 = 0 ∧ Z1 140 30 = 0 ∧ Z1 140 31 = 0) := by
    rw [← hZ]
    simp (disch := omega) only [u2f, u2s]
    decide
  obtain ⟨Z', v, e⟩ := up_inv (fun (i : Nat) (Z : Nat → Nat → Int) => den none (Mean d) none tQ_X11_plain (67, [some (.ref 140), some (.int (i32 (i : Int)))], [], 176, zs Z, J, RP p0 p1 p2 p3 p4 p5 p6 p7)) 3 (fun i Z' => (∀ a : Nat, a ≠ 155 → a ≠ 156 → Z' a = Z1 a) ∧ ∀ k : Nat, k < i → Z' 155 k = 0 ∧ Z' 156 k = 0) (fun i Z2 hi hv => by
    refine ⟨u2 (u2 Z2 155 i 0) 156 i 0, ⟨fun a h1 h2 => by rw [u2_ne h2, u2_ne h1]; exact hv.1 a h1 h2, fun k hk => ?_⟩, ?_⟩
    · by_cases c : k = i
      · rw [c, u2s, u2a (by decide), u2s]
        exact ⟨rfl, rfl⟩
      · rw [u2f c, u2a (by decide), u2f c, u2a (by decide)]
        exact hv.2 k (by omega)
    · rw [k_X11_plain_67]
      simp (disch := omega) only [k_X11_plain_0, k_X11_plain_72, k_X11_plain_79, k_X11_plain_86, k_X11_plain_92, li_0, li_1, li_2, li_3, li_4, li_5, li_6, li_9, li_10, li_40, lm_1, lm_2, lm_3, lm_4, zs_ap, i32_add, i32_sub, i32_mul, i32_neg, i32_lt, i32_le, i32_eq, i32_nat, ckn, pka_r, pka_v, if_pos, if_neg, if_true, if_false, Int.toNat_natCast, zs_u2]
      rfl) Z1 ⟨fun _ _ _ => rfl, fun _ q => absurd q (by omega)⟩
  have v1 := v.1 140 (by decide) (by decide)
  refine ⟨Z', ⟨fun a a1 a2 a3 => (v.1 a a2 a3).trans (f1 a a1), fun j hj => by rw [v1]; exact f2 j hj⟩, ⟨by rw [v1]; exact f3.1, fun j hj hj2 => ?_, v.2⟩, ?_⟩
  · rw [v1]
    obtain ⟨_, g1, g2, g3, g4, g5, g6, g7⟩ := f3
    have : j = 25 ∨ j = 26 ∨ j = 27 ∨ j = 28 ∨ j = 29 ∨ j = 30 ∨ j = 31 := by omega
    rcases this with rfl | rfl | rfl | rfl | rfl | rfl | rfl
    · exact g1
    · exact g2
    · exact g3
    · exact g4
    · exact g5
    · exact g6
    · exact g7
  · rw [e_X11_plain]
    simp (disch := omega) only [k_X11_plain_0, k_X11_plain_72, k_X11_plain_79, k_X11_plain_86, k_X11_plain_92, li_0, li_1, li_2, li_3, li_4, li_5, li_6, li_9, li_10, li_40, lm_1, lm_2, lm_3, lm_4, zs_ap, i32_add, i32_sub, i32_mul, i32_neg, i32_lt, i32_le, i32_eq, i32_nat, ckn, pka_r, pka_v, if_pos, if_neg, if_true, if_false, zs_u2, hZ]
    refine Eq.trans e ?_
    rw [k_X11_plain_67]
    simp (disch := omega) only [k_X11_plain_0, k_X11_plain_72, k_X11_plain_79, k_X11_plain_86, k_X11_plain_92, li_0, li_1, li_2, li_3, li_4, li_5, li_6, li_9, li_10, li_40, lm_1, lm_2, lm_3, lm_4, zs_ap, i32_add, i32_sub, i32_mul, i32_neg, i32_lt, i32_le, i32_eq, i32_nat, ckn, pka_r, pka_v, if_pos, if_neg, if_true, if_false]
theorem g_readMatter (hl : len ≤ 700) (ht : TBz tp Z) (hk : TK tp len 0 Z) (hw : WB Z) : ∃ D0 : Nat → Nat → Int, P0 D0 ∧ MRq tp len Z J (RP p0 p1 p2 p3 p4 p5 p6 p7) (pMatter tp len D0 (J 157)) (Mean (d + 11) 161 [.ref 140] (176, zs Z, J, RP p0 p1 p2 p3 p4 p5 p6 p7)) := by
  obtain ⟨Z1, ⟨p1', p2'⟩, p3', p4'⟩ := g_plain (d := d + 9) (J := J) (Z := Z) (p0 := p0) (p1 := p1) (p2 := p2) (p3 := p3) (p4 := p4) (p5 := p5) (p6 := p6) (p7 := p7)
  refine ⟨Z1, p3', ?_⟩
  have hZ48 : u2 Z 140 48 (Z 140 48) = Z := by
    funext a j
    by_cases c : a = 140
    · subst c
      by_cases c2 : j = 48
      · subst c2
        exact u2s
      · exact u2f c2
    · exact u2a c
  have h0 : PQ tp len Z J Z1 (J 157) 0 Z1 J := by
    refine ⟨⟨fun a ha hb => p1' a ha (by omega) (by omega), fun j hj => p2' j (by omega)⟩, fun _ _ => rfl, ⟨fun _ _ _ => rfl, fun x hx => by rw [p1' 154 (by decide) (by decide) (by decide)]; exact hw x hx, rfl, ?_, Nat.zero_le _⟩, by rw [p2' 7 (by omega), p2' 8 (by omega)]; exact ⟨rfl, rfl⟩⟩
    unfold TK
    rw [p2' 2 (by omega), p2' 3 (by omega), p2' 4 (by omega), p2' 5 (by omega), p2' 6 (by omega)]
    exact hk
  have hex := PQ_exp (d := d + 2) (p0 := p0) (p1 := p1) (p2 := p2) (p3 := p3) (p4 := p4) (p5 := p5) (p6 := p6) (p7 := p7) hl ht h0 (t := 1) (by decide) (by decide)
  unfold pMatter
  rw [e_X11_readMatter]
  cases c1 : tkIs tp len 0 1
  · rw [if_neg Bool.false_ne_true]
    obtain ⟨Z', x1, x3⟩ := hex.2 c1
    clear hex
    refine ⟨Z 140 48, ?_⟩
    rw [hZ48]
    refine PQ_fault h0 x1.1 (by decide) x1.2 ?_
    simp (disch := omega) only [k_X11_readMatter_0, k_X11_readMatter_4, k_X11_readMatter_10, k_X11_readMatter_13, k_X11_readMatter_19, k_X11_readMatter_22, k_X11_readMatter_24, k_X11_readMatter_36, k_X11_readMatter_39, k_X11_readMatter_41, k_X11_readMatter_53, k_X11_readMatter_57, k_X11_readMatter_60, k_X11_readMatter_64, k_X11_readMatter_67, k_X11_readMatter_69, k_X11_readMatter_82, li_0, li_1, li_2, li_3, li_4, li_5, li_6, li_9, li_10, li_40, lm_1, lm_2, lm_3, lm_4, zs_ap, i32_add, i32_sub, i32_mul, i32_neg, i32_lt, i32_le, i32_eq, i32_nat, ckn, pka_r, pka_v, if_pos, if_neg, if_true, if_false, p4', x3, true_or]
  · rw [if_pos rfl]
    obtain ⟨Z2, x1, x3⟩ := hex.1 c1
    clear hex
    have hn := PQ_num (d := d + 7) (p0 := p0) (p1 := p1) (p2 := p2) (p3 := p3) (p4 := p4) (p5 := p5) (p6 := p6) (p7 := p7) hl ht x1 (lo := 2) (hi := 3) (by omega) (by omega)
    generalize hq1 : tkB tp len 0 = q1 at *
    by_cases cn : eNum tp len q1 2 3 = 0
    · rw [if_pos cn]
      obtain ⟨Z3, f1, f2, f3⟩ := hn.1 cn
      clear hn
      have hvb : 2 ≤ tkV tp len q1 ∧ tkV tp len q1 ≤ 3 := by
        unfold eNum at cn
        split at cn
        · split at cn
          · assumption
          · omega
        · omega
      have g1 := PQ_u f1 (a := 140) (j := 17) (tkV tp len q1) (by decide) (Or.inl (by decide))
      generalize hv : tkV tp len q1 = v at *
      generalize hq2 : tkB tp len q1 = q2 at *
      have hcl := g_close (d := d + 7) (p0 := p0) (p1 := p1) (p2 := p2) (p3 := p3) (p4 := p4) (p5 := p5) (p6 := p6) (p7 := p7) hl ht g1
      by_cases c3 : tkK tp len q2 = 3
      · rw [if_pos c3]
        obtain ⟨Z4, b1, b2⟩ := hcl.1 c3
        clear hcl
        have b3 := PQ_48 (v := ((1 : Nat) : Int)) b1
        obtain ⟨S, rfl⟩ : ∃ S : Nat, v = S := ⟨v.toNat, by omega⟩
        have key := rm_loop (d := d) (p0 := p0) (p1 := p1) (p2 := p2) (p3 := p3) (p4 := p4) (p5 := p5) (p6 := p6) (p7 := p7) (S := S) hl ht (len + 1) (u2 Z1 140 17 (S : Int)) (J 157) (tkB tp len q2) 0 1 _ J (by omega) b3.2.2.1.2.2.2.2 (P0_DW p3' (by omega)) b3
        have e : den none (Mean (d + 10)) (some .boolean) tQ_X11_readMatter (0, [some (.ref 140)], [], 176, zs Z, J, RP p0 p1 p2 p3 p4 p5 p6 p7) = den none (Mean (d + 10)) (some .boolean) tQ_X11_readMatter (46, [some (.ref 140)], [], 176, zs (u2 Z4 140 48 ((1 : Nat) : Int)), J, RP p0 p1 p2 p3 p4 p5 p6 p7) := by
          simp (disch := omega) only [k_X11_readMatter_0, k_X11_readMatter_4, k_X11_readMatter_10, k_X11_readMatter_13, k_X11_readMatter_19, k_X11_readMatter_22, k_X11_readMatter_24, k_X11_readMatter_36, k_X11_readMatter_39, k_X11_readMatter_41, k_X11_readMatter_53, k_X11_readMatter_57, k_X11_readMatter_60, k_X11_readMatter_64, k_X11_readMatter_67, k_X11_readMatter_69, k_X11_readMatter_82, li_0, li_1, li_2, li_3, li_4, li_5, li_6, li_9, li_10, li_40, lm_1, lm_2, lm_3, lm_4, zs_ap, i32_add, i32_sub, i32_mul, i32_neg, i32_lt, i32_le, i32_eq, i32_nat, ckn, pka_r, pka_v, if_pos, if_neg, if_true, if_false, p4', x3, f3, f2, zs_u2, b2]
          rfl
        rw [e]
        exact key
      · rw [if_neg c3]
        obtain ⟨Z4, J4, b1, b2, b3, b4, b5⟩ := hcl.2 c3
        clear hcl
        refine ⟨Z 140 48, ?_⟩
        rw [hZ48]
        refine ⟨Z4, J4, b1, b2, b3, b4, ?_⟩
        simp (disch := omega) only [k_X11_readMatter_0, k_X11_readMatter_4, k_X11_readMatter_10, k_X11_readMatter_13, k_X11_readMatter_19, k_X11_readMatter_22, k_X11_readMatter_24, k_X11_readMatter_36, k_X11_readMatter_39, k_X11_readMatter_41, k_X11_readMatter_53, k_X11_readMatter_57, k_X11_readMatter_60, k_X11_readMatter_64, k_X11_readMatter_67, k_X11_readMatter_69, k_X11_readMatter_82, li_0, li_1, li_2, li_3, li_4, li_5, li_6, li_9, li_10, li_40, lm_1, lm_2, lm_3, lm_4, zs_ap, i32_add, i32_sub, i32_mul, i32_neg, i32_lt, i32_le, i32_eq, i32_nat, ckn, pka_r, pka_v, if_pos, if_neg, if_true, if_false, p4', x3, f3, f2, zs_u2, b5, true_or]
    · rw [if_neg cn]
      obtain ⟨Z3, f1, f3⟩ := hn.2 cn
      clear hn
      refine ⟨Z 140 48, ?_⟩
      rw [hZ48]
      refine PQ_fault x1 f1.1 (by decide) f1.2 ?_
      simp (disch := omega) only [k_X11_readMatter_0, k_X11_readMatter_4, k_X11_readMatter_10, k_X11_readMatter_13, k_X11_readMatter_19, k_X11_readMatter_22, k_X11_readMatter_24, k_X11_readMatter_36, k_X11_readMatter_39, k_X11_readMatter_41, k_X11_readMatter_53, k_X11_readMatter_57, k_X11_readMatter_60, k_X11_readMatter_64, k_X11_readMatter_67, k_X11_readMatter_69, k_X11_readMatter_82, li_0, li_1, li_2, li_3, li_4, li_5, li_6, li_9, li_10, li_40, lm_1, lm_2, lm_3, lm_4, zs_ap, i32_add, i32_sub, i32_mul, i32_neg, i32_lt, i32_le, i32_eq, i32_nat, ckn, pka_r, pka_v, if_pos, if_neg, if_true, if_false, p4', x3, f3, true_or]
end
