/-! WHO IS ONE STEP FROM THE END -/
def dif (m : Mat) (s k : Nat) : Prop := qhas m s k ≠ qkept m k
def gd (m : Mat) (s k : Nat) : Prop := qkept m k ≤ qhas m s k ∧ qmay m s k (qhas m s k - qkept m k) = true
def NB (m : Mat) (s k g : Nat) : Prop := ∀ k' : Nat, k ≤ k' → k' < qP m → dif m s k' → gd m s k' ∧ g.testBit (qown m k') = false ∧ ∀ k2 : Nat, k ≤ k2 → k2 < qP m → dif m s k2 → qown m k2 = qown m k' → k2 = k'
theorem tb3_or {g o o' : Nat} (hg : g < 8) (ho : o < 3) (ho' : o' < 3) : (g ||| 1 <<< o).testBit o' = (g.testBit o' || decide (o' = o)) := by
  have : ∀ g : Nat, g < 8 → ∀ o : Nat, o < 3 → ∀ o' : Nat, o' < 3 → (g ||| 1 <<< o).testBit o' = (g.testBit o' || decide (o' = o)) := by decide
  exact this g hg o ho o' ho'
theorem tb_nz {g : Nat} (hg : g < 8) : g ≠ 0 ↔ (g.testBit 0 = true ∨ g.testBit 1 = true ∨ g.testBit 2 = true) := by
  have : ∀ g : Nat, g < 8 → (g ≠ 0 ↔ (g.testBit 0 = true ∨ g.testBit 1 = true ∨ g.testBit 2 = true)) := by decide
  exact this g hg
theorem tb_one {g : Nat} (hg : g < 8) : g &&& (g - 1) = 0 ↔ ∀ o : Nat, o < 3 → ∀ o' : Nat, o' < 3 → g.testBit o = true → g.testBit o' = true → o = o' := by
  have : ∀ g : Nat, g < 8 → (g &&& (g - 1) = 0 ↔ ∀ o : Nat, o < 3 → ∀ o' : Nat, o' < 3 → g.testBit o = true → g.testBit o' = true → o = o') := by decide
  exact this g hg
/-- what nearG's answer says -/
def NG (m : Mat) (s k g : Nat) (x : Option Nat) : Prop := (x = none → ¬ NB m s k g) ∧ ∀ g' : Nat, x = some g' → NB m s k g ∧ g' < 8 ∧ ∀ o : Nat, o < 3 → (g'.testBit o = true ↔ (g.testBit o = true ∨ ∃ k' : Nat, k ≤ k' ∧ k' < qP m ∧ dif m s k' ∧ qown m k' = o))
theorem nearG_ng {m : Mat} (hw : wf m) {s : Nat} : ∀ (j k g : Nat), k + j = qP m → g < 8 → NG m s k g (nearG m s j k g) := by
  have hS := hw.1
  intro j
  induction j with
  | zero =>
    intro k g hk hg
    refine ⟨(fun q => nomatch q), fun g' hg' => ?_⟩
    have e : g = g' := Option.some.inj hg'
    subst e
    refine ⟨fun k' h1 h2 => by omega, hg, fun o ho => ⟨Or.inl, fun q => ?_⟩⟩
    rcases q with q | ⟨k', h1, h2, _⟩
    · exact q
    · omega
  | succ j ih =>
    intro k g hk hg
    have hkP : k < qP m := by omega
    have hok : ∀ k' : Nat, k' < qP m → qown m k' < 3 := fun k' h => by have := (hw.2.2.1 k' h).1; omega
    have ho := hok k hkP
    by_cases c0 : qhas m s k = qkept m k
    · have e : nearG m s (j + 1) k g = nearG m s j (k + 1) g := by
        show (match nst m s k g with | none => none | some g' => nearG m s j (k + 1) g') = _
        unfold nst
        rw [if_pos c0]
      have hn : ¬ dif m s k := fun q => q c0
      have up : ∀ k' : Nat, k ≤ k' → dif m s k' → k + 1 ≤ k' := fun k' h1 h2 => by
        rcases Nat.lt_or_ge k k' with q | q
        · exact q
        · exact absurd (show dif m s k from (show k' = k by omega) ▸ h2) hn
      have hNB : NB m s k g ↔ NB m s (k + 1) g := by
        constructor
        · intro h k' h1 h2 h3
          obtain ⟨a1, a2, a3⟩ := h k' (by omega) h2 h3
          exact ⟨a1, a2, fun k2 b1 b2 b3 b4 => a3 k2 (by omega) b2 b3 b4⟩
        · intro h k' h1 h2 h3
          obtain ⟨a1, a2, a3⟩ := h k' (up k' h1 h3) h2 h3
          exact ⟨a1, a2, fun k2 b1 b2 b3 b4 => a3 k2 (up k2 b1 b3) b2 b3 b4⟩
      obtain ⟨i1, i2⟩ := ih (k + 1) g (by omega) hg
      rw [e]
      refine ⟨fun q => fun h => i1 q (hNB.mp h), fun g' q => ?_⟩
      obtain ⟨a1, a2, a3⟩ := i2 g' q
      refine ⟨hNB.mpr a1, a2, fun o ho => (a3 o ho).trans ⟨fun r => ?_, fun r => ?_⟩⟩
      · rcases r with r | ⟨k', b1, b2, b3, b4⟩
        · exact Or.inl r
        · exact Or.inr ⟨k', by omega, b2, b3, b4⟩
      · rcases r with r | ⟨k', b1, b2, b3, b4⟩
        · exact Or.inl r
        · exact Or.inr ⟨k', up k' b1 b3, b2, b3, b4⟩
    · by_cases c1 : (qhas m s k < qkept m k ∨ qmay m s k (qhas m s k - qkept m k) = false) ∨ g.testBit (qown m k) = true
      · have e : nearG m s (j + 1) k g = none := by
          show (match nst m s k g with | none => none | some g' => nearG m s j (k + 1) g') = _
          unfold nst
          rw [if_neg c0, if_pos c1]
        rw [e]
        refine ⟨fun _ h => ?_, fun g' q => nomatch q⟩
        obtain ⟨⟨a1, a2⟩, a3, _⟩ := h k (Nat.le_refl _) hkP c0
        rcases c1 with (q | q) | q
        · omega
        · rw [a2] at q; cases q
        · rw [a3] at q; cases q
      · have e : nearG m s (j + 1) k g = nearG m s j (k + 1) (g ||| 1 <<< qown m k) := by
          show (match nst m s k g with | none => none | some g' => nearG m s j (k + 1) g') = _
          unfold nst
          rw [if_neg c0, if_neg c1]
        have hgd : gd m s k := ⟨Nat.le_of_not_lt (fun q => c1 (Or.inl (Or.inl q))), by
          cases q : qmay m s k (qhas m s k - qkept m k)
          · exact absurd (Or.inl (Or.inr q)) c1
          · rfl⟩
        have hbit : g.testBit (qown m k) = false := by
          cases q : g.testBit (qown m k)
          · rfl
          · exact absurd (Or.inr q) c1
        have hNB : NB m s k g ↔ NB m s (k + 1) (g ||| 1 <<< qown m k) := by
          constructor
          · intro h k' h1 h2 h3
            obtain ⟨a1, a2, a3⟩ := h k' (by omega) h2 h3
            refine ⟨a1, ?_, fun k2 b1 b2 b3 b4 => a3 k2 (by omega) b2 b3 b4⟩
            rw [tb3_or hg ho (hok k' h2), a2, Bool.false_or]
            apply decide_eq_false
            intro q
            have := a3 k (Nat.le_refl _) hkP c0 q.symm
            omega
          · intro h k' h1 h2 h3
            by_cases ck : k' = k
            · subst ck
              refine ⟨hgd, hbit, fun k2 b1 b2 b3 b4 => ?_⟩
              rcases Nat.lt_or_ge k' k2 with q | q
              · have := (h k2 q b2 b3).2.1
                rw [tb3_or hg ho (hok k2 b2), b4, decide_eq_true rfl, Bool.or_true] at this
                cases this
              · omega
            · obtain ⟨a1, a2, a3⟩ := h k' (by omega) h2 h3
              rw [tb3_or hg ho (hok k' h2), Bool.or_eq_false_iff] at a2
              refine ⟨a1, a2.1, fun k2 b1 b2 b3 b4 => ?_⟩
              rcases Nat.lt_or_ge k k2 with q | q
              · exact a3 k2 q b2 b3 b4
              · have ek : k2 = k := by omega
                subst ek
                exact absurd b4.symm (of_decide_eq_false a2.2)
        obtain ⟨i1, i2⟩ := ih (k + 1) (g ||| 1 <<< qown m k) (by omega) (nb2 hg ho).2
        rw [e]
        refine ⟨fun q => fun h => i1 q (hNB.mp h), fun g' q => ?_⟩
        obtain ⟨a1, a2, a3⟩ := i2 g' q
        refine ⟨hNB.mpr a1, a2, fun o ho' => (a3 o ho').trans ?_⟩
        rw [tb3_or hg ho ho']
        constructor
        · intro r
          rcases r with r | ⟨k', b1, b2, b3, b4⟩
          · rw [Bool.or_eq_true] at r
            rcases r with r | r
            · exact Or.inl r
            · exact Or.inr ⟨k, Nat.le_refl _, hkP, c0, (of_decide_eq_true r).symm⟩
          · exact Or.inr ⟨k', by omega, b2, b3, b4⟩
        · intro r
          rcases r with r | ⟨k', b1, b2, b3, b4⟩
          · exact Or.inl (by rw [r, Bool.true_or])
          · by_cases ck : k' = k
            · subst ck
              exact Or.inl (by rw [decide_eq_true b4.symm, Bool.or_true])
            · exact Or.inr ⟨k', by omega, b2, b3, b4⟩
/-- the pieces still to give: each may be given at once, each of another owner -/
def NS (m : Mat) (s : Nat) : Prop := ∀ k : Nat, k < qP m → dif m s k → gd m s k ∧ ∀ k2 : Nat, k2 < qP m → dif m s k2 → qown m k2 = qown m k → k2 = k
theorem near_iff {m : Mat} (hw : wf m) {s : Nat} : qnear m s = true ↔ ((∃ k : Nat, k < qP m ∧ dif m s k) ∧ NS m s ∧ (qmode m = 2 ∨ ∀ k k2 : Nat, k < qP m → k2 < qP m → dif m s k → dif m s k2 → qown m k = qown m k2)) := by
  have hS := hw.1
  have hok : ∀ k' : Nat, k' < qP m → qown m k' < 3 := fun k' h => by have := (hw.2.2.1 k' h).1; omega
  obtain ⟨n1, n2⟩ := nearG_ng hw (s := s) (qP m) 0 0 (by omega) (by omega)
  have hNB : NB m s 0 0 ↔ NS m s := by
    constructor
    · intro h k hk hd
      obtain ⟨a1, _, a3⟩ := h k (Nat.zero_le _) hk hd
      exact ⟨a1, fun k2 b1 b2 b3 => a3 k2 (Nat.zero_le _) b1 b2 b3⟩
    · intro h k _ hk hd
      obtain ⟨a1, a3⟩ := h k hk hd
      exact ⟨a1, Nat.zero_testBit _, fun k2 _ b1 b2 b3 => a3 k2 b1 b2 b3⟩
  unfold qnear
  cases cg : nearG m s (qP m) 0 0 with
  | none =>
    constructor
    · intro q; cases q
    · intro q
      exact absurd (hNB.mpr q.2.1) (n1 cg)
  | some g =>
    obtain ⟨a1, a2, a3⟩ := n2 g cg
    have bit : ∀ o : Nat, o < 3 → (g.testBit o = true ↔ ∃ k : Nat, k < qP m ∧ dif m s k ∧ qown m k = o) := fun o ho => (a3 o ho).trans ⟨fun q => by
      rcases q with q | ⟨k, _, b2, b3, b4⟩
      · rw [Nat.zero_testBit] at q; cases q
      · exact ⟨k, b2, b3, b4⟩, fun ⟨k, b2, b3, b4⟩ => Or.inr ⟨k, Nat.zero_le _, b2, b3, b4⟩⟩
    have hnz : g ≠ 0 ↔ ∃ k : Nat, k < qP m ∧ dif m s k := by
      rw [tb_nz a2]
      constructor
      · intro q
        rcases q with q | q | q
        · obtain ⟨k, b1, b2, _⟩ := (bit 0 (by omega)).mp q; exact ⟨k, b1, b2⟩
        · obtain ⟨k, b1, b2, _⟩ := (bit 1 (by omega)).mp q; exact ⟨k, b1, b2⟩
        · obtain ⟨k, b1, b2, _⟩ := (bit 2 (by omega)).mp q; exact ⟨k, b1, b2⟩
      · intro ⟨k, b1, b2⟩
        have h3 := hok k b1
        have hb := (bit (qown m k) h3).mpr ⟨k, b1, b2, rfl⟩
        have : qown m k = 0 ∨ qown m k = 1 ∨ qown m k = 2 := by omega
        rcases this with q | q | q <;> rw [q] at hb
        · exact Or.inl hb
        · exact Or.inr (Or.inl hb)
        · exact Or.inr (Or.inr hb)
    have hone : g &&& (g - 1) = 0 ↔ ∀ k k2 : Nat, k < qP m → k2 < qP m → dif m s k → dif m s k2 → qown m k = qown m k2 := by
      rw [tb_one a2]
      constructor
      · intro h k k2 h1 h2 h3 h4
        exact h _ (hok k h1) _ (hok k2 h2) ((bit _ (hok k h1)).mpr ⟨k, h1, h3, rfl⟩) ((bit _ (hok k2 h2)).mpr ⟨k2, h2, h4, rfl⟩)
      · intro h o ho o' ho' b1 b2
        obtain ⟨k, c1, c2, rfl⟩ := (bit o ho).mp b1
        obtain ⟨k2, d1, d2, rfl⟩ := (bit o' ho').mp b2
        exact h k k2 c1 d1 c2 d2
    show (!decide (g = 0) && (decide (qmode m = 2) || decide (g &&& (g - 1) = 0))) = true ↔ _
    rw [Bool.and_eq_true, Bool.or_eq_true, Bool.not_eq_true', decide_eq_false_iff_not, decide_eq_true_iff, decide_eq_true_iff, hone]
    exact ⟨fun q => ⟨hnz.mp q.1, hNB.mp a1, q.2⟩, fun q => ⟨hnz.mpr q.1, q.2.2⟩⟩
theorem fin_dif {m : Mat} (hw : wf m) {s : Nat} (hs : s < qN m) : s = qfin m ↔ ∀ k : Nat, k < qP m → ¬ dif m s k := by
  constructor
  · intro h k hk hd
    rw [h] at hd
    exact hd (has_fin hw hk)
  · intro h
    refine dig_inj hs (qfin_lt hw) (fun k hk => ?_)
    rw [has_fin hw hk]
    exact Classical.not_not.mp (h k hk)
theorem gd_q {m : Mat} (hw : wf m) {s k : Nat} (hk : k < qP m) (hd : dif m s k) (hg : gd m s k) : ∃ q : Nat, q < 9 ∧ qhas m s k = qkept m k + (q + 1) ∧ qmay m s k (q + 1) = true := by
  have h1 := qhas_le m s k
  have h2 := (hw.2.2.1 k hk).2.1
  have h3 := hg.1
  have hd' : qhas m s k ≠ qkept m k := hd
  refine ⟨qhas m s k - qkept m k - 1, by omega, by omega, ?_⟩
  rw [show qhas m s k - qkept m k - 1 + 1 = qhas m s k - qkept m k by omega]
  exact hg.2
theorem one_fin {m : Mat} (hw : wf m) {s : Nat} (hs : s < qN m) {sel : Nat → Bool} : givs m s sel (fun u => decide (u = qfin m)) = true ↔ ∃ k : Nat, k < qP m ∧ sel k = true ∧ dif m s k ∧ gd m s k ∧ ∀ k2 : Nat, k2 < qP m → dif m s k2 → k2 = k := by
  rw [givs_iff]
  constructor
  · intro ⟨k, q, h1, h2, h3, h4, h5⟩
    have hm := may_le h4
    have hlt := (gift_le hs h1 h4).1
    have h6 := (fin_dif hw (show s - (q + 1) * qpl m k < qN m by omega)).mp (of_decide_eq_true h5)
    have hh := fun (j : Nat) (hj : j < qP m) => has_sub hs h1 (q := q + 1) (by omega) hj
    have hk : qhas m s k - (q + 1) = qkept m k := by
      have := Classical.not_not.mp (h6 k h1)
      rw [hh k h1, if_pos rfl] at this
      exact this
    refine ⟨k, h1, h2, fun e => by omega, ⟨by omega, by rw [show qhas m s k - qkept m k = q + 1 by omega]; exact h4⟩, fun k2 b1 b2 => ?_⟩
    by_cases c : k2 = k
    · exact c
    · have := Classical.not_not.mp (h6 k2 b1)
      rw [hh k2 b1, if_neg c] at this
      exact absurd this b2
  · intro ⟨k, h1, h2, h3, h4, h5⟩
    obtain ⟨q, b1, b2, b3⟩ := gd_q hw h1 h3 h4
    refine ⟨k, q, h1, h2, b1, b3, decide_eq_true ?_⟩
    have hlt := (gift_le hs h1 b3).1
    refine (fin_dif hw (by omega)).mpr (fun j hj hd => ?_)
    unfold dif at hd
    rw [has_sub hs h1 (by omega) hj] at hd
    by_cases c : j = k
    · rw [if_pos c] at hd
      subst c
      exact hd (by omega)
    · rw [if_neg c] at hd
      exact c (h5 j hj hd)
theorem AL_fin {m : Mat} (hw : wf m) : ∀ (j s : Nat), j ≤ qS m → s < qN m → (AL m (fun u => decide (u = qfin m)) j s = true ↔ ((∀ k : Nat, k < qP m → dif m s k → qS m - j ≤ qown m k) ∧ NS m s))
  | 0, s, _, hs => by
    show decide (s = qfin m) = true ↔ _
    rw [decide_eq_true_iff, fin_dif hw hs]
    constructor
    · intro h
      exact ⟨fun k hk hd => absurd hd (h k hk), fun k hk hd => absurd hd (h k hk)⟩
    · intro h k hk hd
      have := h.1 k hk hd
      have := (hw.2.2.1 k hk).1
      omega
  | j + 1, s, hj, hs => by
    rw [AL_s, Bool.or_eq_true, AL_fin hw j s (by omega) hs, givs_iff]
    constructor
    · intro h
      rcases h with h | ⟨k, q, h1, h2, h3, h4, h5⟩
      · exact ⟨fun k hk hd => by have := h.1 k hk hd; omega, h.2⟩
      · have hm := may_le h4
        have hlt := (gift_le hs h1 h4).1
        have hok : qown m k = qS m - 1 - j := of_decide_eq_true h2
        obtain ⟨a1, a2⟩ := (AL_fin hw j _ (by omega) (by omega)).mp h5
        have hh := fun (i : Nat) (hi : i < qP m) => has_sub hs h1 (q := q + 1) (by omega) hi
        have hk : qhas m s k - (q + 1) = qkept m k := by
          by_cases c : qhas m s k - (q + 1) = qkept m k
          · exact c
          · have := a1 k h1 (by unfold dif; rw [hh k h1, if_pos rfl]; exact c)
            omega
        have hgd : gd m s k := ⟨by omega, by rw [show qhas m s k - qkept m k = q + 1 by omega]; exact h4⟩
        have hdd : ∀ i : Nat, i < qP m → i ≠ k → dif m s i → dif m (s - (q + 1) * qpl m k) i := fun i hi hne hd => by
          unfold dif
          rw [hh i hi, if_neg hne]
          exact hd
        refine ⟨fun i hi hd => ?_, fun i hi hd => ?_⟩
        · by_cases c : i = k
          · subst c; omega
          · have := a1 i hi (hdd i hi c hd)
            omega
        · by_cases c : i = k
          · subst c
            refine ⟨hgd, fun k2 b1 b2 b3 => ?_⟩
            by_cases c2 : k2 = i
            · exact c2
            · have := a1 k2 b1 (hdd k2 b1 c2 b2)
              omega
          · obtain ⟨g1, g2⟩ := a2 i hi (hdd i hi c hd)
            have e : qhas m (s - (q + 1) * qpl m k) i = qhas m s i := by rw [hh i hi, if_neg c]
            refine ⟨?_, fun k2 b1 b2 b3 => ?_⟩
            · unfold gd at g1 ⊢
              rw [e, may_c e] at g1
              exact g1
            · by_cases c2 : k2 = k
              · subst c2
                have := a1 i hi (hdd i hi c hd)
                omega
              · exact g2 k2 b1 (hdd k2 b1 c2 b2) b3
    · intro ⟨h1, h2⟩
      by_cases c : ∃ k : Nat, k < qP m ∧ dif m s k ∧ qown m k = qS m - 1 - j
      · obtain ⟨k, k1, k2, k3⟩ := c
        obtain ⟨g1, g2⟩ := h2 k k1 k2
        obtain ⟨q, b1, b2, b3⟩ := gd_q hw k1 k2 g1
        have hlt := (gift_le hs k1 b3).1
        have hh := fun (i : Nat) (hi : i < qP m) => has_sub hs k1 (q := q + 1) (by omega) hi
        have hnd : ∀ i : Nat, i < qP m → dif m (s - (q + 1) * qpl m k) i → i ≠ k ∧ dif m s i := fun i hi hd => by
          unfold dif at hd
          rw [hh i hi] at hd
          by_cases c : i = k
          · rw [if_pos c, c] at hd
            omega
          · rw [if_neg c] at hd
            exact ⟨c, hd⟩
        refine Or.inr ⟨k, q, k1, decide_eq_true k3, b1, b3, (AL_fin hw j _ (by omega) (by omega)).mpr ⟨fun i hi hd => ?_, fun i hi hd => ?_⟩⟩
        · obtain ⟨d1, d2⟩ := hnd i hi hd
          have o1 := h1 i hi d2
          by_cases co : qown m i = qS m - 1 - j
          · exact absurd (g2 i hi d2 (by omega)) d1
          · omega
        · obtain ⟨d1, d2⟩ := hnd i hi hd
          obtain ⟨f1, f2⟩ := h2 i hi d2
          have e : qhas m (s - (q + 1) * qpl m k) i = qhas m s i := by rw [hh i hi, if_neg d1]
          refine ⟨?_, fun k2 b1 b2 b3 => f2 k2 b1 (hnd k2 b1 b2).2 b3⟩
          unfold gd at f1 ⊢
          rw [e, may_c e]
          exact f1
      · refine Or.inl ⟨fun i hi hd => ?_, h2⟩
        have o1 := h1 i hi hd
        by_cases co : qown m i = qS m - 1 - j
        · exact absurd ⟨i, hi, hd, co⟩ c
        · omega
