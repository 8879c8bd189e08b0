/-! WHAT IS SAFE: a row that holds in n steps leads on -/
theorem cmp_z {x y : Int64} : (lg_cmp x y = i32 0) = (x = y) := cmp_eq
def sf (m : Mat) (b : Nat → Int) : Nat → Nat → Nat → Bool
  | 0, s, _ => decide (s = qfin m)
  | n + 1, s, t => (!decide (s = qfin m) && qstay m b s (n + 1)) && onw m (sf m b n) s t
def qturns (m : Mat) : Nat := if qmode m = 0 then qS m else 1
theorem anyN_mono {p q : Nat → Bool} {n : Nat} (h : ∀ k : Nat, k < n → p k = true → q k = true) (hp : anyN p n = true) : anyN q n = true := by
  obtain ⟨k, h1, h2⟩ := (anyN_iff n).mp hp
  exact (anyN_iff n).mpr ⟨k, h1, h k h1 h2⟩
theorem sub_lt_s {m : Mat} {s k q to : Nat} (hb : qmay m s k (q + 1) = true) (hto : to ≤ s) : to - (q + 1) * qpl m k < s := by
  have h1 := may_le hb
  have h2 := sub_le (m := m) (s := s) (k := k) (q := q + 1) (by omega)
  have h3 := qpl_pos m k
  have h4 : 1 ≤ (q + 1) * qpl m k := Nat.mul_pos (by omega) h3
  omega
theorem tgB_mono {m : Mat} {s : Nat} {f g : Nat → Bool} (hfg : ∀ u : Nat, u < s → f u = true → g u = true) : ∀ (j i c to : Nat), to ≤ s → (0 < c → to < s) → tgB m s f j i c to = true → tgB m s g j i c to = true
  | 0, i, c, to, h1, h2, h => by
    unfold tgB at h ⊢
    rw [Bool.and_eq_true] at h ⊢
    exact ⟨h.1, hfg _ (h2 (of_decide_eq_true h.1)) h.2⟩
  | j + 1, i, c, to, h1, h2, h => by
    unfold tgB at h ⊢
    rw [Bool.or_eq_true] at h ⊢
    rcases h with h | h
    · exact Or.inl (tgB_mono hfg j (i + 1) c to h1 h2 h)
    · refine Or.inr (anyN_mono (fun k hk hp => ?_) h)
      rw [Bool.and_eq_true] at hp ⊢
      refine ⟨hp.1, anyN_mono (fun q hq hp2 => ?_) hp.2⟩
      rw [Bool.and_eq_true] at hp2 ⊢
      have := sub_lt_s hp2.1 h1
      exact ⟨hp2.1, tgB_mono hfg j (i + 1) (c + 1) _ (by omega) (fun _ => this) hp2.2⟩
theorem giv_mono {m : Mat} {s k : Nat} {f g : Nat → Bool} (hfg : ∀ u : Nat, u < s → f u = true → g u = true) (h : giv m s k f = true) : giv m s k g = true := by
  unfold giv at h ⊢
  refine anyN_mono (fun q hq hp => ?_) h
  rw [Bool.and_eq_true] at hp ⊢
  exact ⟨hp.1, hfg _ (sub_lt_s hp.1 (Nat.le_refl _)) hp.2⟩
theorem givs_mono {m : Mat} {s : Nat} {sel : Nat → Bool} {f g : Nat → Bool} (hfg : ∀ u : Nat, u < s → f u = true → g u = true) (h : givs m s sel f = true) : givs m s sel g = true := by
  unfold givs at h ⊢
  refine anyN_mono (fun q hq hp => ?_) h
  rw [Bool.and_eq_true] at hp ⊢
  exact ⟨hp.1, giv_mono hfg hp.2⟩
theorem next_tn {m : Mat} (h : wf m) (t : Nat) : qnext m t < qturns m := by
  have h1 := h.1
  unfold qnext qturns
  split
  · exact Nat.mod_lt _ (by omega)
  · omega
theorem onw_mono {m : Mat} (hw : wf m) {f g : Nat → Nat → Bool} {s t : Nat} (h1 : ∀ u v : Nat, u < s → v < qturns m → f u v = true → g u v = true) (h2 : qmode m = 0 → f s (qnext m t) = true → g s (qnext m t) = true) (h : onw m f s t = true) : onw m g s t = true := by
  have hn := next_tn hw t
  unfold onw at h ⊢
  by_cases c2 : qmode m = 2
  · rw [if_pos c2] at h ⊢
    have h0 : 0 < qturns m := by omega
    exact tgB_mono (fun u hu hf => h1 u 0 hu h0 hf) _ _ _ _ (Nat.le_refl _) (fun q => absurd q (by omega)) h
  · rw [if_neg c2] at h ⊢
    by_cases c0 : qmode m = 0
    · rw [if_pos c0] at h ⊢
      rw [Bool.or_eq_true] at h ⊢
      rcases h with h | h
      · exact Or.inl (h2 c0 h)
      · exact Or.inr (givs_mono (fun u hu hf => h1 u _ hu hn hf) h)
    · rw [if_neg c0] at h ⊢
      exact givs_mono (fun u hu hf => h1 u 0 hu (by omega) hf) h
theorem onw_congr {m : Mat} (hw : wf m) {f g : Nat → Nat → Bool} {s t : Nat} (h1 : ∀ u v : Nat, u < s → v < qturns m → f u v = g u v) (h2 : qmode m = 0 → f s (qnext m t) = g s (qnext m t)) : onw m f s t = onw m g s t := by
  apply Bool.eq_iff_iff.mpr
  constructor
  · exact onw_mono hw (fun u v hu hv h => h1 u v hu hv ▸ h) (fun c h => h2 c ▸ h)
  · exact onw_mono hw (fun u v hu hv h => (h1 u v hu hv).symm ▸ h) (fun c h => (h2 c).symm ▸ h)
theorem sf_40 {m : Mat} (hw : wf m) {b : Nat → Int} {n s t : Nat} (h : sf m b n s t = true) : n ≤ 40 := by
  cases n with
  | zero => omega
  | succ n =>
    unfold sf at h
    rw [Bool.and_eq_true, Bool.and_eq_true] at h
    exact ((qstay_iff hw).mp h.1.2).1
