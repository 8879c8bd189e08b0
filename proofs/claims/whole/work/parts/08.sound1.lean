/-! THE PURE MACHINE IS SOUND, 1: values, locals, the world as cells -/
def ptr (ad ex : Nat → Nat) : Value → Value
  | .ref h => .ref (ad h)
  | .retAddr k => .ref (ex k)
  | v => v
theorem ptr_cat (ad ex : Nat → Nat) (v : Value) : (ptr ad ex v).category = v.category := by cases v <;> rfl
theorem pcat_iff (v : Value) : pcat (some v) = true ↔ v.category = 2 := by cases v <;> simp [pcat, Value.category]
def pVok (n : Nat) (v : Value) : Prop := match v with
  | .ref h => h < n
  | _ => True
theorem pVok.mono {n m : Nat} {v : Value} (h : pVok n v) (hm : n ≤ m) : pVok m v := by
  cases v <;> first | exact trivial | exact Nat.lt_of_lt_of_le h hm
theorem ptr_eq {ad ad' ex : Nat → Nat} {n : Nat} {v : Value} (h : ∀ k, k < n → ad' k = ad k) (hv : pVok n v) : ptr ad' ex v = ptr ad ex v := by
  cases v <;> first | rfl | (simp only [ptr]; rw [h _ hv])
theorem ptr_map {ad ad' ex : Nat → Nat} {n : Nat} {st : List Value} (h : ∀ k, k < n → ad' k = ad k) (hv : ∀ v ∈ st, pVok n v) : st.map (ptr ad' ex) = st.map (ptr ad ex) := List.map_congr_left fun v hm => ptr_eq h (hv v hm)
-- the locals
theorem lg_lst : ∀ (L : List (Option Value)) (i k : Nat) (x : Option Value), i < L.length → lg (lst L i x) k = if k = i then x else lg L k
  | [], i, k, x, h => by simp at h
  | y :: r, 0, 0, x, h => by simp [lst, lg]
  | y :: r, 0, k + 1, x, h => by simp [lst, lg]
  | y :: r, i + 1, 0, x, h => by simp [lst, lg]
  | y :: r, i + 1, k + 1, x, h => by
    simp only [lst, lg]
    rw [lg_lst r i k x (by simpa using h)]
    simp
theorem len_lst : ∀ (L : List (Option Value)) (i : Nat) (x : Option Value), (lst L i x).length = L.length
  | [], i, x => rfl
  | y :: r, 0, x => rfl
  | y :: r, i + 1, x => by simp [lst, len_lst r i x]
theorem len_lclr (L : List (Option Value)) (i : Nat) : (lclr L i).length = L.length := by
  cases i with
  | zero => rfl
  | succ j =>
    simp only [lclr]
    cases pcat (lg L j) <;> simp [len_lst]
theorem lg_lt : ∀ (L : List (Option Value)) (k : Nat) (v : Value), lg L k = some v → k < L.length
  | [], k, v, h => by simp [lg] at h
  | x :: r, 0, v, h => by simp
  | x :: r, k + 1, v, h => by
    have := lg_lt r k v h
    simp
    omega
theorem lg_lclr {L : List (Option Value)} {i k : Nat} {v : Value} (h : lg (lclr L i) k = some v) : lg L k = some v ∧ ¬ (k + 1 = i ∧ v.category = 2) := by
  cases i with
  | zero => exact ⟨h, fun q => by omega⟩
  | succ j =>
    simp only [lclr] at h
    by_cases hc : pcat (lg L j) = true
    · rw [hc] at h
      simp only [cond_true] at h
      have hj : j < L.length := by
        cases hq : lg L j with
        | none => rw [hq] at hc; cases hc
        | some u => exact lg_lt L j u hq
      rw [lg_lst L j k none hj] at h
      by_cases hk : k = j
      · rw [if_pos hk] at h; cases h
      · rw [if_neg hk] at h
        exact ⟨h, fun q => by omega⟩
    · simp only [Bool.not_eq_true] at hc
      rw [hc] at h
      simp only [cond_false] at h
      refine ⟨h, fun q => ?_⟩
      have : k = j := by omega
      subst this
      rw [h] at hc
      have := (pcat_iff v).mpr q.2
      rw [hc] at this
      cases this
def lvl (g : Value → Value) : Nat → List (Option Value) → List (Nat × Value)
  | _, [] => []
  | k, none :: r => lvl g (k + 1) r
  | k, some v :: r => (k, g v) :: lvl g (k + 1) r
theorem lvl_mem (g : Value → Value) : ∀ (L : List (Option Value)) (k i : Nat) (v : Value), lg L i = some v → (k + i, g v) ∈ lvl g k L
  | [], k, i, v, h => by simp [lg] at h
  | none :: r, k, 0, v, h => by simp [lg] at h
  | some x :: r, k, 0, v, h => by
    simp only [lg, Option.some.injEq] at h
    subst h
    exact List.mem_cons_self
  | none :: r, k, i + 1, v, h => by
    have := lvl_mem g r (k + 1) i v h
    rw [show k + (i + 1) = k + 1 + i by omega]
    exact this
  | some x :: r, k, i + 1, v, h => by
    have := lvl_mem g r (k + 1) i v h
    rw [show k + (i + 1) = k + 1 + i by omega]
    exact List.mem_cons_of_mem _ this
theorem lvl_of (g : Value → Value) : ∀ (L : List (Option Value)) (k : Nat) (q : Nat × Value), q ∈ lvl g k L → ∃ (i : Nat) (v : Value), q = (k + i, g v) ∧ lg L i = some v
  | [], k, q, h => by simp [lvl] at h
  | none :: r, k, q, h => by
    obtain ⟨i, v, h1, h2⟩ := lvl_of g r (k + 1) q h
    exact ⟨i + 1, v, by rw [h1, show k + (i + 1) = k + 1 + i by omega], h2⟩
  | some x :: r, k, q, h => by
    simp only [lvl, List.mem_cons] at h
    rcases h with rfl | h
    · exact ⟨0, x, rfl, rfl⟩
    · obtain ⟨i, v, h1, h2⟩ := lvl_of g r (k + 1) q h
      exact ⟨i + 1, v, by rw [h1, show k + (i + 1) = k + 1 + i by omega], h2⟩
def lH (g : Value → Value) (ls : Array Slot) (nL : Nat) (L : List (Option Value)) : Prop := ls.size = nL ∧ lv_wf ls ∧ ∀ (i : Nat) (v : Value), lg L i = some v → ls[i]? = some (.val (g v))
theorem lH.has {g : Value → Value} {ls : Array Slot} {nL : Nat} {L : List (Option Value)} (h : lH g ls nL L) : lv_has ls nL (lvl g 0 L) := by
  refine ⟨h.1, h.2.1, fun q hq => ?_⟩
  obtain ⟨i, v, rfl, h2⟩ := lvl_of g L 0 q hq
  rw [Nat.zero_add]
  exact h.2.2 i v h2
theorem lH.s1 {g : Value → Value} (hg : ∀ v, (g v).category = v.category) {ls : Array Slot} {nL i : Nat} {v u : Value} {L : List (Option Value)} (hL : L.length = nL) (hi : i < nL) (hu : u = g v) (h : lv_has ls nL ((i, u) :: (lvl g 0 L).filter (fun q => !(q.1 == i) && !(q.1 + 1 == i && q.2.category == 2)))) : lH g ls nL (ls1 L i v) := by
  refine ⟨h.1, h.2.1, fun k x hx => ?_⟩
  unfold ls1 at hx
  rw [lg_lst _ _ _ _ (by rw [len_lclr]; omega)] at hx
  by_cases hk : k = i
  · rw [if_pos hk] at hx
    cases hx
    rw [hk, ← hu]
    exact h.2.2 (i, u) List.mem_cons_self
  · rw [if_neg hk] at hx
    obtain ⟨h1, h2⟩ := lg_lclr hx
    refine h.2.2 (k, g x) (List.mem_cons_of_mem _ (List.mem_filter.mpr ⟨by have := lvl_mem g L 0 k x h1; rwa [Nat.zero_add] at this, ?_⟩))
    simp only [Bool.and_eq_true, Bool.not_eq_true', beq_eq_false_iff_ne, ne_eq, Bool.and_eq_false_iff, hg]
    refine ⟨hk, ?_⟩
    by_cases h3 : k + 1 = i
    · exact Or.inr fun q => h2 ⟨h3, q⟩
    · exact Or.inl h3
theorem lH.s2 {g : Value → Value} (hg : ∀ v, (g v).category = v.category) {ls : Array Slot} {nL i : Nat} {v u : Value} {L : List (Option Value)} (hL : L.length = nL) (hi : i + 1 < nL) (hu : u = g v) (h : lv_has ls nL ((i, u) :: (lvl g 0 L).filter (fun q => !(q.1 == i) && (!(q.1 == i + 1) && !(q.1 + 1 == i && q.2.category == 2))))) : lH g ls nL (ls2 L i v) := by
  refine ⟨h.1, h.2.1, fun k x hx => ?_⟩
  unfold ls2 at hx
  rw [lg_lst _ _ _ _ (by rw [len_lst, len_lclr]; omega)] at hx
  by_cases hk1 : k = i + 1
  · rw [if_pos hk1] at hx; cases hx
  rw [if_neg hk1, lg_lst _ _ _ _ (by rw [len_lclr]; omega)] at hx
  by_cases hk : k = i
  · rw [if_pos hk] at hx
    cases hx
    rw [hk, ← hu]
    exact h.2.2 (i, u) List.mem_cons_self
  · rw [if_neg hk] at hx
    obtain ⟨h1, h2⟩ := lg_lclr hx
    refine h.2.2 (k, g x) (List.mem_cons_of_mem _ (List.mem_filter.mpr ⟨by have := lvl_mem g L 0 k x h1; rwa [Nat.zero_add] at this, ?_⟩))
    simp only [Bool.and_eq_true, Bool.not_eq_true', beq_eq_false_iff_ne, ne_eq, Bool.and_eq_false_iff, hg]
    refine ⟨hk, hk1, ?_⟩
    by_cases h3 : k + 1 = i
    · exact Or.inr fun q => h2 ⟨h3, q⟩
    · exact Or.inl h3
/-- all that the locals list is within the world -/
def pLok (n : Nat) (L : List (Option Value)) : Prop := ∀ (k : Nat) (v : Value), lg L k = some v → pVok n v
theorem pLok.s1 {n i : Nat} {v : Value} {L : List (Option Value)} (h : pLok n L) (hi : i < L.length) (hv : pVok n v) : pLok n (ls1 L i v) := fun k x hx => by
  unfold ls1 at hx
  rw [lg_lst _ _ _ _ (by rw [len_lclr]; omega)] at hx
  by_cases hk : k = i
  · rw [if_pos hk] at hx
    cases hx
    exact hv
  · rw [if_neg hk] at hx
    exact h k x (lg_lclr hx).1
theorem pLok.s2 {n i : Nat} {v : Value} {L : List (Option Value)} (h : pLok n L) (hi : i + 1 < L.length) (hv : pVok n v) : pLok n (ls2 L i v) := fun k x hx => by
  unfold ls2 at hx
  rw [lg_lst _ _ _ _ (by rw [len_lst, len_lclr]; omega)] at hx
  by_cases hk1 : k = i + 1
  · rw [if_pos hk1] at hx; cases hx
  rw [if_neg hk1, lg_lst _ _ _ _ (by rw [len_lclr]; omega)] at hx
  by_cases hk : k = i
  · rw [if_pos hk] at hx
    cases hx
    exact hv
  · rw [if_neg hk] at hx
    exact h k x (lg_lclr hx).1
theorem len_ls1 (L : List (Option Value)) (i : Nat) (v : Value) : (ls1 L i v).length = L.length := by unfold ls1; rw [len_lst, len_lclr]
theorem len_ls2 (L : List (Option Value)) (i : Nat) (v : Value) : (ls2 L i v).length = L.length := by unfold ls2; rw [len_lst, len_lst, len_lclr]
theorem lH.re {g g' : Value → Value} {ls : Array Slot} {nL : Nat} {L : List (Option Value)} (h : lH g ls nL L) (hg : ∀ (k : Nat) (v : Value), lg L k = some v → g' v = g v) : lH g' ls nL L := ⟨h.1, h.2.1, fun i v hv => by rw [hg i v hv]; exact h.2.2 i v hv⟩
-- the world as cells
def pfv (ad : Nat → Nat) (w : pW) (h : Nat) (ty : FieldType) (k : Nat) : Value := match pk ty with
  | 0 => .int (w.2.1 h k)
  | 1 => .long (w.2.2.1 h k)
  | _ => va_rf ((w.2.2.2 h k).map ad)
def pac (ad : Nat → Nat) (w : pW) (h : Nat) (ty : FieldType) : (Nat → Int32) ⊕ (Nat → Int64) ⊕ (Nat → UInt32) ⊕ (Nat → UInt64) ⊕ (Nat → Option Nat) := match pk ty with
  | 0 => .inl (w.2.1 h)
  | 1 => .inr (.inl (w.2.2.1 h))
  | _ => .inr (.inr (.inr (.inr (fun i => (w.2.2.2 h i).map ad))))
def pE (ad : Nat → Nat) (ca : Nat → ClassId) (w : pW) (h : Nat) : va_E := match SHget h with
  | some (.inl (ty, n)) => .inl (ca h, n, pac ad w h ty)
  | some (.inr c) => .inr (c, (List.range (nfd c)).map (fun k => pfv ad w h (fty c k) k))
  | none => .inr (1000, [])
def pL (ad : Nat → Nat) (ca : Nat → ClassId) (w : pW) : va_W := (List.range w.1).map (fun h => (ad h, pE ad ca w h))
theorem pL_get {ad : Nat → Nat} {ca : Nat → ClassId} {w : pW} {h : Nat} (hh : h < w.1) : (pL ad ca w)[h]? = some (ad h, pE ad ca w h) := by
  unfold pL
  rw [List.getElem?_map, List.getElem?_range hh]
  rfl
theorem pL_len (ad : Nat → Nat) (ca : Nat → ClassId) (w : pW) : (pL ad ca w).length = w.1 := by simp [pL]
theorem pL_lt {ad : Nat → Nat} {ca : Nat → ClassId} {w : pW} {h : Nat} {q : Nat × va_E} (hh : (pL ad ca w)[h]? = some q) : h < w.1 := by
  have := (List.getElem?_eq_some_iff.mp hh).1
  rwa [pL_len] at this
/-- one cell changed: the list with that place set -/
theorem pL_set {ad : Nat → Nat} {ca : Nat → ClassId} {w w' : pW} {h : Nat} {x : va_E} (hn : w'.1 = w.1) (hx : pE ad ca w' h = x) (ho : ∀ a, a ≠ h → pE ad ca w' a = pE ad ca w a) : (pL ad ca w).set h (ad h, x) = pL ad ca w' := by
  apply List.ext_getElem?
  intro i
  by_cases hi : i < w.1
  · rw [pL_get (w := w') (by omega), List.getElem?_set]
    by_cases hh : h = i
    · subst hh
      rw [if_pos rfl, if_pos (by rw [pL_len]; exact hi), hx]
    · rw [if_neg hh, pL_get hi, ho i (Ne.symm hh)]
  · rw [List.getElem?_eq_none (by rw [List.length_set, pL_len]; omega), List.getElem?_eq_none (by rw [pL_len]; omega)]
theorem pE_congr {ad : Nat → Nat} {ca : Nat → ClassId} {w w' : pW} {a : Nat} (h1 : w'.2.1 a = w.2.1 a) (h2 : w'.2.2.1 a = w.2.2.1 a) (h3 : w'.2.2.2 a = w.2.2.2 a) : pE ad ca w' a = pE ad ca w a := by
  unfold pE pac pfv
  rw [h1, h2, h3]
theorem u2_ne {α : Type} {g : Nat → Nat → α} {h k a : Nat} {v : α} (ha : a ≠ h) : u2 g h k v a = g a := by
  funext b
  simp [u2, ha]
theorem u2_eqI {g : Nat → Nat → Int32} {h k : Nat} {v : Int32} : u2 g h k v h = upd (g h) k v := by
  funext b
  simp [u2, upd]
theorem u2_eqL {g : Nat → Nat → Int64} {h k : Nat} {v : Int64} : u2 g h k v h = vp_updL (g h) k v := by
  funext b
  simp [u2, vp_updL]
