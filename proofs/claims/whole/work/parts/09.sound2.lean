/-! THE PURE MACHINE IS SOUND, 2: a state of a walk, and the instructions that make no cell and call nothing -/
def pKK (D : va_G) (ca : Nat → ClassId) (n : Nat) (U : State) : Prop := (∀ (c : Nat) (q : vw_C), vwCl[c]? = some q → u_Kn U q.1 q.2.1 q.2.2 (D.1 c) (D.2 c)) ∧ ∀ (h : Nat) (ty : FieldType) (N : Nat), h < n → SHget h = some (.inl (ty, N)) → ArrOfT U (ca h) ty ∧ va_RA U (ca h) ty
theorem pKK.K {D : va_G} {ca : Nat → ClassId} {n : Nat} {U : State} (h : pKK D ca n U) {a N : Nat} {ty : FieldType} (ha : a < n) (hs : SHget a = some (.inl (ty, N))) : va_K D vwCl [(ca a, ty)] U := ⟨h.1, fun k q hk => by
  have hz : k < 1 := (List.getElem?_eq_some_iff.mp hk).1
  rw [show k = 0 by omega] at hk
  cases hk
  exact h.2 a ty N ha hs⟩
theorem pKK.K0 {D : va_G} {ca : Nat → ClassId} {n : Nat} {U : State} (h : pKK D ca n U) : va_K D vwCl [] U := ⟨h.1, fun k q hk => by simp at hk⟩
theorem pKK.moved {D : va_G} {ca : Nat → ClassId} {n : Nat} {u U : State} (hvm : u.vm.Alike U.vm) (h : pKK D ca n u) : pKK D ca n U := ⟨fun c q hq => u_Kn_moved hvm (h.1 c q hq), fun a ty N ha hs => ⟨arrOfT_moved hvm (h.2 a ty N ha hs).1, (h.2 a ty N ha hs).2.moved hvm⟩⟩
def pWf (w : pW) : Prop := ∀ h k r, w.2.2.2 h k = some r → r < w.1
def psn : Nat → Nat
  | 0 => 0
  | n + 1 => psn n + (match SHget n with
    | some (.inl (_, k)) => k
    | some (.inr c) => nfd c
    | none => 0)
theorem psn_mono : ∀ {a b : Nat}, a ≤ b → psn a ≤ psn b := by
  intro a b h
  induction b with
  | zero => rw [show a = 0 by omega]; exact Nat.le_refl _
  | succ b ih =>
    by_cases hb : a = b + 1
    · rw [hb]; exact Nat.le_refl _
    · exact Nat.le_trans (ih (by omega)) (Nat.le_add_right _ _)
def pIn (D : va_G) (ad : Nat → Nat) (ca : Nat → ClassId) (w : pW) (A : Nat → Prop) (H0 H : Heap) (locs : List Loc) (s : State) : Prop :=
  va_P D vwCl (pL ad ca w) H ∧ va_D A (pL ad ca w) ∧ va_S A H0 H locs ∧ pKK D ca w.1 s ∧ pWf w
def pSt (p : Program) (l : Launch) (e : Env) (R : Room) (s : State) (m : MethodId) (args : Array Value) (below : List Frame) (meth : Method) (c : Code) (Q : State → Prop) (nL n0 : Nat) (D : va_G) (A : Nat → Prop) (ex ad0 : Nat → Nat) (ca0 : Nat → ClassId) (f : pF) : Prop :=
  ∀ (H : Heap) (locs : List Loc) (ad : Nat → Nat) (ca : Nat → ClassId) (ls : Array Slot), pIn D ad ca f.2.2.2 A s.heap H locs s → lH (ptr ad ex) ls nL f.2.1 → f.2.1.length = nL → (∀ v ∈ f.2.2.1, pVok f.2.2.2.1 v) → pLok f.2.2.2.1 f.2.1 → n0 ≤ f.2.2.2.1 → (∀ h, h < n0 → ad h = ad0 h ∧ ca h = ca0 h) →
    W p l e R s m args below meth c H locs (f.2.2.2.1 - n0) (psn f.2.2.2.1 - psn n0) Q (F0 m f.1 ls (f.2.2.1.map (ptr ad ex)))
theorem ptr_rf (ad ex : Nat → Nat) (r : Option Nat) : ptr ad ex (va_rf r) = va_rf (r.map ad) := by cases r <;> rfl
theorem pWf.ok {w : pW} (h : pWf w) (a k : Nat) : pVok w.1 (va_rf (w.2.2.2 a k)) := by
  cases hr : w.2.2.2 a k with
  | none => exact trivial
  | some r => exact h a k r hr
theorem psh_spec {w : pW} {h : Nat} {x : pS} (hs : psh w h = some x) : h < w.1 ∧ SHget h = some x := by
  unfold psh at hs
  cases hb : Nat.blt h w.1 with
  | true => rw [hb] at hs; exact ⟨Nat.le_of_ble_eq_true hb, hs⟩
  | false => rw [hb] at hs; cases hs
/-- the classes: what the tables say of each -/
def WS : List Cond := lw_tbl.filter goodWord
theorem inWS {i : Nat} {w : Cond} (h : pwd i w = true) : w ∈ WS := by
  unfold pwd at h
  simp only [Bool.and_eq_true, decide_eq_true_eq] at h
  exact List.mem_filter.mpr ⟨List.mem_of_getElem? h.1, h.2⟩
section
variable {p : Program} {l : Launch} {e : Env} {R : Room} {s : State} {m : MethodId} {args : Array Value} {below : List Frame} {meth : Method} {c : Code} {Q : State → Prop} {nL n0 : Nat} {D : va_G} {A : Nat → Prop} {ex ad0 : Nat → Nat} {ca0 : Nat → ClassId}
/-- the heap stays -/
theorem pSt.go {pc pc' : Nat} {L L' : List (Option Value)} {st st' : List Value} {w : pW} (hok : pWf w → (∀ v ∈ st, pVok w.1 v) → pLok w.1 L → (∀ v ∈ st', pVok w.1 v) ∧ pLok w.1 L') (hlen : L'.length = L.length)
    (k : pSt p l e R s m args below meth c Q nL n0 D A ex ad0 ca0 (pc', L', st', w))
    (hk : ∀ (H : Heap) (locs : List Loc) (cells slots : Nat) (ad : Nat → Nat) (ca : Nat → ClassId) (ls : Array Slot), pIn D ad ca w A s.heap H locs s → lH (ptr ad ex) ls nL L → L.length = nL → (∀ ls' : Array Slot, lH (ptr ad ex) ls' nL L' → W p l e R s m args below meth c H locs cells slots Q (F0 m pc' ls' (st'.map (ptr ad ex)))) → W p l e R s m args below meth c H locs cells slots Q (F0 m pc ls (st.map (ptr ad ex)))) :
    pSt p l e R s m args below meth c Q nL n0 D A ex ad0 ca0 (pc, L, st, w) := by
  intro H locs ad ca ls hI hl hL hs hLk hn ha
  obtain ⟨h1, h2⟩ := hok hI.2.2.2.2 hs hLk
  exact hk H locs _ _ ad ca ls hI hl hL fun ls' hl' => k H locs ad ca ls' hI hl' (hlen.trans hL) h1 h2 hn ha
/-- one cell is written -/
theorem pSt.wr {pc pc' : Nat} {L : List (Option Value)} {st st' : List Value} {w w' : pW} (hw : w'.1 = w.1) (hst : ∀ v ∈ st', v ∈ st) (hwf : pWf w → (∀ v ∈ st, pVok w.1 v) → pWf w')
    (k : pSt p l e R s m args below meth c Q nL n0 D A ex ad0 ca0 (pc', L, st', w'))
    (hk : ∀ (H : Heap) (locs : List Loc) (cells slots : Nat) (ad : Nat → Nat) (ca : Nat → ClassId) (ls : Array Slot), pIn D ad ca w A s.heap H locs s → (∀ (H1 : Heap) (locs1 : List Loc), va_P D vwCl (pL ad ca w') H1 → va_D A (pL ad ca w') → va_S A s.heap H1 locs1 → W p l e R s m args below meth c H1 locs1 cells slots Q (F0 m pc' ls (st'.map (ptr ad ex)))) → W p l e R s m args below meth c H locs cells slots Q (F0 m pc ls (st.map (ptr ad ex)))) :
    pSt p l e R s m args below meth c Q nL n0 D A ex ad0 ca0 (pc, L, st, w) := by
  intro H locs ad ca ls hI hl hL hs hLk hn ha
  refine hk H locs _ _ ad ca ls hI fun H1 locs1 h1 h2 h3 => ?_
  have h := k H1 locs1 ad ca ls ⟨h1, h2, h3, by rw [hw]; exact hI.2.2.2.1, hwf hI.2.2.2.2 hs⟩ hl hL (fun v hv => by show pVok w'.1 v; rw [hw]; exact hs v (hst v hv)) (by show pLok w'.1 L; rw [hw]; exact hLk) (by show n0 ≤ w'.1; rw [hw]; exact hn) ha
  dsimp only at h ⊢
  rw [hw] at h
  exact h
variable {cc : ByteArray} {pc : Nat} {L : List (Option Value)} {st : List Value} {w : pW}
theorem pSt.push (hx : p.tables.exec = Jvm.exec) (hb : c.code = cc) {pc' : Nat} {v : Value} (hv : pVok w.1 v) (k : pSt p l e R s m args below meth c Q nL n0 D A ex ad0 ca0 (pc', L, v :: st, w))
    (hk : ∀ (H : Heap) (locs : List Loc) (cells slots : Nat) (ad : Nat → Nat) (ls : Array Slot), W p l e R s m args below meth c H locs cells slots Q (F0 m pc' ls (ptr ad ex v :: st.map (ptr ad ex))) → W p l e R s m args below meth c H locs cells slots Q (F0 m pc ls (st.map (ptr ad ex)))) :
    pSt p l e R s m args below meth c Q nL n0 D A ex ad0 ca0 (pc, L, st, w) :=
  pSt.go (fun _ h1 h2 => ⟨fun u hu => (List.mem_cons.mp hu).elim (fun q => q ▸ hv) (h1 u), h2⟩) rfl k (fun H locs cells slots ad ca ls _ hl _ kk => hk H locs cells slots ad ls (kk ls hl))
theorem pSt.load (hx : p.tables.exec = Jvm.exec) (hb : c.code = cc) {pc' kd i : Nat} {f' : pF} (h : plo kd pc' L i st w = some (.inl f')) (k : pSt p l e R s m args below meth c Q nL n0 D A ex ad0 ca0 f')
    (hk : ∀ (H : Heap) (locs : List Loc) (cells slots : Nat) (ad : Nat → Nat) (ls : Array Slot) (v : Value), pld kd (lg L i) = some v → ls[i]? = some (.val (ptr ad ex v)) → W p l e R s m args below meth c H locs cells slots Q (F0 m pc' ls (ptr ad ex v :: st.map (ptr ad ex))) → W p l e R s m args below meth c H locs cells slots Q (F0 m pc ls (st.map (ptr ad ex)))) :
    pSt p l e R s m args below meth c Q nL n0 D A ex ad0 ca0 (pc, L, st, w) := by
  unfold plo at h
  cases hq : pld kd (lg L i) with
  | none => rw [hq] at h; cases h
  | some u =>
    rw [hq] at h
    cases h
    have hlg : lg L i = some u := by
      unfold pld at hq
      split at hq <;> first | (cases hq; assumption) | cases hq
    exact pSt.go (fun _ h1 h2 => ⟨fun v hv => (List.mem_cons.mp hv).elim (fun q => q ▸ h2 i u hlg) (h1 v), h2⟩) rfl k (fun H locs cells slots ad ca ls _ hl _ kk => hk H locs cells slots ad ls u hq (hl.2.2 i u hlg) (kk ls hl))
theorem pld_0 {o : Option Value} {v : Value} (h : pld 0 o = some v) : ∃ x, v = .int x := by
  unfold pld at h
  split at h <;> first | exact ⟨_, (Option.some.inj h).symm⟩ | (cases h; done) | contradiction
theorem pld_1 {o : Option Value} {v : Value} (h : pld 1 o = some v) : ∃ x, v = .long x := by
  unfold pld at h
  split at h <;> first | exact ⟨_, (Option.some.inj h).symm⟩ | (cases h; done) | contradiction
theorem pld_2 {o : Option Value} {v : Value} (h : pld 2 o = some v) : (∃ x, v = .ref x) ∨ ∃ x, v = .retAddr x := by
  unfold pld at h
  split at h <;> first | exact Or.inl ⟨_, (Option.some.inj h).symm⟩ | exact Or.inr ⟨_, (Option.some.inj h).symm⟩ | (cases h; done) | contradiction
theorem pSt.iload_n (hx : p.tables.exec = Jvm.exec) (hb : c.code = cc) {i : Fin 4} {f' : pF} (hd : decode cc pc = .ok (.iload_n i, 1)) (h : plo 0 (pc + 1) L i.val st w = some (.inl f')) (k : pSt p l e R s m args below meth c Q nL n0 D A ex ad0 ca0 f') : pSt p l e R s m args below meth c Q nL n0 D A ex ad0 ca0 (pc, L, st, w) :=
  pSt.load hx hb h k (fun H locs cells slots ad ls v hv hl kk => by
    obtain ⟨x, rfl⟩ := pld_0 hv
    exact lv_iload_n hx hb hd rfl hl kk)
theorem pSt.iload (hx : p.tables.exec = Jvm.exec) (hb : c.code = cc) {i : Nat} {f' : pF} (hd : decode cc pc = .ok (.iload i, 2)) (h : plo 0 (pc + 2) L i st w = some (.inl f')) (k : pSt p l e R s m args below meth c Q nL n0 D A ex ad0 ca0 f') : pSt p l e R s m args below meth c Q nL n0 D A ex ad0 ca0 (pc, L, st, w) :=
  pSt.load hx hb h k (fun H locs cells slots ad ls v hv hl kk => by
    obtain ⟨x, rfl⟩ := pld_0 hv
    exact lv_iload hx hb hd hl kk)
theorem pSt.lload_n (hx : p.tables.exec = Jvm.exec) (hb : c.code = cc) {i : Fin 4} {f' : pF} (hd : decode cc pc = .ok (.lload_n i, 1)) (h : plo 1 (pc + 1) L i.val st w = some (.inl f')) (k : pSt p l e R s m args below meth c Q nL n0 D A ex ad0 ca0 f') : pSt p l e R s m args below meth c Q nL n0 D A ex ad0 ca0 (pc, L, st, w) :=
  pSt.load hx hb h k (fun H locs cells slots ad ls v hv hl kk => by
    obtain ⟨x, rfl⟩ := pld_1 hv
    exact lv_lload_n hx hb hd rfl hl kk)
theorem pSt.lload (hx : p.tables.exec = Jvm.exec) (hb : c.code = cc) {i : Nat} {f' : pF} (hd : decode cc pc = .ok (.lload i, 2)) (h : plo 1 (pc + 2) L i st w = some (.inl f')) (k : pSt p l e R s m args below meth c Q nL n0 D A ex ad0 ca0 f') : pSt p l e R s m args below meth c Q nL n0 D A ex ad0 ca0 (pc, L, st, w) :=
  pSt.load hx hb h k (fun H locs cells slots ad ls v hv hl kk => by
    obtain ⟨x, rfl⟩ := pld_1 hv
    exact lv_lload hx hb hd hl kk)
theorem pSt.aload_n (hx : p.tables.exec = Jvm.exec) (hb : c.code = cc) {i : Fin 4} {f' : pF} (hd : decode cc pc = .ok (.aload_n i, 1)) (h : plo 2 (pc + 1) L i.val st w = some (.inl f')) (k : pSt p l e R s m args below meth c Q nL n0 D A ex ad0 ca0 f') : pSt p l e R s m args below meth c Q nL n0 D A ex ad0 ca0 (pc, L, st, w) :=
  pSt.load hx hb h k (fun H locs cells slots ad ls v hv hl kk => by
    rcases pld_2 hv with ⟨x, rfl⟩ | ⟨x, rfl⟩
    · exact lv_aload_n hx hb hd rfl hl kk
    · exact lv_aload_n hx hb hd rfl hl kk)
theorem pSt.aload (hx : p.tables.exec = Jvm.exec) (hb : c.code = cc) {i : Nat} {f' : pF} (hd : decode cc pc = .ok (.aload i, 2)) (h : plo 2 (pc + 2) L i st w = some (.inl f')) (k : pSt p l e R s m args below meth c Q nL n0 D A ex ad0 ca0 f') : pSt p l e R s m args below meth c Q nL n0 D A ex ad0 ca0 (pc, L, st, w) :=
  pSt.load hx hb h k (fun H locs cells slots ad ls v hv hl kk => by
    rcases pld_2 hv with ⟨x, rfl⟩ | ⟨x, rfl⟩
    · exact lv_aload hx hb hd hl kk
    · exact lv_aload hx hb hd hl kk)
theorem psi_inv {pc' i : Nat} {f' : pF} (h : psi pc' L i st w = some (.inl f')) : ∃ x r, st = .int x :: r ∧ i < L.length ∧ f' = (pc', ls1 L i (.int x), r, w) := by
  unfold psi at h
  split at h
  · next x r =>
    cases hb : Nat.blt i L.length with
    | true => rw [hb] at h; cases h; exact ⟨x, r, rfl, Nat.le_of_ble_eq_true hb, rfl⟩
    | false => rw [hb] at h; cases h
  · cases h
theorem psl_inv {pc' i : Nat} {f' : pF} (h : psl pc' L i st w = some (.inl f')) : ∃ x r, st = .long x :: r ∧ i + 1 < L.length ∧ f' = (pc', ls2 L i (.long x), r, w) := by
  unfold psl at h
  split at h
  · next x r =>
    cases hb : Nat.blt (i + 1) L.length with
    | true => rw [hb] at h; cases h; exact ⟨x, r, rfl, Nat.le_of_ble_eq_true hb, rfl⟩
    | false => rw [hb] at h; cases h
  · cases h
theorem psa_inv {pc' i : Nat} {f' : pF} (h : psa pc' L i st w = some (.inl f')) : ∃ v r, st = v :: r ∧ i < L.length ∧ f' = (pc', ls1 L i v, r, w) ∧ ((∃ x, v = .ref x) ∨ ∃ x, v = .retAddr x) := by
  unfold psa at h
  split at h
  · next x r =>
    cases hb : Nat.blt i L.length with
    | true => rw [hb] at h; cases h; exact ⟨_, r, rfl, Nat.le_of_ble_eq_true hb, rfl, Or.inl ⟨x, rfl⟩⟩
    | false => rw [hb] at h; cases h
  · next x r =>
    cases hb : Nat.blt i L.length with
    | true => rw [hb] at h; cases h; exact ⟨_, r, rfl, Nat.le_of_ble_eq_true hb, rfl, Or.inr ⟨x, rfl⟩⟩
    | false => rw [hb] at h; cases h
  · cases h
theorem pSt.store {pc' i : Nat} {v : Value} {r : List Value} (hi : i < L.length) (k : pSt p l e R s m args below meth c Q nL n0 D A ex ad0 ca0 (pc', ls1 L i v, r, w))
    (hk : ∀ (H : Heap) (locs : List Loc) (cells slots : Nat) (ad : Nat → Nat) (ls : Array Slot), lv_has ls nL (lvl (ptr ad ex) 0 L) → i < nL → (∀ ls' : Array Slot, lv_has ls' nL ((i, ptr ad ex v) :: (lvl (ptr ad ex) 0 L).filter (fun q => !(q.1 == i) && !(q.1 + 1 == i && q.2.category == 2))) → W p l e R s m args below meth c H locs cells slots Q (F0 m pc' ls' (r.map (ptr ad ex)))) → W p l e R s m args below meth c H locs cells slots Q (F0 m pc ls (ptr ad ex v :: r.map (ptr ad ex)))) :
    pSt p l e R s m args below meth c Q nL n0 D A ex ad0 ca0 (pc, L, v :: r, w) :=
  pSt.go (fun _ h1 h2 => ⟨fun u hu => h1 u (List.mem_cons_of_mem _ hu), h2.s1 hi (h1 v List.mem_cons_self)⟩) (len_ls1 L i v) k (fun H locs cells slots ad ca ls _ hl hL kk => hk H locs cells slots ad ls hl.has (by omega) (fun ls' hl' => kk ls' (lH.s1 (ptr_cat ad ex) hL (by omega) rfl hl')))
theorem pSt.istore_n (hx : p.tables.exec = Jvm.exec) (hb : c.code = cc) {i : Fin 4} {f' : pF} (hd : decode cc pc = .ok (.istore_n i, 1)) (h : psi (pc + 1) L i.val st w = some (.inl f')) (k : pSt p l e R s m args below meth c Q nL n0 D A ex ad0 ca0 f') : pSt p l e R s m args below meth c Q nL n0 D A ex ad0 ca0 (pc, L, st, w) := by
  obtain ⟨x, r, rfl, hi, rfl⟩ := psi_inv h
  exact pSt.store hi k (fun H locs cells slots ad ls hl hi kk => lv_istore_n hx hb hd rfl hl hi rfl kk)
theorem pSt.istore (hx : p.tables.exec = Jvm.exec) (hb : c.code = cc) {i : Nat} {f' : pF} (hd : decode cc pc = .ok (.istore i, 2)) (h : psi (pc + 2) L i st w = some (.inl f')) (k : pSt p l e R s m args below meth c Q nL n0 D A ex ad0 ca0 f') : pSt p l e R s m args below meth c Q nL n0 D A ex ad0 ca0 (pc, L, st, w) := by
  obtain ⟨x, r, rfl, hi, rfl⟩ := psi_inv h
  exact pSt.store hi k (fun H locs cells slots ad ls hl hi kk => lv_istore hx hb hd hl hi rfl kk)
theorem pSt.astore_n (hx : p.tables.exec = Jvm.exec) (hb : c.code = cc) {i : Fin 4} {f' : pF} (hd : decode cc pc = .ok (.astore_n i, 1)) (h : psa (pc + 1) L i.val st w = some (.inl f')) (k : pSt p l e R s m args below meth c Q nL n0 D A ex ad0 ca0 f') : pSt p l e R s m args below meth c Q nL n0 D A ex ad0 ca0 (pc, L, st, w) := by
  obtain ⟨v, r, rfl, hi, rfl, hv⟩ := psa_inv h
  rcases hv with ⟨x, rfl⟩ | ⟨x, rfl⟩
  · exact pSt.store hi k (fun H locs cells slots ad ls hl hi kk => lv_astore_n hx hb hd rfl hl hi rfl kk)
  · exact pSt.store hi k (fun H locs cells slots ad ls hl hi kk => lv_astore_n hx hb hd rfl hl hi rfl kk)
theorem pSt.astore (hx : p.tables.exec = Jvm.exec) (hb : c.code = cc) {i : Nat} {f' : pF} (hd : decode cc pc = .ok (.astore i, 2)) (h : psa (pc + 2) L i st w = some (.inl f')) (k : pSt p l e R s m args below meth c Q nL n0 D A ex ad0 ca0 f') : pSt p l e R s m args below meth c Q nL n0 D A ex ad0 ca0 (pc, L, st, w) := by
  obtain ⟨v, r, rfl, hi, rfl, hv⟩ := psa_inv h
  rcases hv with ⟨x, rfl⟩ | ⟨x, rfl⟩
  · exact pSt.store hi k (fun H locs cells slots ad ls hl hi kk => lv_astore hx hb hd hl hi rfl kk)
  · exact pSt.store hi k (fun H locs cells slots ad ls hl hi kk => lv_astore hx hb hd hl hi rfl kk)
theorem pSt.store2 {pc' i : Nat} {x : Int64} {r : List Value} (hi : i + 1 < L.length) (k : pSt p l e R s m args below meth c Q nL n0 D A ex ad0 ca0 (pc', ls2 L i (.long x), r, w))
    (hk : ∀ (H : Heap) (locs : List Loc) (cells slots : Nat) (ad : Nat → Nat) (ls : Array Slot), lv_has ls nL (lvl (ptr ad ex) 0 L) → i + 1 < nL → (∀ ls' : Array Slot, lv_has ls' nL ((i, .long x) :: (lvl (ptr ad ex) 0 L).filter (fun q => !(q.1 == i) && (!(q.1 == i + 1) && !(q.1 + 1 == i && q.2.category == 2)))) → W p l e R s m args below meth c H locs cells slots Q (F0 m pc' ls' (r.map (ptr ad ex)))) → W p l e R s m args below meth c H locs cells slots Q (F0 m pc ls (.long x :: r.map (ptr ad ex)))) :
    pSt p l e R s m args below meth c Q nL n0 D A ex ad0 ca0 (pc, L, .long x :: r, w) :=
  pSt.go (fun _ h1 h2 => ⟨fun u hu => h1 u (List.mem_cons_of_mem _ hu), h2.s2 (v := .long x) hi trivial⟩) (len_ls2 L i _) k (fun H locs cells slots ad ca ls _ hl hL kk => hk H locs cells slots ad ls hl.has (by omega) (fun ls' hl' => kk ls' (lH.s2 (ptr_cat ad ex) hL (by omega) rfl hl')))
theorem pSt.lstore_n (hx : p.tables.exec = Jvm.exec) (hb : c.code = cc) {i : Fin 4} {f' : pF} (hd : decode cc pc = .ok (.lstore_n i, 1)) (h : psl (pc + 1) L i.val st w = some (.inl f')) (k : pSt p l e R s m args below meth c Q nL n0 D A ex ad0 ca0 f') : pSt p l e R s m args below meth c Q nL n0 D A ex ad0 ca0 (pc, L, st, w) := by
  obtain ⟨x, r, rfl, hi, rfl⟩ := psl_inv h
  exact pSt.store2 hi k (fun H locs cells slots ad ls hl hi kk => lv_lstore_n hx hb hd rfl hl hi rfl kk)
theorem pSt.lstore (hx : p.tables.exec = Jvm.exec) (hb : c.code = cc) {i : Nat} {f' : pF} (hd : decode cc pc = .ok (.lstore i, 2)) (h : psl (pc + 2) L i st w = some (.inl f')) (k : pSt p l e R s m args below meth c Q nL n0 D A ex ad0 ca0 f') : pSt p l e R s m args below meth c Q nL n0 D A ex ad0 ca0 (pc, L, st, w) := by
  obtain ⟨x, r, rfl, hi, rfl⟩ := psl_inv h
  exact pSt.store2 hi k (fun H locs cells slots ad ls hl hi kk => lv_lstore hx hb hd hl hi rfl kk)
theorem pSt.iinc (hx : p.tables.exec = Jvm.exec) (hb : c.code = cc) {i : Nat} {n : Int} {x v : Int32} (hd : decode cc pc = .ok (.iinc i n, 3)) (hlg : lg L i = some (.int x)) (hv : v = x + Int32.ofInt n) (k : pSt p l e R s m args below meth c Q nL n0 D A ex ad0 ca0 (pc + 3, ls1 L i (.int v), st, w)) : pSt p l e R s m args below meth c Q nL n0 D A ex ad0 ca0 (pc, L, st, w) := by
  have hi := lg_lt L i _ hlg
  refine pSt.go (fun _ h1 h2 => ⟨h1, h2.s1 (v := .int v) hi trivial⟩) (len_ls1 L i _) k (fun H locs cells slots ad ca ls _ hl hL kk => ?_)
  have hm := lvl_mem (ptr ad ex) L 0 i _ hlg
  rw [Nat.zero_add] at hm
  obtain ⟨j, hj⟩ := List.getElem?_of_mem hm
  exact lv_iinc hx hb hd hl.has hj hv.symm (by omega) rfl (fun ls' hl' => kk ls' (lH.s1 (ptr_cat ad ex) hL (by omega) rfl hl'))
/-- what a stack turns to by values alone -/
theorem pSt.alu {pc' : Nat} {vs r : List Value} {v : Value} (hv : ∀ n, pVok n v) (k : pSt p l e R s m args below meth c Q nL n0 D A ex ad0 ca0 (pc', L, v :: r, w))
    (hk : ∀ (H : Heap) (locs : List Loc) (cells slots : Nat) (ad : Nat → Nat) (ls : Array Slot), W p l e R s m args below meth c H locs cells slots Q (F0 m pc' ls (ptr ad ex v :: r.map (ptr ad ex))) → W p l e R s m args below meth c H locs cells slots Q (F0 m pc ls ((vs ++ r).map (ptr ad ex)))) :
    pSt p l e R s m args below meth c Q nL n0 D A ex ad0 ca0 (pc, L, vs ++ r, w) :=
  pSt.go (fun _ h1 h2 => ⟨fun u hu => (List.mem_cons.mp hu).elim (fun q => q ▸ hv _) (fun q => h1 u (List.mem_append_right _ q)), h2⟩) rfl k (fun H locs cells slots ad ca ls _ hl _ kk => hk H locs cells slots ad ls (kk ls hl))
theorem pSt.jmp {pc1 : Nat} {vs r : List Value} (k : pSt p l e R s m args below meth c Q nL n0 D A ex ad0 ca0 (pc1, L, r, w))
    (hk : ∀ (H : Heap) (locs : List Loc) (cells slots : Nat) (ad : Nat → Nat) (ls : Array Slot), W p l e R s m args below meth c H locs cells slots Q (F0 m pc1 ls (r.map (ptr ad ex))) → W p l e R s m args below meth c H locs cells slots Q (F0 m pc ls ((vs ++ r).map (ptr ad ex)))) :
    pSt p l e R s m args below meth c Q nL n0 D A ex ad0 ca0 (pc, L, vs ++ r, w) :=
  pSt.go (fun _ h1 h2 => ⟨fun u hu => h1 u (List.mem_append_right _ hu), h2⟩) rfl k (fun H locs cells slots ad ca ls _ hl _ kk => hk H locs cells slots ad ls (kk ls hl))
end
