/-! THE PURE MACHINE IS SOUND, 5: new cells -/
theorem pE_old {ad ad' : Nat → Nat} {ca ca' : Nat → ClassId} {w w' : pW} {h : Nat} (hwf : pWf w) (had : ∀ k, k < w.1 → ad' k = ad k) (hca : ca' h = ca h) (h1 : w'.2.1 h = w.2.1 h) (h2 : w'.2.2.1 h = w.2.2.1 h) (h3 : w'.2.2.2 h = w.2.2.2 h) : pE ad' ca' w' h = pE ad ca w h := by
  have hm : ∀ i, (w.2.2.2 h i).map ad' = (w.2.2.2 h i).map ad := fun i => by
    cases hr : w.2.2.2 h i with
    | none => rfl
    | some q => exact congrArg some (had q (hwf h i q hr))
  unfold pE pac pfv
  rw [h1, h2, h3, hca]
  simp only [hm]
theorem pL_app {ad ad' : Nat → Nat} {ca ca' : Nat → ClassId} {w w' : pW} {k : Nat} (hn : w'.1 = w.1 + k) (ho : ∀ h, h < w.1 → ad' h = ad h ∧ pE ad' ca' w' h = pE ad ca w h) : pL ad' ca' w' = pL ad ca w ++ (List.range k).map (fun i => (ad' (w.1 + i), pE ad' ca' w' (w.1 + i))) := by
  apply List.ext_getElem?
  intro i
  by_cases hi : i < w.1
  · rw [List.getElem?_append_left (by rw [pL_len]; exact hi), pL_get hi, pL_get (by omega), (ho i hi).1, (ho i hi).2]
  · by_cases hk : i < w.1 + k
    · rw [List.getElem?_append_right (by rw [pL_len]; omega), pL_get (by omega), pL_len, List.getElem?_map, List.getElem?_range (by omega)]
      simp only [Option.map_some]
      rw [show w.1 + (i - w.1) = i by omega]
    · rw [List.getElem?_eq_none (by rw [pL_len]; omega), List.getElem?_eq_none (by simp [pL_len]; omega)]
section
variable {p : Program} {l : Launch} {e : Env} {R : Room} {s : State} {m : MethodId} {args : Array Value} {below : List Frame} {meth : Method} {c : Code} {Q : State → Prop} {nL n0 : Nat} {D : va_G} {A : Nat → Prop} {ex ad0 : Nat → Nat} {ca0 : Nat → ClassId}
variable {cc : ByteArray} {pc : Nat} {L : List (Option Value)} {st r : List Value} {w : pW} {own : String}
/-- cells are made: what goes on -/
theorem pSt.grow {pc' k : Nat} {w' : pW} (hk : pSt p l e R s m args below meth c Q nL n0 D A ex ad0 ca0 (pc', L, .ref w.1 :: r, w')) (hn : w'.1 = w.1 + k) (hpos : 0 < k) {H1 : Heap} {locs : List Loc} {ad ad' : Nat → Nat} {ca ca' : Nat → ClassId} {ls : Array Slot}
    (had : ∀ h, h < w.1 → ad' h = ad h ∧ ca' h = ca h) (hI : pIn D ad' ca' w' A s.heap H1 locs s) (hl : lH (ptr ad ex) ls nL L) (hL : L.length = nL) (hs : ∀ v ∈ r, pVok w.1 v) (hLk : pLok w.1 L) (hn0 : n0 ≤ w.1) (ha0 : ∀ h, h < n0 → ad h = ad0 h ∧ ca h = ca0 h) :
    W p l e R s m args below meth c H1 locs (w'.1 - n0) (psn w'.1 - psn n0) Q (F0 m pc' ls (.ref (ad' w.1) :: r.map (ptr ad ex))) := by
  have hle : w.1 ≤ w'.1 := by omega
  have h := hk H1 locs ad' ca' ls hI (hl.re (fun k v hv => ptr_eq (fun q hq => (had q hq).1) (hLk k v hv))) hL (fun v hv => (List.mem_cons.mp hv).elim (fun q => by rw [q]; show w.1 < w'.1; omega) (fun q => (hs v q).mono hle)) (fun k v hv => (hLk k v hv).mono hle) (Nat.le_trans hn0 hle) (fun q hq => by
    obtain ⟨a1, a2⟩ := had q (by omega)
    obtain ⟨b1, b2⟩ := ha0 q hq
    exact ⟨a1.trans b1, a2.trans b2⟩)
  dsimp only at h
  rw [List.map_cons, ptr_map (fun q hq => (had q hq).1) hs] at h
  exact h
theorem pSt.new1 {pc' N : Nat} {x : pS} (hsh : SHget w.1 = some x) (hN : psn (w.1 + 1) = psn w.1 + N) (hR1 : w.1 + 1 - n0 ≤ R.cells) (hR2 : psn (w.1 + 1) - psn n0 ≤ R.slots) {vs : List Value}
    (k : pSt p l e R s m args below meth c Q nL n0 D A ex ad0 ca0 (pc', L, .ref w.1 :: r, pnw w))
    (hk : ∀ (H : Heap) (locs : List Loc) (cells slots : Nat) (ad : Nat → Nat) (ca : Nat → ClassId) (ls : Array Slot), pIn D ad ca w A s.heap H locs s → cells + 1 ≤ R.cells → slots + N ≤ R.slots →
      (∀ (q : Nat) (cA : ClassId) (H1 : Heap), va_P D vwCl (pL ad ca w ++ [(q, pE (fun j => if j = w.1 then q else ad j) (fun j => if j = w.1 then cA else ca j) (pnw w) w.1)]) H1 → va_D A (pL ad ca w ++ [(q, pE (fun j => if j = w.1 then q else ad j) (fun j => if j = w.1 then cA else ca j) (pnw w) w.1)]) → va_S A s.heap H1 locs → (∀ ty n, x = .inl (ty, n) → ArrOfT s cA ty ∧ va_RA s cA ty) → W p l e R s m args below meth c H1 locs (cells + 1) (slots + N) Q (F0 m pc' ls (.ref q :: r.map (ptr ad ex)))) →
      W p l e R s m args below meth c H locs cells slots Q (F0 m pc ls ((vs ++ r).map (ptr ad ex)))) :
    pSt p l e R s m args below meth c Q nL n0 D A ex ad0 ca0 (pc, L, vs ++ r, w) := by
  intro H locs ad ca ls hI hl hL hs hLk hn ha
  dsimp only at hI hl hL hs hLk hn ⊢
  have hm := psn_mono hn
  refine hk H locs _ _ ad ca ls hI (by omega) (by omega) (fun q cA H1 h1 h2 h3 h4 => ?_)
  have hold : ∀ h, h < w.1 → (fun j => if j = w.1 then q else ad j) h = ad h ∧ (fun j => if j = w.1 then cA else ca j) h = ca h := fun h hh => by
    have : h ≠ w.1 := by omega
    simp [this]
  have hrow : ∀ {α : Type} (g : Nat → Nat → α) (z : α) (h : Nat), h < w.1 → u1 g w.1 z h = g h := fun g z h hh => by
    have : h ≠ w.1 := by omega
    funext b
    simp [u1, this]
  have hpe : ∀ h, h < w.1 → pE (fun j => if j = w.1 then q else ad j) (fun j => if j = w.1 then cA else ca j) (pnw w) h = pE ad ca w h := fun h hh => pE_old hI.2.2.2.2 (fun j hj => (hold j hj).1) (hold h hh).2 (hrow _ _ h hh) (hrow _ _ h hh) (hrow _ _ h hh)
  have hpl : pL (fun j => if j = w.1 then q else ad j) (fun j => if j = w.1 then cA else ca j) (pnw w) = pL ad ca w ++ [(q, pE (fun j => if j = w.1 then q else ad j) (fun j => if j = w.1 then cA else ca j) (pnw w) w.1)] := by
    rw [pL_app (w := w) (w' := pnw w) (k := 1) rfl (fun h hh => ⟨(hold h hh).1, hpe h hh⟩)]
    simp
  have hin : pIn D (fun j => if j = w.1 then q else ad j) (fun j => if j = w.1 then cA else ca j) (pnw w) A s.heap H1 locs s := by
    refine ⟨by rw [hpl]; exact h1, by rw [hpl]; exact h2, h3, ⟨hI.2.2.2.1.1, fun h ty N9 hh hs9 => ?_⟩, fun a b t ht => ?_⟩
    · by_cases he : h = w.1
      · subst he
        rw [hsh] at hs9
        cases hs9
        simpa using h4 ty N9 rfl
      · have : h < w.1 := by
          have : h < w.1 + 1 := hh
          omega
        simpa [he] using hI.2.2.2.1.2 h ty N9 this hs9
    · show t < w.1 + 1
      have ht' : u1 w.2.2.2 w.1 none a b = some t := ht
      unfold u1 at ht'
      by_cases he : a = w.1
      · rw [if_pos he] at ht'; cases ht'
      · rw [if_neg he] at ht'
        have := hI.2.2.2.2 a b t ht'
        omega
  have h := pSt.grow (k := 1) (w' := pnw w) (ad := ad) (ca := ca) k rfl (by decide) hold hin hl hL (fun v hv => hs v (List.mem_append_right _ hv)) hLk hn ha
  have e1 : (pnw w).1 - n0 = w.1 - n0 + 1 := by show w.1 + 1 - n0 = _; omega
  have e2 : psn (pnw w).1 - psn n0 = psn w.1 - psn n0 + N := by show psn (w.1 + 1) - _ = _; omega
  rw [e1, e2] at h
  simpa using h
theorem pSt.newarr (hx : p.tables.exec = Jvm.exec) (hb : c.code = cc) (hts : ∀ w ∈ WS, w.before args s = true) (hA : ∀ q, s.heap.size ≤ q → A q) {t : ArrayType} {n : Int32} {N : Nat} (ht : pty t ≠ .char) (hw : Cond.arrayClass (pty t) ∈ WS) (hsh : SHget w.1 = some (.inl (pty t, N))) (hn : ¬ n < 0) (hN : n.toNatClampNeg = N) (hb2 : N ≤ 100000) (hR1 : w.1 + 1 - n0 ≤ R.cells) (hR2 : psn (w.1 + 1) - psn n0 ≤ R.slots) (hd : decode cc pc = .ok (.newarray t, 2))
    (k : pSt p l e R s m args below meth c Q nL n0 D A ex ad0 ca0 (pc + 2, L, .ref w.1 :: r, pnw w)) : pSt p l e R s m args below meth c Q nL n0 D A ex ad0 ca0 (pc, L, .int n :: r, w) := by
  have hps : psn (w.1 + 1) = psn w.1 + N := by
    show psn w.1 + _ = _
    rw [hsh]
  have key : ∀ (ty : FieldType), newarray.typeOf t = ty → pty t = ty → (∀ (ad : Nat → Nat) (cA : ClassId), vp_cell cA (N, pac ad (pnw w) w.1 ty) = arrV cA N (fun _ => defaultValue ty)) → N * componentBytes ty ≤ 536870912 → pSt p l e R s m args below meth c Q nL n0 D A ex ad0 ca0 (pc, L, .int n :: r, w) := by
    intro ty h1 h2 h3 h4
    rw [h2] at hw hsh
    refine pSt.new1 (vs := [.int n]) hsh hps hR1 hR2 k (fun H locs cells slots ad ca ls hI hc hs kk => ?_)
    refine va_newa (a0 := (N, pac ad (pnw w) w.1 ty)) hx hb (by rw [h1]; exact hts _ hw) h1 hI.2.2.2.1.K0 hI.1 hI.2.1 hI.2.2.1 hA (fun cA => h3 ad cA) hn hN h4 hc hs hd (fun q cA H1 hK hP hD hS => ?_)
    have hpe : ∀ ad' ca', pE ad' ca' (pnw w) w.1 = .inl (ca' w.1, N, pac ad' (pnw w) w.1 ty) := fun ad' ca' => pE_arr hsh
    have hpc : ∀ ad', pac ad' (pnw w) w.1 ty = pac ad (pnw w) w.1 ty := fun ad' => by
      cases t <;> first | (cases h2; rfl) | exact absurd rfl ht
    have hfin : pE (fun j => if j = w.1 then q else ad j) (fun j => if j = w.1 then cA else ca j) (pnw w) w.1 = .inl (cA, N, pac ad (pnw w) w.1 ty) := by rw [hpe, hpc]; simp
    refine kk q cA H1 (by rw [hfin]; exact hP) (by rw [hfin]; exact hD) hS (fun ty' n' he => ?_)
    cases he
    exact hK.2 0 (cA, ty) rfl
  have hu : ∀ {α : Type} (g : Nat → Nat → α) (z : α), u1 g w.1 z w.1 = fun _ => z := fun g z => by
    funext b
    simp [u1]
  cases t
  · exact key .boolean rfl rfl (fun ad cA => by show arrV cA N (fun j => .int (u1 w.2.1 w.1 0 w.1 j)) = _; rw [hu]; rfl) (by show N * 1 ≤ _; omega)
  · exact absurd rfl ht
  · exact absurd rfl ht
  · exact absurd rfl ht
  · exact key .byte rfl rfl (fun ad cA => by show arrV cA N (fun j => .int (u1 w.2.1 w.1 0 w.1 j)) = _; rw [hu]; rfl) (by show N * 1 ≤ _; omega)
  · exact absurd rfl ht
  · exact key .int rfl rfl (fun ad cA => by show arrV cA N (fun j => .int (u1 w.2.1 w.1 0 w.1 j)) = _; rw [hu]; rfl) (by show N * 4 ≤ _; omega)
  · exact key .long rfl rfl (fun ad cA => by show arrV cA N (fun j => .long (u1 w.2.2.1 w.1 0 w.1 j)) = _; rw [hu]; rfl) (by show N * 8 ≤ _; omega)
theorem fty_small : ∀ a, a < 12 → ∀ k, k < nfd a → fty a k = .int ∨ fty a k = .boolean ∨ fty a k = .long ∨ pk (fty a k) = 2 := by decide +kernel
theorem pSt.newobj (hx : p.tables.exec = Jvm.exec) (hb : c.code = cc) (hts : ∀ w ∈ WS, w.before args s = true) (hown : s.vm.findClass own = some m.cls) (hA : ∀ q, s.heap.size ≤ q → A q) {a idx : Nat} (ha : a < 12) (hw1 : Cond.classLink own idx (pTT a).1 ∈ WS) (hw2 : Cond.instantiable (pTT a).1 (nfd a) ∈ WS) (hsh : SHget w.1 = some (.inr a)) (hR1 : w.1 + 1 - n0 ≤ R.cells) (hR2 : psn (w.1 + 1) - psn n0 ≤ R.slots) (hd : decode cc pc = .ok (.new idx, 3))
    (k : pSt p l e R s m args below meth c Q nL n0 D A ex ad0 ca0 (pc + 3, L, .ref w.1 :: r, pnw w)) : pSt p l e R s m args below meth c Q nL n0 D A ex ad0 ca0 (pc, L, r, w) := by
  obtain ⟨C, T, N, h1, h2, h3, h4, h5, h6, h7⟩ := cls_ok a ha
  rw [h2] at hw1 hw2
  rw [h3] at hw2
  have hps : psn (w.1 + 1) = psn w.1 + N := by
    show psn w.1 + _ = _
    rw [hsh, ← h3]
  refine pSt.new1 (vs := []) hsh hps hR1 hR2 k (fun H locs cells slots ad ca ls hI hc hs kk => ?_)
  refine va_new (fs := (List.range (nfd a)).map (fun k => pfv ad (pnw w) w.1 (fty a k) k)) hx hb hts h4 (fty a) h5 hown (hts _ hw1) (hts _ hw2) (hts _ h7) hI.2.2.2.1.K0 hI.1 hI.2.1 hI.2.2.1 hA h1 (fun j hj => ?_) hc hs hd (fun q H1 hP hD hS => ?_)
  · have hj' : j < nfd a := by omega
    have : vp_V ((List.range (nfd a)).map (fun k => pfv ad (pnw w) w.1 (fty a k) k)) j = pfv ad (pnw w) w.1 (fty a j) j := by
      unfold vp_V
      rw [List.getD_eq_getElem?_getD, List.getElem?_map, List.getElem?_range hj']
      rfl
    rw [this]
    rcases fty_small a ha j hj' with q | q | q | q
    · rw [q]; simp [pfv, pk, pnw, u1, defaultValue]
    · rw [q]; simp [pfv, pk, pnw, u1, defaultValue]
    · rw [q]; simp [pfv, pk, pnw, u1, defaultValue]
    · unfold pfv
      rw [q]
      simp only [pnw, u1, if_true, Option.map_none, va_rf]
      cases hf : fty a j <;> rw [hf] at q <;> first | rfl | (simp [pk] at q)
  · have hfin : pE (fun j => if j = w.1 then q else ad j) (fun j => if j = w.1 then 0 else ca j) (pnw w) w.1 = .inr (a, (List.range (nfd a)).map (fun k => pfv ad (pnw w) w.1 (fty a k) k)) := by
      rw [pE_obj hsh]
      congr 2
      apply List.map_congr_left
      intro k _
      unfold pfv
      simp [pnw, u1]
    exact kk q 0 H1 (by rw [hfin]; exact hP) (by rw [hfin]; exact hD) hS (fun ty n he => by cases he)
end
