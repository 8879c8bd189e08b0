/-! THE PURE MACHINE IS SOUND, 4: arrays, the script -/
theorem pE_setA {ad : Nat → Nat} {ca : Nat → ClassId} {w w' : pW} {h n : Nat} {ty : FieldType} {x : (Nat → Int32) ⊕ (Nat → Int64) ⊕ (Nat → UInt32) ⊕ (Nat → UInt64) ⊕ (Nat → Option Nat)} (hs : SHget h = some (.inl (ty, n))) (hx : pac ad w' h ty = x) (h1 : w'.1 = w.1) (hoo : ∀ x, x ≠ h → w'.2.1 x = w.2.1 x ∧ w'.2.2.1 x = w.2.2.1 x ∧ w'.2.2.2 x = w.2.2.2 x) : (pL ad ca w).set h (ad h, .inl (ca h, n, x)) = pL ad ca w' :=
  pL_set h1 (by rw [pE_arr hs, hx]) (fun x hx => pE_congr (hoo x hx).1 (hoo x hx).2.1 (hoo x hx).2.2)
theorem pVi (n : Nat) (x : Int32) : pVok n (.int x) := trivial
theorem pVj (n : Nat) (x : Int64) : pVok n (.long x) := trivial
section
variable {p : Program} {l : Launch} {e : Env} {R : Room} {s : State} {m : MethodId} {args : Array Value} {below : List Frame} {meth : Method} {c : Code} {Q : State → Prop} {nL n0 : Nat} {D : va_G} {A : Nat → Prop} {ex ad0 : Nat → Nat} {ca0 : Nat → ClassId}
variable {cc : ByteArray} {pc : Nat} {L : List (Option Value)} {st r : List Value} {w : pW} {own : String}
theorem pSt.ald {n h : Nat} {ty : FieldType} {i : Int32} {v : Value} (hs : psh w h = some (.inl (ty, n))) (hok : pWf w → pVok w.1 v) (k : pSt p l e R s m args below meth c Q nL n0 D A ex ad0 ca0 (pc + 1, L, v :: r, w))
    (hk : ∀ (H : Heap) (locs : List Loc) (cells slots : Nat) (ad : Nat → Nat) (ca : Nat → ClassId) (ls : Array Slot), va_K D vwCl [(ca h, ty)] s → va_P D vwCl (pL ad ca w) H → (pL ad ca w)[h]? = some (ad h, .inl (ca h, n, pac ad w h ty)) → W p l e R s m args below meth c H locs cells slots Q (F0 m (pc + 1) ls (ptr ad ex v :: r.map (ptr ad ex))) → W p l e R s m args below meth c H locs cells slots Q (F0 m pc ls (.int i :: .ref (ad h) :: r.map (ptr ad ex)))) :
    pSt p l e R s m args below meth c Q nL n0 D A ex ad0 ca0 (pc, L, .int i :: .ref h :: r, w) := by
  obtain ⟨hh, hsh⟩ := psh_spec hs
  exact pSt.go (fun hwf g1 g2 => ⟨fun u hu => (List.mem_cons.mp hu).elim (fun q => q ▸ hok hwf) (fun q => g1 u (List.mem_cons_of_mem _ (List.mem_cons_of_mem _ q))), g2⟩) rfl k (fun H locs cells slots ad ca ls hI hl _ kk => hk H locs cells slots ad ca ls (hI.2.2.2.1.K hh hsh) hI.1 (by rw [pL_get hh, pE_arr hsh]) (kk ls hl))
theorem pSt.iald (hx : p.tables.exec = Jvm.exec) (hb : c.code = cc) {n h : Nat} {i : Int32} (hs : psh w h = some (.inl (.int, n))) (hin : ¬ (i < 0 ∨ n ≤ i.toNatClampNeg)) (hd : decode cc pc = .ok (.iaload, 1)) (k : pSt p l e R s m args below meth c Q nL n0 D A ex ad0 ca0 (pc + 1, L, .int (w.2.1 h i.toNatClampNeg) :: r, w)) :
    pSt p l e R s m args below meth c Q nL n0 D A ex ad0 ca0 (pc, L, .int i :: .ref h :: r, w) :=
  pSt.ald hs (fun _ => pVi _ _) k (fun H locs cells slots ad ca ls hK hP he kk => va_iald hx hb hK hP h 0 he rfl hin hd kk)
theorem pSt.bald (hx : p.tables.exec = Jvm.exec) (hb : c.code = cc) {n h : Nat} {i : Int32} (hs : psh w h = some (.inl (.byte, n))) (hin : ¬ (i < 0 ∨ n ≤ i.toNatClampNeg)) (hd : decode cc pc = .ok (.baload, 1)) (k : pSt p l e R s m args below meth c Q nL n0 D A ex ad0 ca0 (pc + 1, L, .int (w.2.1 h i.toNatClampNeg) :: r, w)) :
    pSt p l e R s m args below meth c Q nL n0 D A ex ad0 ca0 (pc, L, .int i :: .ref h :: r, w) :=
  pSt.ald hs (fun _ => pVi _ _) k (fun H locs cells slots ad ca ls hK hP he kk => va_bald hx hb hK hP h 0 he rfl hin hd kk)
theorem pSt.zald (hx : p.tables.exec = Jvm.exec) (hb : c.code = cc) {n h : Nat} {i : Int32} (hs : psh w h = some (.inl (.boolean, n))) (hin : ¬ (i < 0 ∨ n ≤ i.toNatClampNeg)) (hd : decode cc pc = .ok (.baload, 1)) (k : pSt p l e R s m args below meth c Q nL n0 D A ex ad0 ca0 (pc + 1, L, .int (w.2.1 h i.toNatClampNeg) :: r, w)) :
    pSt p l e R s m args below meth c Q nL n0 D A ex ad0 ca0 (pc, L, .int i :: .ref h :: r, w) :=
  pSt.ald hs (fun _ => pVi _ _) k (fun H locs cells slots ad ca ls hK hP he kk => va_zald hx hb hK hP h 0 he rfl hin hd kk)
theorem pSt.lald (hx : p.tables.exec = Jvm.exec) (hb : c.code = cc) {n h : Nat} {i : Int32} (hs : psh w h = some (.inl (.long, n))) (hin : ¬ (i < 0 ∨ n ≤ i.toNatClampNeg)) (hd : decode cc pc = .ok (.laload, 1)) (k : pSt p l e R s m args below meth c Q nL n0 D A ex ad0 ca0 (pc + 1, L, .long (w.2.2.1 h i.toNatClampNeg) :: r, w)) :
    pSt p l e R s m args below meth c Q nL n0 D A ex ad0 ca0 (pc, L, .int i :: .ref h :: r, w) :=
  pSt.ald hs (fun _ => pVj _ _) k (fun H locs cells slots ad ca ls hK hP he kk => va_lald hx hb hK hP h 0 he rfl hin hd kk)
theorem pSt.aald (hx : p.tables.exec = Jvm.exec) (hb : c.code = cc) {n h : Nat} {ty : FieldType} {i : Int32} (hs : psh w h = some (.inl (.array ty, n))) (hin : ¬ (i < 0 ∨ n ≤ i.toNatClampNeg)) (hd : decode cc pc = .ok (.aaload, 1)) (k : pSt p l e R s m args below meth c Q nL n0 D A ex ad0 ca0 (pc + 1, L, va_rf (w.2.2.2 h i.toNatClampNeg) :: r, w)) :
    pSt p l e R s m args below meth c Q nL n0 D A ex ad0 ca0 (pc, L, .int i :: .ref h :: r, w) :=
  pSt.ald hs (fun hwf => hwf.ok h _) k (fun H locs cells slots ad ca ls hK hP he kk => by
    rw [ptr_rf] at kk
    have hlt : i.toNatClampNeg < n := Nat.not_le.mp fun q => hin (Or.inr q)
    exact W.aald (v := va_rf ((w.2.2.2 h i.toNatClampNeg).map ad)) (ty := .array ty) hx hb (hP h _ he) ((hK.2 0 _ rfl).1 n (fun j => va_rf ((w.2.2.2 h j).map ad))) rfl (fun q => by cases q) (by show ¬ (i < 0 ∨ (arrV _ _ _).slots.size ≤ _); rw [arrV_size]; exact hin) (by show (arrV _ _ _).slots[_]? = _; rw [arrV_read _ _ hlt]) rfl rfl hd kk)
theorem pSt.sald (hx : p.tables.exec = Jvm.exec) (hb : c.code = cc) {n : Nat} {xs : Nat → Int32} {i : Int32} (hX : va_X (ex 0) n xs s s.heap) (hbl : ex 0 < s.heap.size) (hbA : ¬ A (ex 0)) (hin : ¬ (i < 0 ∨ n ≤ i.toNatClampNeg)) (hd : decode cc pc = .ok (.iaload, 1)) (k : pSt p l e R s m args below meth c Q nL n0 D A ex ad0 ca0 (pc + 1, L, .int (xs i.toNatClampNeg) :: r, w)) :
    pSt p l e R s m args below meth c Q nL n0 D A ex ad0 ca0 (pc, L, .int i :: .retAddr 0 :: r, w) :=
  pSt.go (fun hwf g1 g2 => ⟨fun u hu => (List.mem_cons.mp hu).elim (fun q => q ▸ pVi _ _) (fun q => g1 u (List.mem_cons_of_mem _ (List.mem_cons_of_mem _ q))), g2⟩) rfl k (fun H locs cells slots ad ca ls hI hl _ kk => va_sld hx hb hX hbl hbA hI.2.2.1 hin hd (kk ls hl))
theorem pSt.slen (hx : p.tables.exec = Jvm.exec) (hb : c.code = cc) {n : Nat} {xs : Nat → Int32} (hX : va_X (ex 0) n xs s s.heap) (hbl : ex 0 < s.heap.size) (hbA : ¬ A (ex 0)) (hd : decode cc pc = .ok (.arraylength, 1)) (k : pSt p l e R s m args below meth c Q nL n0 D A ex ad0 ca0 (pc + 1, L, .int (Int32.ofNat n) :: r, w)) :
    pSt p l e R s m args below meth c Q nL n0 D A ex ad0 ca0 (pc, L, .retAddr 0 :: r, w) :=
  pSt.go (fun hwf g1 g2 => ⟨fun u hu => (List.mem_cons.mp hu).elim (fun q => q ▸ pVi _ _) (fun q => g1 u (List.mem_cons_of_mem _ q)), g2⟩) rfl k (fun H locs cells slots ad ca ls hI hl _ kk => va_slen hx hb hX hbl hbA hI.2.2.1 hd (kk ls hl))
theorem pSt.alen (hx : p.tables.exec = Jvm.exec) (hb : c.code = cc) {n h : Nat} {ty : FieldType} (hs : psh w h = some (.inl (ty, n))) (hd : decode cc pc = .ok (.arraylength, 1)) (k : pSt p l e R s m args below meth c Q nL n0 D A ex ad0 ca0 (pc + 1, L, .int (Int32.ofNat n) :: r, w)) :
    pSt p l e R s m args below meth c Q nL n0 D A ex ad0 ca0 (pc, L, .ref h :: r, w) := by
  obtain ⟨hh, hsh⟩ := psh_spec hs
  exact pSt.go (fun hwf g1 g2 => ⟨fun u hu => (List.mem_cons.mp hu).elim (fun q => q ▸ pVi _ _) (fun q => g1 u (List.mem_cons_of_mem _ q)), g2⟩) rfl k (fun H locs cells slots ad ca ls hI hl _ kk => va_alen (x := (n, pac ad w h ty)) hx hb (hI.2.2.2.1.K hh hsh) hI.1 h 0 (by rw [pL_get hh, pE_arr hsh]) rfl rfl hd (kk ls hl))
theorem pSt.ast {n h : Nat} {ty : FieldType} {i : Int32} {v : Value} {w' : pW} (hs : psh w h = some (.inl (ty, n))) (h1 : w'.1 = w.1) (h4 : w'.2.2.2 = w.2.2.2) (k : pSt p l e R s m args below meth c Q nL n0 D A ex ad0 ca0 (pc + 1, L, r, w'))
    (hk : ∀ (H : Heap) (locs : List Loc) (cells slots : Nat) (ad : Nat → Nat) (ca : Nat → ClassId) (ls : Array Slot), va_K D vwCl [(ca h, ty)] s → va_P D vwCl (pL ad ca w) H → va_D A (pL ad ca w) → va_S A s.heap H locs → (pL ad ca w)[h]? = some (ad h, .inl (ca h, n, pac ad w h ty)) → SHget h = some (.inl (ty, n)) → (∀ (H1 : Heap) (locs1 : List Loc), va_P D vwCl (pL ad ca w') H1 → va_D A (pL ad ca w') → va_S A s.heap H1 locs1 → W p l e R s m args below meth c H1 locs1 cells slots Q (F0 m (pc + 1) ls (r.map (ptr ad ex)))) → W p l e R s m args below meth c H locs cells slots Q (F0 m pc ls (ptr ad ex v :: .int i :: .ref (ad h) :: r.map (ptr ad ex)))) :
    pSt p l e R s m args below meth c Q nL n0 D A ex ad0 ca0 (pc, L, v :: .int i :: .ref h :: r, w) := by
  obtain ⟨hh, hsh⟩ := psh_spec hs
  exact pSt.wr h1 (fun u hu => List.mem_cons_of_mem _ (List.mem_cons_of_mem _ (List.mem_cons_of_mem _ hu))) (fun g1 _ => by unfold pWf; rw [h4, h1]; exact g1) k (fun H locs cells slots ad ca ls hI kk => hk H locs cells slots ad ca ls (hI.2.2.2.1.K hh hsh) hI.1 hI.2.1 hI.2.2.1 (by rw [pL_get hh, pE_arr hsh]) hsh kk)
theorem pSt.iast (hx : p.tables.exec = Jvm.exec) (hb : c.code = cc) {n h : Nat} {i x : Int32} (hs : psh w h = some (.inl (.int, n))) (hin : ¬ (i < 0 ∨ n ≤ i.toNatClampNeg)) (hd : decode cc pc = .ok (.iastore, 1)) (k : pSt p l e R s m args below meth c Q nL n0 D A ex ad0 ca0 (pc + 1, L, r, (w.1, u2 w.2.1 h i.toNatClampNeg x, w.2.2))) :
    pSt p l e R s m args below meth c Q nL n0 D A ex ad0 ca0 (pc, L, .int x :: .int i :: .ref h :: r, w) :=
  pSt.ast (w' := (w.1, u2 w.2.1 h i.toNatClampNeg x, w.2.2)) (v := .int x) hs rfl rfl k (fun H locs cells slots ad ca ls hK hP hD hS he hsh kk => va_iast hx hb hK hP hD hS h 0 he rfl hin hd (fun H1 locs1 g1 g2 g3 => by
    have hset := pE_setA (ad := ad) (ca := ca) (w := w) (w' := (w.1, u2 w.2.1 h i.toNatClampNeg x, w.2.2)) hsh (x := .inl (upd (w.2.1 h) i.toNatClampNeg x)) (by show Sum.inl (u2 w.2.1 h i.toNatClampNeg x h) = _; rw [u2_eqI]) rfl (fun y hy => ⟨u2_ne hy, rfl, rfl⟩)
    exact kk H1 locs1 (hset ▸ g1) (hset ▸ g2) g3))
theorem pSt.bast (hx : p.tables.exec = Jvm.exec) (hb : c.code = cc) {n h : Nat} {i x : Int32} (hs : psh w h = some (.inl (.byte, n))) (hin : ¬ (i < 0 ∨ n ≤ i.toNatClampNeg)) (hd : decode cc pc = .ok (.bastore, 1)) (k : pSt p l e R s m args below meth c Q nL n0 D A ex ad0 ca0 (pc + 1, L, r, (w.1, u2 w.2.1 h i.toNatClampNeg (vp_nar .byte x), w.2.2))) :
    pSt p l e R s m args below meth c Q nL n0 D A ex ad0 ca0 (pc, L, .int x :: .int i :: .ref h :: r, w) :=
  pSt.ast (w' := (w.1, u2 w.2.1 h i.toNatClampNeg (vp_nar .byte x), w.2.2)) (v := .int x) hs rfl rfl k (fun H locs cells slots ad ca ls hK hP hD hS he hsh kk => va_bast hx hb hK hP hD hS h 0 he rfl hin hd (fun H1 locs1 g1 g2 g3 => by
    have hset := pE_setA (ad := ad) (ca := ca) (w := w) (w' := (w.1, u2 w.2.1 h i.toNatClampNeg (vp_nar .byte x), w.2.2)) hsh (x := .inl (upd (w.2.1 h) i.toNatClampNeg (vp_nar .byte x))) (by show Sum.inl (u2 w.2.1 h i.toNatClampNeg (vp_nar .byte x) h) = _; rw [u2_eqI]) rfl (fun y hy => ⟨u2_ne hy, rfl, rfl⟩)
    exact kk H1 locs1 (hset ▸ g1) (hset ▸ g2) g3))
theorem pSt.zast (hx : p.tables.exec = Jvm.exec) (hb : c.code = cc) {n h : Nat} {i x : Int32} (hs : psh w h = some (.inl (.boolean, n))) (hin : ¬ (i < 0 ∨ n ≤ i.toNatClampNeg)) (hd : decode cc pc = .ok (.bastore, 1)) (k : pSt p l e R s m args below meth c Q nL n0 D A ex ad0 ca0 (pc + 1, L, r, (w.1, u2 w.2.1 h i.toNatClampNeg (vp_nar .boolean x), w.2.2))) :
    pSt p l e R s m args below meth c Q nL n0 D A ex ad0 ca0 (pc, L, .int x :: .int i :: .ref h :: r, w) :=
  pSt.ast (w' := (w.1, u2 w.2.1 h i.toNatClampNeg (vp_nar .boolean x), w.2.2)) (v := .int x) hs rfl rfl k (fun H locs cells slots ad ca ls hK hP hD hS he hsh kk => va_zast hx hb hK hP hD hS h 0 he rfl hin hd (fun H1 locs1 g1 g2 g3 => by
    have hset := pE_setA (ad := ad) (ca := ca) (w := w) (w' := (w.1, u2 w.2.1 h i.toNatClampNeg (vp_nar .boolean x), w.2.2)) hsh (x := .inl (upd (w.2.1 h) i.toNatClampNeg (vp_nar .boolean x))) (by show Sum.inl (u2 w.2.1 h i.toNatClampNeg (vp_nar .boolean x) h) = _; rw [u2_eqI]) rfl (fun y hy => ⟨u2_ne hy, rfl, rfl⟩)
    exact kk H1 locs1 (hset ▸ g1) (hset ▸ g2) g3))
theorem pSt.last (hx : p.tables.exec = Jvm.exec) (hb : c.code = cc) {n h : Nat} {i : Int32} {x : Int64} (hs : psh w h = some (.inl (.long, n))) (hin : ¬ (i < 0 ∨ n ≤ i.toNatClampNeg)) (hd : decode cc pc = .ok (.lastore, 1)) (k : pSt p l e R s m args below meth c Q nL n0 D A ex ad0 ca0 (pc + 1, L, r, (w.1, w.2.1, u2 w.2.2.1 h i.toNatClampNeg x, w.2.2.2))) :
    pSt p l e R s m args below meth c Q nL n0 D A ex ad0 ca0 (pc, L, .long x :: .int i :: .ref h :: r, w) :=
  pSt.ast (w' := (w.1, w.2.1, u2 w.2.2.1 h i.toNatClampNeg x, w.2.2.2)) (v := .long x) hs rfl rfl k (fun H locs cells slots ad ca ls hK hP hD hS he hsh kk => va_last hx hb hK hP hD hS h 0 he rfl hin hd (fun H1 locs1 g1 g2 g3 => by
    have hset := pE_setA (ad := ad) (ca := ca) (w := w) (w' := (w.1, w.2.1, u2 w.2.2.1 h i.toNatClampNeg x, w.2.2.2)) hsh (x := .inr (.inl (vp_updL (w.2.2.1 h) i.toNatClampNeg x))) (by show Sum.inr (Sum.inl (u2 w.2.2.1 h i.toNatClampNeg x h)) = _; rw [u2_eqL]) rfl (fun y hy => ⟨rfl, u2_ne hy, rfl⟩)
    exact kk H1 locs1 (hset ▸ g1) (hset ▸ g2) g3))
end
