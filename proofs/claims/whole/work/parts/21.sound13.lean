/-! THE PURE MACHINE IS SOUND, 13: a method's meaning is its contract -/
theorem lg_lpad : ∀ (n : Nat) (L : List (Option Value)) (i : Nat) (v : Value), lg (lpad n L) i = some v → lg L i = some v
  | 0, L, i, v, h => h
  | n + 1, [], 0, v, h => by simp [lpad, lg] at h
  | n + 1, [], i + 1, v, h => by
    have : lg (lpad n []) i = some v := h
    have := lg_lpad n [] i v this
    simp [lg] at this
  | n + 1, x :: r, 0, v, h => h
  | n + 1, x :: r, i + 1, v, h => lg_lpad n r i v h
theorem len_lpad : ∀ (n : Nat) (L : List (Option Value)), L.length ≤ n → (lpad n L).length = n
  | 0, L, h => by
    cases L with
    | nil => rfl
    | cons x r => simp at h
  | n + 1, [], h => by simp [lpad, len_lpad n [] (Nat.zero_le _)]
  | n + 1, x :: r, h => by simp [lpad, len_lpad n r (by simpa using h)]
theorem lg_lent0 (g : Value → Value) (hg : ∀ v, (g v).category = v.category) : ∀ (as : List Value) (i k : Nat) (v : Value), lg (lent0 as) i = some v → (k + i, g v) ∈ lv_args k (as.map g) ∧ v ∈ as
  | [], i, k, v, h => by simp [lent0, lg] at h
  | u :: r, i, k, v, h => by
    unfold lent0 at h
    cases hc : pcat (some u) with
    | true =>
      rw [hc] at h
      have hu : (g u).category = 2 := by rw [hg]; exact (pcat_iff u).mp hc
      match i, h with
      | 0, h =>
        cases h
        exact ⟨List.mem_cons_self, List.mem_cons_self⟩
      | 1, h => cases h
      | i + 2, h =>
        obtain ⟨h1, h2⟩ := lg_lent0 g hg r i (k + 2) v h
        refine ⟨List.mem_cons_of_mem _ ?_, List.mem_cons_of_mem _ h2⟩
        rw [if_pos hu, show k + (i + 2) = k + 2 + i by omega]
        exact h1
    | false =>
      rw [hc] at h
      have hu : ¬ (g u).category = 2 := by
        rw [hg]
        intro q
        rw [(pcat_iff u).mpr q] at hc
        cases hc
      match i, h with
      | 0, h =>
        cases h
        exact ⟨List.mem_cons_self, List.mem_cons_self⟩
      | i + 1, h =>
        obtain ⟨h1, h2⟩ := lg_lent0 g hg r i (k + 1) v h
        refine ⟨List.mem_cons_of_mem _ ?_, List.mem_cons_of_mem _ h2⟩
        rw [if_neg hu, show k + (i + 1) = k + 1 + i by omega]
        exact h1
theorem len_lent0 (g : Value → Value) (hg : ∀ v, (g v).category = v.category) : ∀ as : List Value, (lg_sl (as.map g)).length = (lent0 as).length
  | [] => rfl
  | u :: r => by
    have ih := len_lent0 g hg r
    unfold lent0
    show (List.flatMap _ (g u :: r.map g)).length = _
    rw [List.flatMap_cons, List.length_append]
    change _ + (lg_sl (r.map g)).length = _
    rw [ih]
    cases hc : pcat (some u) with
    | true =>
      have hu : (g u).category = 2 := by rw [hg]; exact (pcat_iff u).mp hc
      rw [if_pos hu]
      simp
      omega
    | false =>
      have hu : ¬ (g u).category = 2 := by
        rw [hg]
        intro q
        rw [(pcat_iff u).mpr q] at hc
        cases hc
      rw [if_neg hu]
      simp
      omega
set_option maxHeartbeats 1000000 in
theorem meth_met {l : Launch} {d : Nat} {C : pC} (hC : pSnd l d C) {y : MethodName} {bs : ByteArray} {nL : Nat} {rt : Option FieldType} {np kd cn : Nat} {ws : List Nat} {T : pT} (hW : pchkW (y, bs, nL, rt, np, kd, cn, ws, T) = true) (hT : T.all (pchkR y bs) = true)
    {as : List Value} {w w' : pW} {r : Option Value} (hden : den none C rt T (0, lent as nL, [], w) = some (r, w')) (hlen : (lent0 as).length ≤ nL) (hwf : pWf w) (hok : ∀ v ∈ as, pVok w.1 v) :
    (w.1 ≤ w'.1 ∧ pWf w' ∧ ∀ v, r = some v → pVok w'.1 v) ∧ ∀ (D : va_G) (ad : Nat → Nat) (ca : Nat → ClassId) (ex : Nat → Nat) (sz : Nat), Met l y (.code y bs nL rt :: WS) (pRm (d + 1) w w') (pPc D ad ca ex w as sz) (pQc D ad ca ex w w' r sz) (w'.1 - w.1) (psn w'.1 - psn w.1) (va_A (pL ad ca w) sz) := by
  obtain ⟨n, hn⟩ := den_iter hden
  have hgd : pGd w [] (lent as nL) := ⟨hwf, fun v hv => by simp at hv, fun k v hv => hok v (lg_lent0 id (fun _ => rfl) as k 0 v (lg_lpad _ _ _ _ hv)).2⟩
  have hgood := piter_gd hC.cg hT n _ r w' hn hgd
  refine ⟨hgood, fun D ad ca ex sz => ?_⟩
  obtain ⟨c1, c2, c3, c4, c5, -⟩ := chkW_spec hW
  refine Met.ofW (cc := bs) (maxL := nL) (ret := rt) c3 rfl ?_
  intro p e s m args below meth c s₁ B hml hv
  obtain ⟨rfl, hsz, hP, hK, hD0, hXt⟩ := hv
  have hx := B.exec
  have hb := B.bytes
  have hr := B.returns
  have hts := atoms_spec (ws := .code y bs nL rt :: WS) B.pre
  have hown : s.vm.findClass y.cls = some m.cls := findClass_of_methodNamed B.named
  have hlocks := B.notSynchronized
  have hnm : meth.name = y.name := (name_of_methodNamed B.named B.method).1
  subst hsz
  have hD := hD0.self (sz := s.heap.size)
  have hX : pCx p l (pRm (d + 1) w w') s m (as.map (ptr ad ex)).toArray meth c nL (va_A (pL ad ca w) s.heap.size) ex y bs d C none := ⟨hx, hb, hml, fun w9 h9 => hts w9 (List.mem_cons_of_mem _ h9), hown, fun q h => Or.inr h, hXt, hC, Nat.le_refl _, Nat.le_refl _, fun h => hnm.trans h, fun n9 xs h9 => by cases h9⟩
  have hS : va_S (va_A (pL ad ca w) s.heap.size) s.heap s.heap [] := va_S.rf
  have hl := lv_entry (as.map (ptr ad ex)) (n := nL) (by rw [len_lent0 _ (ptr_cat ad ex)]; exact hlen)
  rw [lg_entry_eq]
  generalize (lg_sl (as.map (ptr ad ex)) ++ List.replicate (nL - (lg_sl (as.map (ptr ad ex))).length) Slot.unset).toArray = ls at hl ⊢
  have hlH : lH (ptr ad ex) ls nL (lent as nL) := ⟨hl.1, hl.2.1, fun i v hv => by
    have h1 := (lg_lent0 (ptr ad ex) (ptr_cat ad ex) as i 0 v (lg_lpad _ _ _ _ hv)).1
    rw [Nat.zero_add] at h1
    exact hl.2.2 (i, ptr ad ex v) h1⟩
  have key : pSt p l e (pRm (d + 1) w w') s m (as.map (ptr ad ex)).toArray below meth c (MQ below (pQc D ad ca ex w w' r s.heap.size) (as.map (ptr ad ex)).toArray s (w'.1 - w.1) (psn w'.1 - psn w.1) (va_A (pL ad ca w) s.heap.size)) nL w.1 D (va_A (pL ad ca w) s.heap.size) ex ad ca (0, lent as nL, [], w) := by
    refine pwalk (n0 := w.1) hX hT (r := r) (w' := w') (Nat.le_refl _) (Nat.le_refl _) (fun f hf => ?_) n _ hn hgd
    obtain ⟨pc, L, st, w9⟩ := f
    obtain ⟨i, len, a, b, q, v, hm, hs⟩ := pst_spec hf
    obtain ⟨hd, hck⟩ := chkR_spec (List.all_eq_true.mp hT _ hm)
    obtain ⟨e9, hc⟩ := pstep_ret hs
    dsimp only at e9 hc hd hck
    subst e9
    intro H locs ad' ca' ls' hI hl' hL' hs' hLk' hn' ha'
    dsimp only at hI ⊢
    have hq : ∀ (v9 : Option Value), v9 = r.map (ptr ad' ex) → ∀ t : State, t.heap = H → s.WarmedH t.vm → pQc D ad ca ex w w' r s.heap.size (as.map (ptr ad ex)).toArray s (.returned v9) t := fun v9 hv9 t ht hWm => by
      subst hv9
      exact ⟨⟨ad', ca', ha', rfl, by rw [ht]; exact hI.1, hI.2.2.2.1.moved hWm.alike, hI.2.1⟩, hI.2.2.1.F ht⟩
    rcases hc with ⟨rfl, x, rfl, rfl, hrt⟩ | ⟨rfl, x, rfl, rfl, hrt⟩ | ⟨rfl, x, n9, rfl, rfl, hrt⟩ | ⟨rfl, rfl, rfl, hrt⟩
    · have hl1 : len = 1 := beq_nat hck
      subst hl1
      rcases hrt with hrt | ⟨hrt, hx01⟩
      · exact W.iret (v := x) hx hb (by rw [hr, hrt]) (hq _ rfl) hI.2.2.1.2.2 hd hlocks
      · exact W.zret (v := x) hx hb (by rw [hr, hrt]) (by rcases hx01 with rfl | rfl <;> rfl) (hq _ rfl) hI.2.2.1.2.2 hd hlocks
    · have hl1 : len = 1 := beq_nat hck
      subst hl1
      exact W.lret (v := x) hx hb (by rw [hr, hrt]) (hq _ rfl) hI.2.2.1.2.2 hd hlocks
    · have hl1 : len = 1 := beq_nat hck
      subst hl1
      exact W.aret (v := .ref (ad' x)) hx hb (by rw [hr, hrt]) (Or.inl ⟨n9, rfl⟩) (Or.inr ⟨_, rfl⟩) (hq _ rfl) hI.2.2.1.2.2 hd hlocks
    · have hl1 : len = 1 := beq_nat hck
      subst hl1
      exact W.vret hx hb (by rw [hr, hrt]) (hq _ rfl) hI.2.2.1.2.2 hd hlocks
  have h := key s.heap [] ad ca ls ⟨hP, hD, hS, hK, hwf⟩ hlH (len_lpad _ _ hlen) (fun v hv => by simp at hv) hgd.2.2 (Nat.le_refl _) (fun _ _ => ⟨rfl, rfl⟩)
  dsimp only at h
  rw [Nat.sub_self, Nat.sub_self] at h
  exact h
def okM : Option pM → Prop
  | none => True
  | some M => pchkW M = true ∧ pchkT M = true
/-- the two methods of String -/
def pStr (l : Launch) : Prop := ∀ (d : Nat) (w : pW), 5 ≤ d → pWf w → ∀ (t : Nat), 0 < t → t < 17 → ∀ (D : va_G) (ad : Nat → Nat) (ca : Nat → ClassId) (ex : Nat → Nat) (sz : Nat),
  Met l ⟨"java/lang/String", "length", "()I"⟩ (.code ⟨"java/lang/String", "length", "()I"⟩ mQ_J_len.2.1 1 (some .int) :: WS) (pRm (d + 1) w w) (pPc D ad ca ex w [.retAddr t] sz) (pQc D ad ca ex w w (some (.int (Int32.ofNat (pLEN.getD (t - 1) 0)))) sz) (w.1 - w.1) (psn w.1 - psn w.1) (va_A (pL ad ca w) sz) ∧
  ∀ i : Int32, ¬ (i < 0 ∨ pLEN.getD (t - 1) 0 ≤ i.toNatClampNeg) → Met l ⟨"java/lang/String", "charAt", "(I)C"⟩ (.code ⟨"java/lang/String", "charAt", "(I)C"⟩ mQ_J_chr.2.1 2 (some .char) :: WS) (pRm (d + 1) w w) (pPc D ad ca ex w [.retAddr t, .int i] sz) (pQc D ad ca ex w w (some (.int ((pSTR.getD (t - 1) []).getD i.toNatClampNeg 0))) sz) (w.1 - w.1) (psn w.1 - psn w.1) (va_A (pL ad ca w) sz)
theorem Mean_snd {l : Launch} (hS : pStr l) (hall : ∀ x ∈ mTabs, okM x) : ∀ d, pSnd l d (Mean d)
  | 0 => fun j as w w' r h => by cases h
  | d + 1 => fun j as w w' r h hwf hok => by
    have hC := Mean_snd hS hall d
    have hmem : ∀ {M : pM}, mTab j = some M → pchkW M = true ∧ pchkT M = true := fun {M} hM => by
      unfold mTab at hM
      rw [List.getD_eq_getElem?_getD] at hM
      cases hg : mTabs[j]? with
      | none => rw [hg] at hM; cases hM
      | some x =>
        rw [hg] at hM
        have := hall x (List.mem_of_getElem? hg)
        have hx : x = some M := hM
        rw [hx] at this
        exact this
    unfold Mean at h
    cases h1 : Nat.beq j 240 with
    | true =>
      rw [h1] at h
      have hj := beq_nat h1
      subst hj
      obtain ⟨h2, h3⟩ := cond_some (show (bif Nat.ble 5 d then pslen as w else none) = some (r, w') from h)
      have hd5 : 5 ≤ d := Nat.le_of_ble_eq_true h2
      unfold pslen at h3
      split at h3
      · next t =>
        obtain ⟨h4, h5⟩ := cond_some h3
        simp only [Bool.and_eq_true] at h4
        cases h5
        refine ⟨Nat.le_refl _, hwf, fun v hv => by cases hv; exact pVi _ _, _, _, _, _, _, _, _, _, _, rfl, (hmem rfl).1, rfl, fun D ad ca ex sz => (hS d w hd5 hwf t (blt_nat h4.1) (blt_nat h4.2) D ad ca ex sz).1⟩
      · cases h3
    | false =>
      rw [h1] at h
      cases h6 : Nat.beq j 241 with
      | true =>
        rw [h6] at h
        have hj := beq_nat h6
        subst hj
        obtain ⟨h2, h3⟩ := cond_some (show (bif Nat.ble 5 d then pschr as w else none) = some (r, w') from h)
        have hd5 : 5 ≤ d := Nat.le_of_ble_eq_true h2
        unfold pschr at h3
        split at h3
        · next t i =>
          obtain ⟨h4, h5⟩ := cond_some h3
          simp only [Bool.and_eq_true] at h4
          obtain ⟨h7, h8⟩ := ite_some h5
          cases h8
          refine ⟨Nat.le_refl _, hwf, fun v hv => by cases hv; exact pVi _ _, _, _, _, _, _, _, _, _, _, rfl, (hmem rfl).1, rfl, fun D ad ca ex sz => (hS d w hd5 hwf t (blt_nat h4.1) (blt_nat h4.2) D ad ca ex sz).2 i h7⟩
        · cases h3
      | false =>
        rw [h6] at h
        change (match mTab j with
          | some (_, _, nL, rt, np, kd, _, _, T) => bif (Nat.beq as.length (bif Nat.beq kd 0 then np else np + 1) && Nat.ble (lent0 as).length nL) then den none (Mean d) rt T (0, lent as nL, [], w) else none
          | none => none) = some (r, w') at h
        split at h
        · next y bs nL rt np kd cn ws T hM =>
          obtain ⟨h2, h3⟩ := cond_some h
          simp only [Bool.and_eq_true] at h2
          obtain ⟨hW, hT⟩ := hmem hM
          obtain ⟨⟨g1, g2, g3⟩, g4⟩ := meth_met hC hW hT h3 (Nat.le_of_ble_eq_true h2.2) hwf hok
          refine ⟨g1, g2, g3, y, bs, nL, rt, np, kd, cn, ws, T, hM, hW, ?_, g4⟩
          rw [beq_nat h2.1]
          cases hk : Nat.beq kd 0 with
          | true => rw [beq_nat hk]; rfl
          | false =>
            have : ¬ kd = 0 := fun q => by rw [q] at hk; cases hk
            rw [if_neg this]
            rfl
        · cases h
