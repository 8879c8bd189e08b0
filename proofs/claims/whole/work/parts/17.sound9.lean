/-! THE PURE MACHINE IS SOUND, 9: the three kinds of call -/
section
variable {p : Program} {l : Launch} {e : Env} {R : Room} {s : State} {m : MethodId} {args : Array Value} {below : List Frame} {meth : Method} {c : Code} {Q : State → Prop} {nL n0 : Nat} {D : va_G} {A : Nat → Prop} {ex ad0 : Nat → Nat} {ca0 : Nat → ClassId}
variable {cc : ByteArray} {pc : Nat} {L : List (Option Value)} {st rest : List Value} {w w' : pW} {own : String}
theorem pSt.callV (hx : p.tables.exec = Jvm.exec) (hb : c.code = cc) (hml : c.maxLocals = nL) (hts : ∀ w ∈ WS, w.before args s = true) (hown : s.vm.findClass own = some m.cls) (hA : ∀ q, s.heap.size ≤ q → A q) (hXt : pXt ex A s) {d : Nat} {C : pC} (hC : pSnd l d C) (hRf : d + 1 ≤ R.frames) (hRl : 40 * (d + 1) ≤ R.locals)
    {j idx : Nat} {yc : MethodName} {bs : ByteArray} {mL : Nat} {rt : Option FieldType} {np cn : Nat} {ws : List Nat} {T : pT} (hT : mTab j = some (yc, bs, mL, rt, np, 2, cn, ws, T)) (hlink : Cond.methodLink own idx yc ∈ WS) (hd : decode cc pc = .ok (.invokevirtual idx, 3))
    {v0 : Value} {as : List Value} {r : Option Value} {b0 : (Nat → Nat) → Nat} (hb0 : ∀ ad, ptr ad ex v0 = .ref (b0 ad)) (hrcv : pchkW (yc, bs, mL, rt, np, 2, cn, ws, T) = true → ∀ (H : Heap) (locs : List Loc) (ad : Nat → Nat) (ca : Nat → ClassId), pIn D ad ca w A s.heap H locs s → ∃ cellB : Cell, H[b0 ad]? = some cellB ∧ cellB.vm.isStatics = false ∧ s.vm.findClass yc.cls = some cellB.cls)
    (hcl : C j (v0 :: as) w = some (r, w')) (hsplit : st = (v0 :: as).reverse ++ rest) (hsum : psum rest ≤ 8) (hR1 : w'.1 - n0 ≤ R.cells) (hR2 : psn w'.1 - psn n0 ≤ R.slots) (k : pSt p l e R s m args below meth c Q nL n0 D A ex ad0 ca0 (pc + 3, L, r.toList ++ rest, w')) :
    pSt p l e R s m args below meth c Q nL n0 D A ex ad0 ca0 (pc, L, st, w) := by
  refine pSt.call hC hcl hsplit hsum hA hXt hR1 hR2 k (fun H locs cells slots ad ca ls y bs' mL' rt' np' kd' cn' ws' T' hT' hchk hlen hls hM hpre hI hf => ?_)
  rw [hT] at hT'
  cases hT'
  obtain ⟨c1, c2, -, c4, c5, -, -, c8⟩ := chkW_spec hchk
  obtain ⟨i1, i2, -⟩ := c8 rfl
  have hbase := callB_of (R := R) (own := own) (index := idx) (rm := pRm d w w') (mc := w'.1 - w.1) (ms := psn w'.1 - psn w.1) np hts (goodIn_WS (fun _ h => h) c1) rfl rfl rfl (hts _ c2) (hts _ hlink) c4 ⟨hRf, by show 8 + (mL + 11) + 40 * d ≤ _; omega⟩
  have hmap : (v0 :: as).map (ptr ad ex) = .ref (b0 ad) :: as.map (ptr ad ex) := by rw [List.map_cons, hb0]
  rw [hmap] at hpre ⊢
  have hstk : st.map (ptr ad ex) = (as.map (ptr ad ex)).reverse ++ .ref (b0 ad) :: rest.map (ptr ad ex) := by
    rw [hsplit, List.map_append, List.map_reverse, hmap]
    simp
  exact va_runV (As := as.map (ptr ad ex)) (rest := rest.map (ptr ad ex)) ⟨hx, hb, hml, hown, hts⟩ hM ⟨hbase, hts _ i1, hts _ i2⟩ ⟨pPc.blind D ad ca ex w _ _, hrcv hchk H locs ad ca hI, hpre⟩ rfl (by simpa using hlen) hls hstk (lv_room (psum_le hsum)) hd hf
theorem pSt.callS (hx : p.tables.exec = Jvm.exec) (hb : c.code = cc) (hml : c.maxLocals = nL) (hts : ∀ w ∈ WS, w.before args s = true) (hown : s.vm.findClass own = some m.cls) (hA : ∀ q, s.heap.size ≤ q → A q) (hXt : pXt ex A s) {d : Nat} {C : pC} (hC : pSnd l d C) (hRf : d + 1 ≤ R.frames) (hRl : 40 * (d + 1) ≤ R.locals)
    {j idx : Nat} {yc : MethodName} {bs : ByteArray} {mL : Nat} {rt : Option FieldType} {np cn : Nat} {ws : List Nat} {T : pT} (hT : mTab j = some (yc, bs, mL, rt, np, 0, cn, ws, T)) (hlink : Cond.methodLink own idx yc ∈ WS ∨ va_Nw (.methodLinkNest own idx yc "StepAway") s) (hd : decode cc pc = .ok (.invokestatic idx, 3))
    {as : List Value} {r : Option Value} (hcl : C j as w = some (r, w')) (hsplit : st = as.reverse ++ rest) (hsum : psum rest ≤ 8) (hR1 : w'.1 - n0 ≤ R.cells) (hR2 : psn w'.1 - psn n0 ≤ R.slots) (k : pSt p l e R s m args below meth c Q nL n0 D A ex ad0 ca0 (pc + 3, L, r.toList ++ rest, w')) :
    pSt p l e R s m args below meth c Q nL n0 D A ex ad0 ca0 (pc, L, st, w) := by
  refine pSt.call hC hcl hsplit hsum hA hXt hR1 hR2 k (fun H locs cells slots ad ca ls y bs' mL' rt' np' kd' cn' ws' T' hT' hchk hlen hls hM hpre hI hf => ?_)
  rw [hT] at hT'
  cases hT'
  obtain ⟨c1, c2, -, c4, c5, c6, -, -⟩ := chkW_spec hchk
  have hstk : st.map (ptr ad ex) = (as.map (ptr ad ex)).reverse ++ rest.map (ptr ad ex) := by rw [hsplit, List.map_append, List.map_reverse]
  have hln : (as.map (ptr ad ex)).length = np := by simpa using hlen
  rcases hlink with hlink | hlink
  · have hbase := callB_of (R := R) (own := own) (index := idx) (rm := pRm d w w') (mc := w'.1 - w.1) (ms := psn w'.1 - psn w.1) np hts (goodIn_WS (fun _ h => h) c1) rfl rfl rfl (hts _ c2) (hts _ hlink) c4 ⟨hRf, by show 8 + (mL + 11) + 40 * d ≤ _; omega⟩
    exact va_runS (As := as.map (ptr ad ex)) (rest := rest.map (ptr ad ex)) ⟨hx, hb, hml, hown, hts⟩ hM ⟨hbase, hts _ (c6 rfl)⟩ ⟨pPc.blind D ad ca ex w _ _, hpre⟩ rfl hln hls hstk (lv_room (psum_le hsum)) hd hf
  · have hbase := va_cnB (R := R) (own := own) (index := idx) (rm := pRm d w w') (mc := w'.1 - w.1) (ms := psn w'.1 - psn w.1) np hts (goodIn_WS (fun _ h => h) c1) rfl rfl rfl hlink (hts _ c2) c4 ⟨hRf, by show 8 + (mL + 11) + 40 * d ≤ _; omega⟩
    exact va_runSN (As := as.map (ptr ad ex)) (rest := rest.map (ptr ad ex)) ⟨hx, hb, hml, hown, hts⟩ hM ⟨hbase, hts _ (c6 rfl), trivial⟩ ⟨pPc.blind D ad ca ex w _ _, hpre⟩ rfl hln hls hstk (lv_room (psum_le hsum)) hd hf
theorem pSt.callI (hx : p.tables.exec = Jvm.exec) (hb : c.code = cc) (hml : c.maxLocals = nL) (hts : ∀ w ∈ WS, w.before args s = true) (hown : s.vm.findClass own = some m.cls) (hA : ∀ q, s.heap.size ≤ q → A q) (hXt : pXt ex A s) {d : Nat} {C : pC} (hC : pSnd l d C) (hRf : d + 1 ≤ R.frames) (hRl : 40 * (d + 1) ≤ R.locals)
    {j idx : Nat} {yc : MethodName} {bs : ByteArray} {mL : Nat} {rt : Option FieldType} {np cn : Nat} {ws : List Nat} {T : pT} (hT : mTab j = some (yc, bs, mL, rt, np, 1, cn, ws, T)) (hlink : Cond.methodLink own idx yc ∈ WS ∨ va_Nw (.methodLinkNest own idx yc "StepAway") s) (hd : decode cc pc = .ok (.invokespecial idx, 3))
    {h : Nat} {as : List Value} {r : Option Value} (hcl : C j (.ref h :: as) w = some (r, w')) (hsplit : st = (.ref h :: as).reverse ++ rest) (hsum : psum rest ≤ 8) (hR1 : w'.1 - n0 ≤ R.cells) (hR2 : psn w'.1 - psn n0 ≤ R.slots) (k : pSt p l e R s m args below meth c Q nL n0 D A ex ad0 ca0 (pc + 3, L, r.toList ++ rest, w')) :
    pSt p l e R s m args below meth c Q nL n0 D A ex ad0 ca0 (pc, L, st, w) := by
  refine pSt.call hC hcl hsplit hsum hA hXt hR1 hR2 k (fun H locs cells slots ad ca ls y bs' mL' rt' np' kd' cn' ws' T' hT' hchk hlen hls hM hpre hI hf => ?_)
  rw [hT] at hT'
  cases hT'
  obtain ⟨c1, c2, -, c4, c5, -, c7, -⟩ := chkW_spec hchk
  obtain ⟨i1, i2, i3⟩ := c7 rfl
  subst i3
  have hstk : st.map (ptr ad ex) = (as.map (ptr ad ex)).reverse ++ .ref (ad h) :: rest.map (ptr ad ex) := by
    rw [hsplit, List.map_append, List.map_reverse]
    simp [ptr]
  have hln : (as.map (ptr ad ex)).length = np := by simpa using hlen
  rcases hlink with hlink | hlink
  · have hbase := callB_of (R := R) (own := own) (index := idx) (rm := pRm d w w') (mc := w'.1 - w.1) (ms := psn w'.1 - psn w.1) np hts (goodIn_WS (fun _ h => h) c1) rfl rfl rfl (hts _ c2) (hts _ hlink) c4 ⟨hRf, by show 8 + (mL + 11) + 40 * d ≤ _; omega⟩
    exact va_runI (As := as.map (ptr ad ex)) (rest := rest.map (ptr ad ex)) ⟨hx, hb, hml, hown, hts⟩ hM ⟨hbase, i2, hts _ i1⟩ ⟨pPc.blind D ad ca ex w _ _, hpre⟩ rfl hln hls hstk (lv_room (psum_le hsum)) hd hf
  · have hbase := va_cnB (R := R) (own := own) (index := idx) (rm := pRm d w w') (mc := w'.1 - w.1) (ms := psn w'.1 - psn w.1) np hts (goodIn_WS (fun _ h => h) c1) rfl rfl rfl hlink (hts _ c2) c4 ⟨hRf, by show 8 + (mL + 11) + 40 * d ≤ _; omega⟩
    exact va_runIN (As := as.map (ptr ad ex)) (rest := rest.map (ptr ad ex)) ⟨hx, hb, hml, hown, hts⟩ hM ⟨hbase, i2, hts _ i1⟩ ⟨pPc.blind D ad ca ex w _ _, hpre⟩ rfl hln hls hstk (lv_room (psum_le hsum)) hd hf
end
