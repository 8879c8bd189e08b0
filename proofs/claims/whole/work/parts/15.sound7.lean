/-! THE PURE MACHINE IS SOUND, 7: what lies outside the world; calls -/
def pnst : Cond → Bool
  | .fieldLinkNest _ _ _ _ _ _ => true
  | .methodLinkNest _ _ _ _ => true
  | .arrayOver (.array _) => true
  | _ => false
def pXt (ex : Nat → Nat) (A : Nat → Prop) (U : State) : Prop :=
  (∀ w ∈ lw_tbl, pnst w = true → w.before #[] U = true) ∧ (∀ (own : String) (k : Nat) (tx : String) (t : Nat), Cond.stringRef own k tx ∈ lw_tbl → pTXT[t]? = some tx → vk_R own k tx (ex (t + 1)) U) ∧ (∀ t, t < 16 → ∃ adV : Nat → Nat, vk_S 1 [pLEN.getD t 0] [pSTR.getD t []] (fun _ => ex (t + 1)) adV A U U.heap) ∧ va_Z "java/lang/String" "COMPACT_STRINGS" "Z" (.int 1) A U U.heap ∧ va_Zq "jdk/internal/util/Preconditions" "SIOOBE_FORMATTER" "Ljava/util/function/BiFunction;" A U U.heap
theorem pnst_warm {w : Cond} (hw : pnst w = true) {s U : State} (hW : s.WarmedH U.vm) (h : w.before #[] s = true) : w.before #[] U = true := by
  match w, hw, h with
  | .fieldLinkNest _ _ _ _ _ _, _, h => exact va_Nw.warmF hW h
  | .methodLinkNest _ _ _ _, _, h => exact va_Nw.warmM hW h
  | .arrayOver (.array _), _, h => exact over_moved hW.alike h
theorem pXt.to {ex : Nat → Nat} {A B : Nat → Prop} {s U : State} {H : Heap} {locs : List Loc} (h : pXt ex A s) (hS : va_S A s.heap H locs) (hU : U.heap = H) (hW : s.WarmedH U.vm) (hB : ∀ q, B q → A q) : pXt ex B U := by
  have hk : ∀ a : Nat, a < s.heap.size → ¬ A a → U.heap[a]? = s.heap[a]? := fun a h1 h2 => by rw [hU]; exact hS.2.1 a h1 h2
  refine ⟨fun w hw hn => pnst_warm hn hW (h.1 w hw hn), fun own k tx t h1 h2 => (h.2.1 own k tx t h1 h2).warm hW, fun t ht => ?_, ((h.2.2.2.1.kept hk).moved hW.alike).narrow hB, ((h.2.2.2.2.kept hk).moved hW.alike).narrow hB⟩
  obtain ⟨adV, h3⟩ := h.2.2.1 t ht
  exact ⟨adV, ((h3.kept hk).moved hW.alike).narrow hB⟩
theorem pXt.blind {ex : Nat → Nat} {A : Nat → Prop} {U : State} (h : pXt ex A U) (g : JFrame) (mk : MethodId) (a : Array Value) : pXt ex A (U.calling g mk a) :=
  pXt.to (s := U) (U := U.calling g mk a) (H := U.heap) (locs := []) h va_S.rf rfl (State.WarmedH.refl U) (fun _ q => q)
def pPc (D : va_G) (ad : Nat → Nat) (ca : Nat → ClassId) (ex : Nat → Nat) (w : pW) (as : List Value) (sz : Nat) : Array Value → State → Prop := va_Pc (as.map (ptr ad ex)) (fun U => U.heap.size = sz ∧ va_P D vwCl (pL ad ca w) U.heap ∧ pKK D ca w.1 U ∧ va_D (fun _ => True) (pL ad ca w) ∧ pXt ex (va_A (pL ad ca w) sz) U)
def pQc (D : va_G) (ad : Nat → Nat) (ca : Nat → ClassId) (ex : Nat → Nat) (w w' : pW) (r : Option Value) (sz : Nat) : Array Value → State → Outcome → State → Prop := fun _ st oc t =>
  (∃ (ad' : Nat → Nat) (ca' : Nat → ClassId), (∀ h, h < w.1 → ad' h = ad h ∧ ca' h = ca h) ∧ oc = .returned (r.map (ptr ad' ex)) ∧ va_P D vwCl (pL ad' ca' w') t.heap ∧ pKK D ca' w'.1 t ∧ va_D (va_A (pL ad ca w) sz) (pL ad' ca' w')) ∧ va_F (va_A (pL ad ca w) sz) st t
theorem pPc.blind (D : va_G) (ad : Nat → Nat) (ca : Nat → ClassId) (ex : Nat → Nat) (w : pW) (as : List Value) (sz : Nat) : FrameBlind (pPc D ad ca ex w as sz) := by
  intro a U g mk h
  obtain ⟨h1, h2, h3, h4, h5, h6⟩ := h
  exact ⟨h1, h2, h3, pKK.moved (u := U) (U := U.calling g mk a) (Vm.Alike.refl U.vm) h4, h5, h6.blind g mk a⟩
def pRm (d : Nat) (w w' : pW) : Room := { frames := d, cells := w'.1 - w.1, slots := psn w'.1 - psn w.1, locals := 40 * d }
/-- a callee's meaning holds of the machine -/
def pSnd (l : Launch) (d : Nat) (C : pC) : Prop := ∀ (j : Nat) (as : List Value) (w w' : pW) (r : Option Value), C j as w = some (r, w') → pWf w → (∀ v ∈ as, pVok w.1 v) →
  w.1 ≤ w'.1 ∧ pWf w' ∧ (∀ v, r = some v → pVok w'.1 v) ∧ ∃ (y : MethodName) (bs : ByteArray) (nL : Nat) (rt : Option FieldType) (np kd cn : Nat) (ws : List Nat) (T : pT), mTab j = some (y, bs, nL, rt, np, kd, cn, ws, T) ∧ pchkW (y, bs, nL, rt, np, kd, cn, ws, T) = true ∧ as.length = (if kd = 0 then np else np + 1) ∧
    ∀ (D : va_G) (ad : Nat → Nat) (ca : Nat → ClassId) (ex : Nat → Nat) (sz : Nat), Met l y (.code y bs nL rt :: WS) (pRm d w w') (pPc D ad ca ex w as sz) (pQc D ad ca ex w w' r sz) (w'.1 - w.1) (psn w'.1 - psn w.1) (va_A (pL ad ca w) sz)
theorem WS_good {w : Cond} (h : w ∈ WS) : goodWord w = true := (List.mem_filter.mp h).2
theorem goodIn_WS {big : List Cond} {w : Cond} (hbig : ∀ v ∈ WS, v ∈ big) (hw : w ∈ WS) : GoodIn big (w :: WS) := fun v hv => by
  rcases List.mem_cons.mp hv with rfl | h
  · exact ⟨hbig _ hw, good_of_word (WS_good hw)⟩
  · exact ⟨hbig _ h, good_of_word (WS_good h)⟩
section
variable {p : Program} {l : Launch} {e : Env} {R : Room} {s : State} {m : MethodId} {args : Array Value} {below : List Frame} {meth : Method} {c : Code} {Q : State → Prop} {nL n0 : Nat} {D : va_G} {A : Nat → Prop} {ex ad0 : Nat → Nat} {ca0 : Nat → ClassId}
variable {cc : ByteArray} {pc : Nat} {L : List (Option Value)} {st rest : List Value} {w w' : pW} {own : String}
/-- behind a call -/
theorem pSt.ret {r : Option Value} {mc ms : Nat} {as9 : Array Value} {H : Heap} {locs : List Loc} {ad : Nat → Nat} {ca : Nat → ClassId} {ls : Array Slot} {st0 : List Value} {cells slots : Nat}
    (k : pSt p l e R s m args below meth c Q nL n0 D A ex ad0 ca0 (pc + 3, L, r.toList ++ rest, w')) (hI : pIn D ad ca w A s.heap H locs s) (hA : ∀ q, s.heap.size ≤ q → A q) (hl : lH (ptr ad ex) ls nL L) (hL : L.length = nL) (hs : ∀ v ∈ rest, pVok w.1 v) (hLk : pLok w.1 L) (hn0 : n0 ≤ w.1) (ha0 : ∀ h, h < n0 → ad h = ad0 h ∧ ca h = ca0 h)
    (hle : w.1 ≤ w'.1) (hwf : pWf w') (hrv : ∀ v, r = some v → pVok w'.1 v) (hc : cells + mc = w'.1 - n0) (hsl : slots + ms = psn w'.1 - psn n0)
    (hr : va_Run p l e R s m args below meth c H locs cells slots mc ms (F0 m pc ls st0) (rest.map (ptr ad ex)) (pQc D ad ca ex w w' r H.size as9) (va_A (pL ad ca w) H.size)) :
    W p l e R s m args below meth c H locs cells slots Q (F0 m pc ls st0) := by
  have hF : ∀ q, va_A (pL ad ca w) H.size q → A q := fun q h => by
    rcases h with ⟨k9, e9, h9⟩ | h9
    · exact hI.2.1.2 k9 _ h9
    · exact hA q (Nat.le_trans hI.2.2.1.1 h9)
  intro T hT X
  obtain ⟨v, st₀, t, T', L9, h0, X', hL9, e1, e2, ⟨⟨ad', ca', had, hv, hP, hK, hD⟩, hz, hk⟩, stp⟩ := hr T hT X
  cases hv
  rw [h0] at hz hk
  have hS' : va_S A s.heap T'.heap (locs ++ L9) := ⟨Nat.le_trans hI.2.2.1.1 (by rw [e1]; exact hz), fun q h1 h2 => by
    rw [e1, hk q (Nat.lt_of_lt_of_le h1 hI.2.2.1.1) (fun z => h2 (hF q z))]
    exact hI.2.2.1.2.1 q h1 h2, fun q hq => by
    rcases List.mem_append.mp hq with h | h
    · exact hI.2.2.1.2.2 q h
    · exact hF _ (hL9 q h)⟩
  have hKs : pKK D ca' w'.1 s := hK.moved (by rw [← e2]; exact X'.warmed.alike.symm)
  have h := k T'.heap (locs ++ L9) ad' ca' ls ⟨by rw [e1]; exact hP, hD.weaken (fun _ _ _ q => hF _ q), hS', hKs, hwf⟩ (hl.re (fun k v hv => ptr_eq (fun q hq => (had q hq).1) (hLk k v hv))) hL (fun v hv => by
    rcases List.mem_append.mp hv with q | q
    · exact hrv v (by cases r <;> simp at q; rw [q])
    · exact (hs v q).mono hle) (fun k v hv => (hLk k v hv).mono hle) (Nat.le_trans hn0 hle) (fun q hq => by
    obtain ⟨a1, a2⟩ := had q (by omega)
    obtain ⟨b1, b2⟩ := ha0 q hq
    exact ⟨a1.trans b1, a2.trans b2⟩)
  dsimp only at h
  rw [← hc, ← hsl, List.map_append, ptr_map (fun q hq => (had q hq).1) hs] at h
  have e9 : (r.map (ptr ad' ex)).toList ++ rest.map (ptr ad ex) = r.toList.map (ptr ad' ex) ++ rest.map (ptr ad ex) := by cases r <;> rfl
  obtain ⟨t2, a1, b1⟩ := h T' rfl X'
  refine ⟨t2, stp t2 ?_, b1⟩
  show Steps p.tables e below (T'.setTop (F0 m (pc + 3) ls ((r.map (ptr ad' ex)).toList ++ rest.map (ptr ad ex)))) t2
  rw [e9]
  exact a1
theorem psum_le {st : List Value} {ad ex : Nat → Nat} (h : psum st ≤ 8) : ((st.map (ptr ad ex)).map fun v => v.category).sum ≤ 8 := by
  have : ∀ l : List Value, ((l.map (ptr ad ex)).map fun v => v.category).sum = psum l := by
    intro l
    induction l with
    | nil => rfl
    | cons v r ih =>
      simp only [List.map_cons, List.sum_cons, ih, psum, ptr_cat]
      congr 1
      cases v <;> rfl
  rw [this]
  exact h
/-- a call, of any kind: what it needs of the callee's contract -/
theorem pSt.call {d j : Nat} {C : pC} {as : List Value} {r : Option Value} (hC : pSnd l d C) (hcl : C j as w = some (r, w')) (hsplit : st = as.reverse ++ rest) (hsum : psum rest ≤ 8) (hA : ∀ q, s.heap.size ≤ q → A q) (hXt : pXt ex A s)
    (hR1 : w'.1 - n0 ≤ R.cells) (hR2 : psn w'.1 - psn n0 ≤ R.slots) (k : pSt p l e R s m args below meth c Q nL n0 D A ex ad0 ca0 (pc + 3, L, r.toList ++ rest, w'))
    (hk : ∀ (H : Heap) (locs : List Loc) (cells slots : Nat) (ad : Nat → Nat) (ca : Nat → ClassId) (ls : Array Slot) (y : MethodName) (bs : ByteArray) (mL : Nat) (rt : Option FieldType) (np kd cn : Nat) (ws : List Nat) (T : pT), mTab j = some (y, bs, mL, rt, np, kd, cn, ws, T) → pchkW (y, bs, mL, rt, np, kd, cn, ws, T) = true → as.length = (if kd = 0 then np else np + 1) → ls.size = nL →
      Met l y (.code y bs mL rt :: WS) (pRm d w w') (pPc D ad ca ex w as H.size) (pQc D ad ca ex w w' r H.size) (w'.1 - w.1) (psn w'.1 - psn w.1) (va_A (pL ad ca w) H.size) → (∀ U : State, U.heap = H → s.WarmedH U.vm → pPc D ad ca ex w as H.size (as.map (ptr ad ex)).toArray U) → pIn D ad ca w A s.heap H locs s → cells + (w'.1 - w.1) ≤ R.cells ∧ slots + (psn w'.1 - psn w.1) ≤ R.slots →
      va_Run p l e R s m args below meth c H locs cells slots (w'.1 - w.1) (psn w'.1 - psn w.1) (F0 m pc ls (st.map (ptr ad ex))) (rest.map (ptr ad ex)) (pQc D ad ca ex w w' r H.size (as.map (ptr ad ex)).toArray) (va_A (pL ad ca w) H.size)) :
    pSt p l e R s m args below meth c Q nL n0 D A ex ad0 ca0 (pc, L, st, w) := by
  intro H locs ad ca ls hI hl hL hs hLk hn0 ha0
  dsimp only at hI hl hL hs hLk hn0 ⊢
  have has : ∀ v ∈ as, pVok w.1 v := fun v hv => hs v (by rw [hsplit]; exact List.mem_append_left _ (List.mem_reverse.mpr hv))
  obtain ⟨hle, hwf, hrv, y, bs, mL, rt, np, kd, cn, ws, T, hT, hchk, hlen, hM⟩ := hC j as w w' r hcl hI.2.2.2.2 has
  have hm := psn_mono hn0
  have hm2 := psn_mono hle
  have hF : ∀ q, va_A (pL ad ca w) H.size q → A q := fun q h => by
    rcases h with ⟨k9, e9, h9⟩ | h9
    · exact hI.2.1.2 k9 _ h9
    · exact hA q (Nat.le_trans hI.2.2.1.1 h9)
  refine pSt.ret (as9 := (as.map (ptr ad ex)).toArray) k hI hA hl hL (fun v hv => hs v (by rw [hsplit]; exact List.mem_append_right _ hv)) hLk hn0 ha0 hle hwf hrv (mc := w'.1 - w.1) (ms := psn w'.1 - psn w.1) (by omega) (by omega) ?_
  exact hk H locs _ _ ad ca ls y bs mL rt np kd cn ws T hT hchk hlen hl.1 (hM D ad ca ex H.size) (fun U hU hW => ⟨rfl, by rw [hU], by rw [hU]; exact hI.1, hI.2.2.2.1.moved hW.alike, hI.2.1.weaken (fun _ _ _ _ => trivial), hXt.to hI.2.2.1 hU hW hF⟩) hI ⟨by omega, by omega⟩
end
