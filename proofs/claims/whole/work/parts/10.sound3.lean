/-! THE PURE MACHINE IS SOUND, 3: fields and arrays -/
theorem uw_0 : ∀ w ∈ u_ws RX0 TX0 (nfd 0), w ∈ lw_tbl := by decide +kernel
theorem ug_0 : (u_ws RX0 TX0 (nfd 0)).all goodWord = true := by decide +kernel
theorem ui_0 : Cond.initialized RX0 ∈ lw_tbl := by decide +kernel
theorem uw_1 : ∀ w ∈ u_ws RX1 TX1 (nfd 1), w ∈ lw_tbl := by decide +kernel
theorem ug_1 : (u_ws RX1 TX1 (nfd 1)).all goodWord = true := by decide +kernel
theorem ui_1 : Cond.initialized RX1 ∈ lw_tbl := by decide +kernel
theorem uw_2 : ∀ w ∈ u_ws RX2 TX2 (nfd 2), w ∈ lw_tbl := by decide +kernel
theorem ug_2 : (u_ws RX2 TX2 (nfd 2)).all goodWord = true := by decide +kernel
theorem ui_2 : Cond.initialized RX2 ∈ lw_tbl := by decide +kernel
theorem uw_3 : ∀ w ∈ u_ws RX3 TX3 (nfd 3), w ∈ lw_tbl := by decide +kernel
theorem ug_3 : (u_ws RX3 TX3 (nfd 3)).all goodWord = true := by decide +kernel
theorem ui_3 : Cond.initialized RX3 ∈ lw_tbl := by decide +kernel
theorem uw_4 : ∀ w ∈ u_ws RX4 TX4 (nfd 4), w ∈ lw_tbl := by decide +kernel
theorem ug_4 : (u_ws RX4 TX4 (nfd 4)).all goodWord = true := by decide +kernel
theorem ui_4 : Cond.initialized RX4 ∈ lw_tbl := by decide +kernel
theorem uw_5 : ∀ w ∈ u_ws RX5 TX5 (nfd 5), w ∈ lw_tbl := by decide +kernel
theorem ug_5 : (u_ws RX5 TX5 (nfd 5)).all goodWord = true := by decide +kernel
theorem ui_5 : Cond.initialized RX5 ∈ lw_tbl := by decide +kernel
theorem uw_6 : ∀ w ∈ u_ws RX6 TX6 (nfd 6), w ∈ lw_tbl := by decide +kernel
theorem ug_6 : (u_ws RX6 TX6 (nfd 6)).all goodWord = true := by decide +kernel
theorem ui_6 : Cond.initialized RX6 ∈ lw_tbl := by decide +kernel
theorem uw_7 : ∀ w ∈ u_ws RX7 TX7 (nfd 7), w ∈ lw_tbl := by decide +kernel
theorem ug_7 : (u_ws RX7 TX7 (nfd 7)).all goodWord = true := by decide +kernel
theorem ui_7 : Cond.initialized RX7 ∈ lw_tbl := by decide +kernel
theorem uw_8 : ∀ w ∈ u_ws RX8 TX8 (nfd 8), w ∈ lw_tbl := by decide +kernel
theorem ug_8 : (u_ws RX8 TX8 (nfd 8)).all goodWord = true := by decide +kernel
theorem ui_8 : Cond.initialized RX8 ∈ lw_tbl := by decide +kernel
theorem uw_9 : ∀ w ∈ u_ws RX9 TX9 (nfd 9), w ∈ lw_tbl := by decide +kernel
theorem ug_9 : (u_ws RX9 TX9 (nfd 9)).all goodWord = true := by decide +kernel
theorem ui_9 : Cond.initialized RX9 ∈ lw_tbl := by decide +kernel
theorem uw_10 : ∀ w ∈ u_ws RX10 TX10 (nfd 10), w ∈ lw_tbl := by decide +kernel
theorem ug_10 : (u_ws RX10 TX10 (nfd 10)).all goodWord = true := by decide +kernel
theorem ui_10 : Cond.initialized RX10 ∈ lw_tbl := by decide +kernel
theorem uw_11 : ∀ w ∈ u_ws RX11 TX11 (nfd 11), w ∈ lw_tbl := by decide +kernel
theorem ug_11 : (u_ws RX11 TX11 (nfd 11)).all goodWord = true := by decide +kernel
theorem ui_11 : Cond.initialized RX11 ∈ lw_tbl := by decide +kernel
theorem inWS' {w : Cond} (h : w ∈ lw_tbl) (hg : goodWord w = true) : w ∈ WS := List.mem_filter.mpr ⟨h, hg⟩
theorem inWS_all {l : List Cond} (h : ∀ w ∈ l, w ∈ lw_tbl) (hg : l.all goodWord = true) : ∀ w ∈ l, w ∈ WS := fun w hw => inWS' (h w hw) (List.all_eq_true.mp hg w hw)
def clsOk (a : Nat) (C : String) (T : u_T) (N : Nat) : Prop := vwCl[a]? = some (C, T, N) ∧ pTT a = (C, T, N) ∧ nfd a = N ∧ (∀ w ∈ u_ws C T N, w ∈ WS) ∧ (∀ k, k < N → parseFieldDescriptor (T k).2.2.1 = some (fty a k)) ∧ (∀ x, x < N → ∀ y, y < N → x ≠ y → (T x).2.1 ≠ (T y).2.1) ∧ Cond.initialized C ∈ WS
theorem cls_ok (a : Nat) (ha : a < 12) : ∃ C T N, clsOk a C T N := by
  match a, ha with
  | 0, _ => exact ⟨RX0, TX0, _, rfl, rfl, rfl, inWS_all uw_0 ug_0, tyX0_ok, nmX0, inWS' ui_0 rfl⟩
  | 1, _ => exact ⟨RX1, TX1, _, rfl, rfl, rfl, inWS_all uw_1 ug_1, tyX1_ok, nmX1, inWS' ui_1 rfl⟩
  | 2, _ => exact ⟨RX2, TX2, _, rfl, rfl, rfl, inWS_all uw_2 ug_2, tyX2_ok, nmX2, inWS' ui_2 rfl⟩
  | 3, _ => exact ⟨RX3, TX3, _, rfl, rfl, rfl, inWS_all uw_3 ug_3, tyX3_ok, nmX3, inWS' ui_3 rfl⟩
  | 4, _ => exact ⟨RX4, TX4, _, rfl, rfl, rfl, inWS_all uw_4 ug_4, tyX4_ok, nmX4, inWS' ui_4 rfl⟩
  | 5, _ => exact ⟨RX5, TX5, _, rfl, rfl, rfl, inWS_all uw_5 ug_5, tyX5_ok, nmX5, inWS' ui_5 rfl⟩
  | 6, _ => exact ⟨RX6, TX6, _, rfl, rfl, rfl, inWS_all uw_6 ug_6, tyX6_ok, nmX6, inWS' ui_6 rfl⟩
  | 7, _ => exact ⟨RX7, TX7, _, rfl, rfl, rfl, inWS_all uw_7 ug_7, tyX7_ok, nmX7, inWS' ui_7 rfl⟩
  | 8, _ => exact ⟨RX8, TX8, _, rfl, rfl, rfl, inWS_all uw_8 ug_8, tyX8_ok, nmX8, inWS' ui_8 rfl⟩
  | 9, _ => exact ⟨RX9, TX9, _, rfl, rfl, rfl, inWS_all uw_9 ug_9, tyX9_ok, nmX9, inWS' ui_9 rfl⟩
  | 10, _ => exact ⟨RX10, TX10, _, rfl, rfl, rfl, inWS_all uw_10 ug_10, tyX10_ok, nmX10, inWS' ui_10 rfl⟩
  | 11, _ => exact ⟨RX11, TX11, _, rfl, rfl, rfl, inWS_all uw_11 ug_11, tyX11_ok, nmX11, inWS' ui_11 rfl⟩
section
variable {p : Program} {l : Launch} {e : Env} {R : Room} {s : State} {m : MethodId} {args : Array Value} {below : List Frame} {meth : Method} {c : Code} {Q : State → Prop} {nL n0 : Nat} {D : va_G} {A : Nat → Prop} {ex ad0 : Nat → Nat} {ca0 : Nat → ClassId}
variable {cc : ByteArray} {pc : Nat} {L : List (Option Value)} {r : List Value} {w : pW} {own : String}
theorem pE_obj {ad : Nat → Nat} {ca : Nat → ClassId} {w : pW} {h a : Nat} (hs : SHget h = some (.inr a)) : pE ad ca w h = .inr (a, (List.range (nfd a)).map (fun k => pfv ad w h (fty a k) k)) := by
  unfold pE
  rw [hs]
theorem pE_arr {ad : Nat → Nat} {ca : Nat → ClassId} {w : pW} {h n : Nat} {ty : FieldType} (hs : SHget h = some (.inl (ty, n))) : pE ad ca w h = .inl (ca h, n, pac ad w h ty) := by
  unfold pE
  rw [hs]
theorem pE_put {ad : Nat → Nat} {ca : Nat → ClassId} {w w' : pW} {h a b : Nat} {v : Value} (hs : SHget h = some (.inr a)) (hb : b < nfd a) (hv : pfv ad w' h (fty a b) b = v) (ho : ∀ k, k ≠ b → ∀ ty, pfv ad w' h ty k = pfv ad w h ty k) : pE ad ca w' h = .inr (a, ((List.range (nfd a)).map (fun k => pfv ad w h (fty a k) k)).set b v) := by
  rw [pE_obj hs]
  congr 2
  apply List.ext_getElem?
  intro i
  by_cases hi : i < nfd a
  · rw [List.getElem?_map, List.getElem?_range hi, List.getElem?_set]
    by_cases hbi : b = i
    · subst hbi
      rw [if_pos rfl, if_pos (by simpa using hi)]
      exact congrArg some hv
    · rw [if_neg hbi, List.getElem?_map, List.getElem?_range hi]
      exact congrArg some (ho i (Ne.symm hbi) _)
  · rw [List.getElem?_eq_none (by simp; omega), List.getElem?_eq_none (by simp; omega)]
theorem pSt.getf (hx : p.tables.exec = Jvm.exec) (hb : c.code = cc) (hts : ∀ w ∈ WS, w.before args s = true) (hown : s.vm.findClass own = some m.cls) {a b idx h : Nat} {v : Value} (ha : a < 12) (hbn : b < nfd a)
    (hw : Cond.fieldLink own idx ((pTT a).2.1 b).1 ((pTT a).2.1 b).2.1 ((pTT a).2.1 b).2.2.1 ∈ WS ∨ va_Nw (.fieldLinkNest own idx ((pTT a).2.1 b).1 ((pTT a).2.1 b).2.1 ((pTT a).2.1 b).2.2.1 "StepAway") s)
    (hs : psh w h = some (.inr a)) (hd : decode cc pc = .ok (.getfield idx, 3)) (hv : ∀ ad, ptr ad ex v = pfv ad w h (fty a b) b) (hok : pWf w → pVok w.1 v)
    (k : pSt p l e R s m args below meth c Q nL n0 D A ex ad0 ca0 (pc + 3, L, v :: r, w)) : pSt p l e R s m args below meth c Q nL n0 D A ex ad0 ca0 (pc, L, .ref h :: r, w) := by
  obtain ⟨hh, hsh⟩ := psh_spec hs
  obtain ⟨C, T, N, h1, h2, h3, h4, h5, h6, -⟩ := cls_ok a ha
  rw [h2] at hw
  refine pSt.go (fun hwf g1 g2 => ⟨fun u hu => (List.mem_cons.mp hu).elim (fun q => q ▸ hok hwf) (fun q => g1 u (List.mem_cons_of_mem _ q)), g2⟩) rfl k (fun H locs cells slots ad ca ls hI hl _ kk => ?_)
  have he : (pL ad ca w)[h]? = some (ad h, .inr (a, (List.range (nfd a)).map (fun k => pfv ad w h (fty a k) k))) := by rw [pL_get hh, pE_obj hsh]
  have hf : ((List.range (nfd a)).map (fun k => pfv ad w h (fty a k) k))[b]? = some (ptr ad ex v) := by
    rw [List.getElem?_map, List.getElem?_range hbn, hv]
    rfl
  rcases hw with hw | hw
  · exact va_get hx hb hts h4 hown hI.2.2.2.1.K0 hI.1 h he h1 b (by omega) (hts _ hw) (fun _ q => q) hf hd (kk ls hl)
  · exact va_getN hx hb hts h4 hown hI.2.2.2.1.K0 hI.1 h he h1 b (by omega) (va_Nw.use rfl hw) (fun _ q => q) hf hd (kk ls hl)
theorem pSt.putf (hx : p.tables.exec = Jvm.exec) (hb : c.code = cc) (hts : ∀ w ∈ WS, w.before args s = true) (hown : s.vm.findClass own = some m.cls) {a b idx h : Nat} {v : Value} {w' : pW} (ha : a < 12) (hbn : b < nfd a)
    (hw : Cond.fieldLink own idx ((pTT a).2.1 b).1 ((pTT a).2.1 b).2.1 ((pTT a).2.1 b).2.2.1 ∈ WS) (hfin : ((pTT a).2.1 b).2.2.2 = false ∨ (meth.name = "<init>" ∧ ((pTT a).2.1 b).1 = own))
    (hs : psh w h = some (.inr a)) (hd : decode cc pc = .ok (.putfield idx, 3)) (hn : ∀ ad, narrow (fty a b) (ptr ad ex v) = ptr ad ex v) (hfit : ∀ ad, fits (fty a b) (ptr ad ex v) = true)
    (h1' : w'.1 = w.1) (hv : ∀ ad, pfv ad w' h (fty a b) b = ptr ad ex v) (ho : ∀ ad k, k ≠ b → ∀ ty, pfv ad w' h ty k = pfv ad w h ty k) (hoo : ∀ x, x ≠ h → w'.2.1 x = w.2.1 x ∧ w'.2.2.1 x = w.2.2.1 x ∧ w'.2.2.2 x = w.2.2.2 x) (hwf : pWf w → pVok w.1 v → pWf w')
    (k : pSt p l e R s m args below meth c Q nL n0 D A ex ad0 ca0 (pc + 3, L, r, w')) : pSt p l e R s m args below meth c Q nL n0 D A ex ad0 ca0 (pc, L, v :: .ref h :: r, w) := by
  obtain ⟨hh, hsh⟩ := psh_spec hs
  obtain ⟨C, T, N, h1, h2, h3, h4, h5, h6, -⟩ := cls_ok a ha
  rw [h2] at hw hfin
  refine pSt.wr h1' (fun u hu => List.mem_cons_of_mem _ (List.mem_cons_of_mem _ hu)) (fun g1 g2 => hwf g1 (g2 v List.mem_cons_self)) k (fun H locs cells slots ad ca ls hI kk => ?_)
  have he : (pL ad ca w)[h]? = some (ad h, .inr (a, (List.range (nfd a)).map (fun k => pfv ad w h (fty a k) k))) := by rw [pL_get hh, pE_obj hsh]
  have hset : (pL ad ca w).set h (ad h, .inr (a, ((List.range (nfd a)).map (fun k => pfv ad w h (fty a k) k)).set b (ptr ad ex v))) = pL ad ca w' := pL_set h1' (pE_put hsh hbn (hv ad) (ho ad)) (fun x hx => pE_congr (hoo x hx).1 (hoo x hx).2.1 (hoo x hx).2.2)
  have hk : b < N := by omega
  have hlen : b < ((List.range (nfd a)).map (fun k => pfv ad w h (fty a k) k)).length := by simpa using hbn
  by_cases hfin2 : (T b).2.2.2 = false
  · exact va_put hx hb hts h4 (fty a) h5 h6 hown hI.2.2.2.1.K0 hI.1 hI.2.1 hI.2.2.1 h he h1 b hk (hts _ hw) (fun _ q => q) hfin2 (h5 b hk) (hn ad) (hfit ad) hlen hd (fun H1 locs1 g1 g2 g3 => kk H1 locs1 (hset ▸ g1) (hset ▸ g2) g3)
  · rcases hfin with q | ⟨q1, q2⟩
    · exact absurd q hfin2
    · exact va_putF hx hb hts h4 (fty a) h5 h6 hown hI.2.2.2.1.K0 hI.1 hI.2.1 hI.2.2.1 h he h1 b hk (hts _ hw) (fun _ q => q) (by simpa using hfin2) q1 q2 (h5 b hk) (hn ad) (hfit ad) hlen hd (fun H1 locs1 g1 g2 g3 => kk H1 locs1 (hset ▸ g1) (hset ▸ g2) g3)
end
