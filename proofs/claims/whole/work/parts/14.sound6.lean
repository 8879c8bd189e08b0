/-! THE PURE MACHINE IS SOUND, 6: new arrays of arrays -/
theorem prows_spec : ∀ (n h : Nat) (x : pS), prows h x n = true → ∀ i, i < n → SHget (h + i) = some x
  | 0, h, x, _, i, hi => by omega
  | n + 1, h, x, hp, i, hi => by
    simp only [prows, Bool.and_eq_true, decide_eq_true_eq] at hp
    cases i with
    | zero => exact hp.1
    | succ i =>
      have := prows_spec n (h + 1) x hp.2 i (by omega)
      rwa [show h + 1 + i = h + (i + 1) by omega] at this
theorem psn_rows : ∀ (n h K : Nat) (ty : FieldType), (∀ i, i < n → SHget (h + i) = some (.inl (ty, K))) → psn (h + n) = psn h + n * K
  | 0, h, K, ty, _ => by simp
  | n + 1, h, K, ty, hs => by
    have h1 := psn_rows n h K ty (fun i hi => hs i (by omega))
    have h2 : psn (h + n + 1) = psn (h + n) + K := by
      show psn (h + n) + _ = _
      rw [hs n (by omega)]
    rw [show h + (n + 1) = h + n + 1 by omega, h2, h1, Nat.succ_mul]
    omega
theorem pnws_spec : ∀ (n : Nat) (w : pW), (pnws n w).1 = w.1 + n ∧ (∀ a, a < w.1 → (pnws n w).2.1 a = w.2.1 a ∧ (pnws n w).2.2.1 a = w.2.2.1 a ∧ (pnws n w).2.2.2 a = w.2.2.2 a) ∧ ∀ a, w.1 ≤ a → a < w.1 + n → (pnws n w).2.1 a = (fun _ => 0) ∧ (pnws n w).2.2.1 a = (fun _ => 0) ∧ (pnws n w).2.2.2 a = fun _ => none
  | 0, w => ⟨rfl, fun a _ => ⟨rfl, rfl, rfl⟩, fun a h1 h2 => by omega⟩
  | n + 1, w => by
    obtain ⟨h1, h2, h3⟩ := pnws_spec n (pnw w)
    have hr : ∀ {α : Type} (g : Nat → Nat → α) (z : α) (a : Nat), a ≠ w.1 → u1 g w.1 z a = g a := fun g z a ha => by
      funext b
      simp [u1, ha]
    have hz : ∀ {α : Type} (g : Nat → Nat → α) (z : α), u1 g w.1 z w.1 = fun _ => z := fun g z => by
      funext b
      simp [u1]
    refine ⟨by show (pnws n (pnw w)).1 = _; rw [h1]; show w.1 + 1 + n = _; omega, fun a ha => ?_, fun a h4 h5 => ?_⟩
    · obtain ⟨a1, a2, a3⟩ := h2 a (by show a < w.1 + 1; omega)
      exact ⟨a1.trans (hr _ _ a (by omega)), a2.trans (hr _ _ a (by omega)), a3.trans (hr _ _ a (by omega))⟩
    · by_cases he : a = w.1
      · subst he
        obtain ⟨a1, a2, a3⟩ := h2 w.1 (by show w.1 < w.1 + 1; omega)
        exact ⟨a1.trans (hz _ _), a2.trans (hz _ _), a3.trans (hz _ _)⟩
      · exact h3 a (by show w.1 + 1 ≤ a; omega) (by show a < w.1 + 1 + n; omega)
def pgrid (N : Nat) (w : pW) : pW := ((pnws (N + 1) w).1, (pnws (N + 1) w).2.1, (pnws (N + 1) w).2.2.1, fun a b => if a = w.1 then (if b < N then some (w.1 + 1 + b) else none) else (pnws (N + 1) w).2.2.2 a b)
section
variable {p : Program} {l : Launch} {e : Env} {R : Room} {s : State} {m : MethodId} {args : Array Value} {below : List Frame} {meth : Method} {c : Code} {Q : State → Prop} {nL n0 : Nat} {D : va_G} {A : Nat → Prop} {ex ad0 : Nat → Nat} {ca0 : Nat → ClassId}
variable {cc : ByteArray} {pc : Nat} {L : List (Option Value)} {st r : List Value} {w : pW} {own : String}
theorem pSt.newgrid (hx : p.tables.exec = Jvm.exec) (hb : c.code = cc) (hts : ∀ w ∈ WS, w.before args s = true) (hown : s.vm.findClass own = some m.cls) (hA : ∀ q, s.heap.size ≤ q → A q) {ty : FieldType} {idx N K : Nat} {n k : Int32} (hty : ty = .int ∨ ty = .long) (hw1 : Cond.classLink own idx ("[" ++ (FieldType.array ty).toString) ∈ WS) (hw2 : Cond.arrayClass ty ∈ WS) (hw3 : (Cond.arrayOver (.array ty)).before #[] s = true)
    (hsh : SHget w.1 = some (.inl (.array ty, N))) (hrows : ∀ i, i < N → SHget (w.1 + 1 + i) = some (.inl (ty, K))) (hn : ¬ n < 0) (hk : ¬ k < 0) (hN : n.toNatClampNeg = N) (hK : k.toNatClampNeg = K) (hb1 : N ≤ 100000) (hb2 : K ≤ 100000) (hR1 : w.1 + (N + 1) - n0 ≤ R.cells) (hR2 : psn (w.1 + (N + 1)) - psn n0 ≤ R.slots) (hd : decode cc pc = .ok (.multianewarray idx 2, 4))
    (kk : pSt p l e R s m args below meth c Q nL n0 D A ex ad0 ca0 (pc + 4, L, .ref w.1 :: r, pgrid N w)) : pSt p l e R s m args below meth c Q nL n0 D A ex ad0 ca0 (pc, L, .int k :: .int n :: r, w) := by
  intro H locs ad ca ls hI hl hL hs hLk hn0 ha
  dsimp only at hI hl hL hs hLk hn0 ⊢
  have hm := psn_mono hn0
  have hps : psn (w.1 + (N + 1)) = psn w.1 + (N + N * K) := by
    have h1 := psn_rows N (w.1 + 1) K ty hrows
    rw [show w.1 + (N + 1) = w.1 + 1 + N by omega, h1]
    show psn w.1 + _ + _ = _
    rw [hsh]
    simp only
    omega
  obtain ⟨cy, kY, compY, y1, y2, y3⟩ := Cond.arrayClass_spec (hts _ hw2)
  have hcy : s.vm.findClass (FieldType.array ty).toString = some cy := y1
  have hYA : ArrOfT s cy ty := fun N9 z9 => ⟨(fun q hq => by cases hq), kY, y2, compY, y3⟩
  have hYR : va_RA s cy ty := by rcases hty with rfl | rfl <;> exact y1
  obtain ⟨g1, g2, g3⟩ := pnws_spec (N + 1) w
  have hz : ∃ z : (Nat → Int32) ⊕ (Nat → Int64) ⊕ (Nat → UInt32) ⊕ (Nat → UInt64) ⊕ (Nat → Option Nat), (∀ c : ClassId, Jvm.Free.Multi.innerC c K (defaultValue ty) = vp_cell c (K, z)) ∧ ∀ (ad' : Nat → Nat) (w' : pW) (h : Nat), w'.2.1 h = (fun _ => 0) → w'.2.2.1 h = (fun _ => 0) → pac ad' w' h ty = z := by
    rcases hty with rfl | rfl
    · exact ⟨.inl (fun _ => 0), fun c => by show ({ cls := c, slots := Array.replicate K (.int 0), vm := .none } : Cell) = _; rw [arrV_new]; rfl, fun ad' w' h e1 e2 => by show Sum.inl (w'.2.1 h) = _; rw [e1]⟩
    · exact ⟨.inr (.inl (fun _ => 0)), fun c => by show ({ cls := c, slots := Array.replicate K (.long 0), vm := .none } : Cell) = _; rw [arrV_new]; rfl, fun ad' w' h e1 e2 => by show Sum.inr (Sum.inl (w'.2.2.1 h)) = _; rw [e2]⟩
  obtain ⟨z, hz1, hz2⟩ := hz
  refine va_mna (X := pL ad ca w) (L := []) (f := fun _ => .inr (0, [])) (z := (K, z)) hx hb hown (hts _ hw1) hw3 (hts _ hw2) hcy hI.2.2.2.1.K0 (by rw [show va_pl [] (fun _ => (.inr (0, []) : va_E)) = [] from rfl, List.append_nil]; exact hI.1) (by rw [show va_pl [] (fun _ => (.inr (0, []) : va_E)) = [] from rfl, List.append_nil]; exact hI.2.1) hI.2.2.1 hA hn hk hN hK (by omega) (by rcases hty with rfl | rfl <;> (show K * _ ≤ _) <;> simp [componentBytes] <;> omega) (by omega) (by rcases hty with rfl | rfl <;> rfl) (by rcases hty with rfl | rfl <;> rfl) (by omega) (by omega) hz1 hd (fun q rr cA H1 hinj _ hK1 hP1 hD1 hS1 => ?_)
  have hrw : va_pl (([] : List Nat) ++ (List.range N).map rr) (vr_up (fun _ => (.inr (0, []) : va_E)) ((List.range N).map rr) (.inl (cy, K, z))) = (List.range N).map (fun i => (rr i, .inl (cy, K, z))) := by
    unfold va_pl
    rw [List.nil_append, List.map_map]
    apply List.map_congr_left
    intro i hi
    show (rr i, vr_up _ _ _ (rr i)) = _
    rw [vr_up_in (List.mem_map.mpr ⟨i, hi, rfl⟩)]
  rw [hrw] at hP1 hD1
  generalize had' : (fun j => if j = w.1 then q else if w.1 < j then rr (j - w.1 - 1) else ad j) = ad'
  generalize hca' : (fun j => if j = w.1 then cA else if w.1 < j then cy else ca j) = ca'
  have hold : ∀ h, h < w.1 → ad' h = ad h ∧ ca' h = ca h := fun h hh => by
    rw [← had', ← hca']
    simp [show ¬ h = w.1 by omega, show ¬ w.1 < h by omega]
  have hq : ad' w.1 = q ∧ ca' w.1 = cA := by
    rw [← had', ← hca']
    simp
  have hrr : ∀ i, ad' (w.1 + 1 + i) = rr i ∧ ca' (w.1 + 1 + i) = cy := fun i => by
    rw [← had', ← hca']
    simp only [show ¬ w.1 + 1 + i = w.1 by omega, if_false, show w.1 < w.1 + 1 + i by omega, if_true]
    exact ⟨by rw [show w.1 + 1 + i - w.1 - 1 = i by omega], trivial⟩
  have hw1' : (pgrid N w).1 = w.1 + (N + 1) := g1
  have hrow3 : ∀ a, a ≠ w.1 → (pgrid N w).2.2.2 a = (pnws (N + 1) w).2.2.2 a := fun a ha => by
    funext b
    show (if a = w.1 then _ else _) = _
    rw [if_neg ha]
  have hpe : ∀ h, h < w.1 → pE ad' ca' (pgrid N w) h = pE ad ca w h := fun h hh => pE_old hI.2.2.2.2 (fun j hj => (hold j hj).1) (hold h hh).2 (g2 h hh).1 (g2 h hh).2.1 ((hrow3 h (by omega)).trans (g2 h hh).2.2)
  have hp0 : pE ad' ca' (pgrid N w) w.1 = .inl (cA, N, .inr (.inr (.inr (.inr (fun i => if i < N then some (rr i) else none))))) := by
    rw [pE_arr hsh, hq.2]
    congr 3
    show Sum.inr (Sum.inr (Sum.inr (Sum.inr (fun i => ((pgrid N w).2.2.2 w.1 i).map ad')))) = _
    congr 4
    funext i
    show (if w.1 = w.1 then (if i < N then some (w.1 + 1 + i) else none) else _ : Option Nat).map ad' = _
    rw [if_pos rfl]
    by_cases hi : i < N
    · rw [if_pos hi, if_pos hi]
      exact congrArg some (hrr i).1
    · rw [if_neg hi, if_neg hi]
      rfl
  have hpi : ∀ i, i < N → pE ad' ca' (pgrid N w) (w.1 + 1 + i) = .inl (cy, K, z) := fun i hi => by
    rw [pE_arr (hrows i hi), (hrr i).2, hz2 ad' (pgrid N w) _ (g3 (w.1 + 1 + i) (by omega) (by omega)).1 (g3 (w.1 + 1 + i) (by omega) (by omega)).2.1]
  have hpl : pL ad' ca' (pgrid N w) = (pL ad ca w ++ [(q, .inl (cA, N, .inr (.inr (.inr (.inr (fun i => if i < N then some (rr i) else none))))))]) ++ (List.range N).map (fun i => (rr i, .inl (cy, K, z))) := by
    rw [pL_app (w := w) (k := N + 1) hw1' (fun h hh => ⟨(hold h hh).1, hpe h hh⟩), List.append_assoc]
    congr 1
    rw [List.range_succ_eq_map, List.map_cons, List.map_map]
    show (ad' (w.1 + 0), pE ad' ca' (pgrid N w) (w.1 + 0)) :: _ = (q, _) :: _
    rw [Nat.add_zero, hq.1, hp0]
    congr 1
    apply List.map_congr_left
    intro i hi
    have hi' := List.mem_range.mp hi
    show (ad' (w.1 + (i + 1)), pE ad' ca' (pgrid N w) (w.1 + (i + 1))) = _
    rw [show w.1 + (i + 1) = w.1 + 1 + i by omega, (hrr i).1, hpi i hi']
  have hin : pIn D ad' ca' (pgrid N w) A s.heap H1 locs s := by
    refine ⟨by rw [hpl]; exact hP1, by rw [hpl]; exact hD1, hS1, ⟨hI.2.2.2.1.1, fun h ty9 N9 hh hs9 => ?_⟩, fun a b t ht => ?_⟩
    · rw [hw1'] at hh
      by_cases he : h < w.1
      · rw [(hold h he).2]
        exact hI.2.2.2.1.2 h ty9 N9 he hs9
      · by_cases he2 : h = w.1
        · subst he2
          rw [hsh] at hs9
          cases hs9
          rw [hq.2]
          exact hK1.2 0 (cA, .array ty) rfl
        · have hi : h = w.1 + 1 + (h - w.1 - 1) := by omega
          rw [hi] at hs9 ⊢
          rw [hrows (h - w.1 - 1) (by omega)] at hs9
          cases hs9
          rw [(hrr _).2]
          exact ⟨hYA, hYR⟩
    · rw [hw1']
      by_cases he : a = w.1
      · subst he
        have ht' : (if w.1 = w.1 then (if b < N then some (w.1 + 1 + b) else none) else (pnws (N + 1) w).2.2.2 w.1 b) = some t := ht
        rw [if_pos rfl] at ht'
        by_cases hb' : b < N
        · rw [if_pos hb'] at ht'
          cases ht'
          omega
        · rw [if_neg hb'] at ht'; cases ht'
      · rw [hrow3 a he] at ht
        by_cases hlt : a < w.1
        · rw [(g2 a hlt).2.2] at ht
          have := hI.2.2.2.2 a b t ht
          omega
        · by_cases hub : a < w.1 + (N + 1)
          · rw [(g3 a (by omega) hub).2.2] at ht
            cases ht
          · have : ∀ (n : Nat) (u : pW) (x : Nat), u.1 + n ≤ x → (pnws n u).2.2.2 x = u.2.2.2 x := by
              intro n
              induction n with
              | zero => intro u x _; rfl
              | succ n ih =>
                intro u x hx9
                rw [show pnws (n + 1) u = pnws n (pnw u) from rfl, ih (pnw u) x (by show u.1 + 1 + n ≤ x; omega)]
                funext b9
                show u1 u.2.2.2 u.1 none x b9 = _
                simp [u1, show ¬ x = u.1 by omega]
            rw [this (N + 1) w a (by omega)] at ht
            have := hI.2.2.2.2 a b t ht
            omega
  have h := pSt.grow (k := N + 1) (w' := pgrid N w) (ad := ad) (ca := ca) kk hw1' (by omega) hold hin hl hL (fun v hv => hs v (List.mem_cons_of_mem _ (List.mem_cons_of_mem _ hv))) hLk hn0 ha
  have e1 : (pgrid N w).1 - n0 = w.1 - n0 + 1 + N := by rw [hw1']; omega
  have e2 : psn (pgrid N w).1 - psn n0 = psn w.1 - psn n0 + N + N * K := by rw [hw1', hps]; omega
  rw [e1, e2, hq.1] at h
  exact h
end
