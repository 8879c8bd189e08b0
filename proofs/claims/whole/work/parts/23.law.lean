/-! THE CLAIM OUT OF ONE WALK OF THE LAW'S BODY. Your part is whole_start (and what it stands on); all else here is the same for every law, but numbers. -/
def R_law : String := "StepAwayLaw"
def lw_P (b : Addr) (xs : List Int32) (args : Array Value) (s : State) : Prop := args = #[.ref b] ∧ s.IntsAt b xs ∧ xs.length ≤ 3072 ∧ (Jvm.Cond.and given_1 narrow_1).before args s = true
def lw_Q (_ : Array Value) (s : State) (o : Outcome) (t : State) : Prop := o = .returned (some (.int 1)) ∧ Framed s o t [] 600000 7302250
def lw_Z (below : List Frame) (a : Array Value) (s : State) : State → Prop := fun t => ∃ o, t.status = .running ∧ Ended t below o ∧ lw_Q a s o t
/-- the law's own end, with 1 on the stack, nothing written that was there before, its room as the claim has it -/
theorem lw_ret {p : Program} {l : Launch} {e : Env} {s : State} {m : MethodId} {below : List Frame} {meth : Method} {c : Code} {b : Nat} (hx : p.tables.exec = Jvm.exec) (hb : c.code = code) (hr : meth.sig.returnType = ret) (hlocks : meth.locks = false) {pc : Nat} {H : Heap} {ls : Array Slot} (hdg : decode code pc = .ok (.ireturn, 1)) : W p l e room_1 s m #[Value.ref b] below meth c H [] 600000 7302250 (lw_Z below #[Value.ref b] s) (F0 m pc ls [.int 1]) := by
  intro T hT X
  obtain ⟨fs, hret, hrun, hended, hW, hframe⟩ := X.leave (v := some (.int 1)) (hlocks := hlocks) (fun h => by rw [hr] at h; cases h)
  have hmeth' : T.vm.method? m = some meth := X.method'
  refine ⟨T.setFrames fs, ?_, .returned (some (.int 1)), hrun, hended, rfl, ⟨_, rfl⟩, hW, hframe⟩
  jvm_step X.here [X.here.top, hx, hb, hdg, hmeth', hr, ret, narrow_b1]
  (try refine ⟨rfl, ?_⟩); (try refine ⟨rfl, ?_⟩)
  first | (intro acts; rw [hret _ acts rfl rfl rfl]) | rw [hret _ _ rfl rfl rfl]
  exact Steps.refl _
/-- what holds at the law's entry: the machine, the code, the tables' words (any of lw_tbl by 'hts w (by decide +kernel)'), the script of L ints xs at the cell b, what the Statement gives of the start (any of its parts by flat_of_before) -/
def lw_At (p : Program) (s : State) (m : MethodId) (meth : Method) (c : Code) (b L : Nat) (xs : Nat → Int32) : Prop :=
  p.tables.exec = Jvm.exec ∧ c.code = code ∧ meth.sig.returnType = ret ∧ c.maxLocals = 4 ∧ s.vm.findClass R_law = some m.cls ∧ (∀ w ∈ lw_tbl, w.before #[Value.ref b] s = true) ∧ va_X b L xs s s.heap ∧ b < s.heap.size ∧ meth.locks = false ∧ (Jvm.Cond.and given_1 narrow_1).before #[Value.ref b] s = true
def sRd : List Nat := [49, 80, 162, 178, 88, 93, 98, 111, 115, 120, 125, 197, 201, 203, 130, 207]
def sMd : List Nat := [213, 137, 98, 109, 142, 148, 150, 156, 161, 166, 171, 128, 130, 132, 176, 181]
abbrev tmR (t : Nat) : Term := .string "StepAway$Reader" (sRd.getD t 0)
abbrev tmM (t : Nat) : Term := .string "StepAwayModel" (sMd.getD t 0)
abbrev fxS : List Cond := flatC (Jvm.Cond.and given_1 narrow_1)
theorem fx_ex : ∀ t, t < 16 → Cond.exactly (tmR t) "java/lang/String" ∈ fxS := by decide +kernel
theorem fx_co : ∀ t, t < 16 → Cond.eq (.field (tmR t) "java/lang/String" "coder" "B") (.int 0) ∈ fxS := by decide +kernel
theorem fx_ar : ∀ t, t < 16 → Cond.arrayOf (.field (tmR t) "java/lang/String" "value" "[B") .byte ∈ fxS := by decide +kernel
theorem fx_le : ∀ t, t < 16 → Cond.eq (.length (.field (tmR t) "java/lang/String" "value" "[B")) (.int (Int32.ofNat (pLEN.getD t 0))) ∈ fxS := by decide +kernel
theorem fx_el : ∀ t, t < 16 → ∀ j, j < pLEN.getD t 0 → Cond.eq (.elem (.field (tmR t) "java/lang/String" "value" "[B") (.int (Int32.ofNat j))) (.int ((pSTR.getD t []).getD j 0)) ∈ fxS := by decide +kernel
theorem fx_eq : ∀ t, t < 16 → Cond.eq (tmR t) (tmM t) ∈ fxS := by decide +kernel
theorem fx_cs : Cond.eq (.static "java/lang/String" "COMPACT_STRINGS" "Z") (.int 1) ∈ fxS := by decide +kernel
theorem fx_si : Cond.isRef (.static "jdk/internal/util/Preconditions" "SIOOBE_FORMATTER" "Ljava/util/function/BiFunction;") ∈ fxS := by decide +kernel
theorem fw_cs : Cond.laysStatic "java/lang/String" "COMPACT_STRINGS" "Z" ∈ lw_tbl := by decide +kernel
theorem fw_si : Cond.laysStatic "jdk/internal/util/Preconditions" "SIOOBE_FORMATTER" "Ljava/util/function/BiFunction;" ∈ lw_tbl := by decide +kernel
/-- which string each reference of the pool is -/
def sIs (o : String) (k t : Nat) : Bool := (decide (o = "StepAway$Reader") && decide (k = sRd.getD t 0)) || (decide (o = "StepAwayModel") && decide (k = sMd.getD t 0))
def sChk (w : Cond) : Bool := match w with
  | .stringRef o k tx => (List.range 16).all (fun t => !(decide (pTXT[t]? = some tx)) || sIs o k t)
  | _ => true
theorem fw_str : lw_tbl.all sChk = true := by decide +kernel
theorem pTXT_lt {t : Nat} {tx : String} (h : pTXT[t]? = some tx) : t < 16 := (List.getElem?_eq_some_iff.mp h).1
theorem pnst_args {w : Cond} (h : pnst w = true) {A : Array Value} {s : State} (hb : w.before A s = true) : w.before #[] s = true := by
  match w, h, hb with
  | .fieldLinkNest _ _ _ _ _ _, _, hb => exact va_tabs rfl rfl hb
  | .methodLinkNest _ _ _ _, _, hb => exact va_tabs rfl rfl hb
  | .arrayOver (.array _), _, hb => exact over_moved (Vm.Alike.refl _) hb
theorem law_xt {s : State} {b : Nat} {A : Nat → Prop} (hts : ∀ w ∈ lw_tbl, w.before #[Value.ref b] s = true) (hgv : (Jvm.Cond.and given_1 narrow_1).before #[Value.ref b] s = true) (hA : ∀ a : Nat, a < s.heap.size → ¬ A a) : ∃ ex : Nat → Nat, ex 0 = b ∧ pXt ex A s := by
  have hf := flat_of_before _ hgv
  have h1 : ∀ t : Nat, ∃ a : Nat, t < 16 → (tmR t).eval #[Value.ref b] s none [] s = some (.ref a) ∧ ∃ adV : Nat → Nat, vk_S 1 [pLEN.getD t 0] [pSTR.getD t []] (fun _ => a) adV A s s.heap := by
    intro t
    by_cases ht : t < 16
    · obtain ⟨adK, adV, h2, h3⟩ := vk_Sof (args := #[Value.ref b]) (s := s) (N := 1) (tm := fun _ => tmR t) (len := [pLEN.getD t 0]) (byt := [pSTR.getD t []]) (A := A) (fun i hi => by rw [show i = 0 by omega]; have := (pSTR_ok t ht).1; show pLEN.getD t 0 < _; omega) (fun i hi => hf _ (fx_ex t ht)) (fun i hi => hf _ (fx_co t ht)) (fun i hi => hf _ (fx_ar t ht)) (fun i hi => by rw [show i = 0 by omega]; exact hf _ (fx_le t ht)) (fun i hi j hj => by
        rw [show i = 0 by omega] at hj ⊢
        exact hf _ (fx_el t ht j hj)) (fun i j hi hj hij => absurd (show i = j by omega) hij) hA
      have h4 := h3 0 (by decide)
      have e : (fun _ : Nat => adK 0) = fun _ => adK 0 := rfl
      refine ⟨adK 0, fun _ => ⟨h4, adV, ⟨fun i hi => ?_, fun i j hi hj _ => by omega⟩⟩⟩
      rw [show i = 0 by omega]
      exact h2.1 0 (by decide)
    · exact ⟨0, fun h => absurd h ht⟩
  obtain ⟨ad, had⟩ := Classical.axiomOfChoice h1
  refine ⟨fun n => if n = 0 then b else ad (n - 1), by simp, fun w hw hn => pnst_args hn (hts w hw), fun own k tx t hw ht => ?_, fun t ht => ?_, va_Zof (hts _ fw_cs) (hts _ (List.mem_filter.mp ws_i1).1) (va_eqi (hf _ fx_cs)) hA, va_Zqof (hts _ fw_si) (hts _ (List.mem_filter.mp ws_i3).1) (hf _ fx_si) hA⟩
  · have h16 := pTXT_lt ht
    have hc := List.all_eq_true.mp fw_str _ hw
    have hs : sIs own k t = true := by
      have h2 := List.all_eq_true.mp hc t (List.mem_range.mpr h16)
      simpa [ht] using h2
    have hev : (Term.string own k).eval #[Value.ref b] s none [] s = some (.ref (ad t)) := by
      unfold sIs at hs
      simp only [Bool.or_eq_true, Bool.and_eq_true, decide_eq_true_eq] at hs
      rcases hs with ⟨rfl, rfl⟩ | ⟨rfl, rfl⟩
      · exact (had t h16).1
      · exact va_eqR (hf _ (fx_eq t h16)) (had t h16).1
    have := vk_R.of (hts _ hw) hev
    simpa using this
  · simpa using (had t ht).2
theorem law_cls {s : State} {b : Nat} (hts : ∀ w ∈ lw_tbl, w.before #[Value.ref b] s = true) : ∃ D : va_G, ∀ (k : Nat) (q : vw_C), vwCl[k]? = some q → u_Kn s q.1 q.2.1 q.2.2 (D.1 k) (D.2 k) := by
  have h1 : ∀ k : Nat, ∃ x : ClassId × (Nat → Nat), ∀ q : vw_C, vwCl[k]? = some q → u_Kn s q.1 q.2.1 q.2.2 x.1 x.2 := by
    intro k
    match k with
    | 0 =>
      obtain ⟨c9, i9, h9⟩ := u_known (C := RX0) (T := TX0) (N := 11) (n := 11) hts uw_0 (hts (.instantiable RX0 11) (by decide +kernel))
      exact ⟨(c9, i9), fun q hq => by cases hq; exact h9⟩
    | 1 =>
      obtain ⟨c9, i9, h9⟩ := u_known (C := RX1) (T := TX1) (N := 9) (n := 9) hts uw_1 (hts (.instantiable RX1 9) (by decide +kernel))
      exact ⟨(c9, i9), fun q hq => by cases hq; exact h9⟩
    | 2 =>
      obtain ⟨c9, i9, h9⟩ := u_known (C := RX2) (T := TX2) (N := 4) (n := 4) hts uw_2 (hts (.instantiable RX2 4) (by decide +kernel))
      exact ⟨(c9, i9), fun q hq => by cases hq; exact h9⟩
    | 3 =>
      obtain ⟨c9, i9, h9⟩ := u_known (C := RX3) (T := TX3) (N := 5) (n := 5) hts uw_3 (hts (.instantiable RX3 5) (by decide +kernel))
      exact ⟨(c9, i9), fun q hq => by cases hq; exact h9⟩
    | 4 =>
      obtain ⟨c9, i9, h9⟩ := u_known (C := RX4) (T := TX4) (N := 16) (n := 16) hts uw_4 (hts (.instantiable RX4 16) (by decide +kernel))
      exact ⟨(c9, i9), fun q hq => by cases hq; exact h9⟩
    | 5 =>
      obtain ⟨c9, i9, h9⟩ := u_known (C := RX5) (T := TX5) (N := 7) (n := 7) hts uw_5 (hts (.instantiable RX5 7) (by decide +kernel))
      exact ⟨(c9, i9), fun q hq => by cases hq; exact h9⟩
    | 6 =>
      obtain ⟨c9, i9, h9⟩ := u_known (C := RX6) (T := TX6) (N := 7) (n := 7) hts uw_6 (hts (.instantiable RX6 7) (by decide +kernel))
      exact ⟨(c9, i9), fun q hq => by cases hq; exact h9⟩
    | 7 =>
      obtain ⟨c9, i9, h9⟩ := u_known (C := RX7) (T := TX7) (N := 8) (n := 8) hts uw_7 (hts (.instantiable RX7 8) (by decide +kernel))
      exact ⟨(c9, i9), fun q hq => by cases hq; exact h9⟩
    | 8 =>
      obtain ⟨c9, i9, h9⟩ := u_known (C := RX8) (T := TX8) (N := 2) (n := 2) hts uw_8 (hts (.instantiable RX8 2) (by decide +kernel))
      exact ⟨(c9, i9), fun q hq => by cases hq; exact h9⟩
    | 9 =>
      obtain ⟨c9, i9, h9⟩ := u_known (C := RX9) (T := TX9) (N := 5) (n := 5) hts uw_9 (hts (.instantiable RX9 5) (by decide +kernel))
      exact ⟨(c9, i9), fun q hq => by cases hq; exact h9⟩
    | 10 =>
      obtain ⟨c9, i9, h9⟩ := u_known (C := RX10) (T := TX10) (N := 9) (n := 9) hts uw_10 (hts (.instantiable RX10 9) (by decide +kernel))
      exact ⟨(c9, i9), fun q hq => by cases hq; exact h9⟩
    | 11 =>
      obtain ⟨c9, i9, h9⟩ := u_known (C := RX11) (T := TX11) (N := 79) (n := 79) hts uw_11 (hts (.instantiable RX11 79) (by decide +kernel))
      exact ⟨(c9, i9), fun q hq => by cases hq; exact h9⟩
    | k + 12 => exact ⟨(0, fun _ => 0), fun q hq => by simp [vwCl] at hq⟩
  obtain ⟨f, hf⟩ := Classical.axiomOfChoice h1
  exact ⟨(fun k => (f k).1, fun k => (f k).2), hf⟩
def w00 : pW := (0, fun _ _ => 0, fun _ _ => 0, fun _ _ => none)
def lawPure : Prop := ∀ (L : Nat) (xs : Nat → Int32), L ≤ 3072 → ∃ w' : pW, w'.1 ≤ 176 ∧ den (some (L, xs)) (Mean 40) (some .boolean) tQ_L_law (0, [some (.retAddr 0), none, none, none], [], w00) = some (some (.int 1), w')
theorem psn_176 : psn 176 ≤ 7302250 := by decide +kernel
set_option maxHeartbeats 1000000 in
/-- THE LAW, out of what the pure machine says of it -/
theorem whole_start_open (hpure : lawPure) (hall : ∀ x ∈ mTabs, okM x) (hlaw : tQ_L_law.all (pchkR yL_law cL_law) = true) {p : Program} {e : Env} {s : State} {m : MethodId} {below : List Frame} {meth : Method} {c : Code} (l : Launch) {b L : Nat} {xs : Nat → Int32} (hL : L ≤ 3072) (C0 : lw_At p s m meth c b L xs) : W p l e room_1 s m #[Value.ref b] below meth c s.heap [] 0 0 (lw_Z below #[Value.ref b] s) (entryFrame m ([Value.ref b] : List Value).toArray 4) := by
  obtain ⟨hx, hb, hr, hml, hown, hts, hX, hbl, hlocks, hgv⟩ := id C0
  obtain ⟨D, hD⟩ := law_cls hts
  obtain ⟨ex, hex0, hXt⟩ := law_xt (A := fun q : Nat => s.heap.size ≤ q) hts hgv (fun a ha h => absurd h (Nat.not_le.mpr ha))
  obtain ⟨w', hw', hden⟩ := hpure L xs hL
  obtain ⟨n, hn⟩ := den_iter hden
  have hS := Mean_snd (str_ok l) hall 40
  have hCx : pCx p l room_1 s m #[Value.ref b] meth c 4 (fun q : Nat => s.heap.size ≤ q) ex yL_law cL_law 40 (Mean 40) (some (L, xs)) := ⟨hx, hb, hml, fun w hw => hts w (List.mem_filter.mp hw).1, hown, fun _ h => h, hXt, hS, by decide, by decide, fun h => absurd h (by decide), fun n9 xs9 h9 => by
    cases h9
    rw [hex0]
    exact ⟨hX, hbl, Nat.not_le.mpr hbl⟩⟩
  have hgd : pGd w00 [] [some (.retAddr 0), none, none, none] := ⟨fun h k r hr => (by cases hr), fun v hv => absurd hv List.not_mem_nil, fun k v hv => by
    match k, hv with
    | 0, hv => cases hv; exact trivial
    | 1, hv => cases hv
    | 2, hv => cases hv
    | 3, hv => cases hv
    | k + 4, hv => cases hv⟩
  have hps := psn_mono hw'
  have hp176 := psn_176
  have key : pSt p l e room_1 s m #[Value.ref b] below meth c (lw_Z below #[Value.ref b] s) 4 0 D (fun q : Nat => s.heap.size ≤ q) ex (fun _ => 0) (fun _ => 0) (0, [some (.retAddr 0), none, none, none], [], w00) := by
    refine pwalk (n0 := 0) hCx hlaw (r := some (.int 1)) (w' := w') (by show w'.1 - 0 ≤ 600000; omega) (by show psn w'.1 - psn 0 ≤ 7302250; omega) (fun f hf => ?_) n _ hn hgd
    obtain ⟨pc, L9, st, w9⟩ := f
    obtain ⟨i, len, a, b9, q, v, hm, hs⟩ := pst_spec hf
    obtain ⟨hd, hck⟩ := chkR_spec (List.all_eq_true.mp hlaw _ hm)
    obtain ⟨e9, hc⟩ := pstep_ret hs
    dsimp only at e9 hc hd hck
    subst e9
    intro H locs ad' ca' ls' hI hl' hL' hs' hLk' hn' ha'
    dsimp only at hI ⊢
    rcases hc with ⟨rfl, x, rfl, hr1, hrt⟩ | ⟨-, x, -, hr1, -⟩ | ⟨-, x, n9, -, hr1, -⟩ | ⟨-, -, hr1, -⟩
    · cases hr1
      have hl1 : len = 1 := beq_nat hck
      subst hl1
      refine va_forget (fun q hq => hI.2.2.1.2.2 q hq) ?_
      exact W.widen (k := 600000) (n := 7302250) (by omega) (by omega) (lw_ret hx hb hr hlocks hd)
    · cases hr1
    · cases hr1
    · cases hr1
  have hl := lv_entry ([.ref b]) (n := 4) (Nat.le_of_ble_eq_true rfl)
  rw [lg_entry_eq]
  generalize (lg_sl ([.ref b]) ++ List.replicate (4 - (lg_sl ([.ref b])).length) Slot.unset).toArray = ls at hl ⊢
  have hl : lv_has ls 4 [(0, .ref b)] := hl
  have hlH : lH (ptr (fun _ => 0) ex) ls 4 [some (.retAddr 0), none, none, none] := ⟨hl.1, hl.2.1, fun k v hv => by
    match k, hv with
    | 0, hv =>
      cases hv
      show ls[0]? = some (.val (.ref (ex 0)))
      rw [hex0]
      exact lv_at hl 0 rfl
    | 1, hv => cases hv
    | 2, hv => cases hv
    | 3, hv => cases hv
    | k + 4, hv => cases hv⟩
  exact key s.heap [] (fun _ => 0) (fun _ => 0) ls ⟨fun k q h => by simp [pL, w00] at h, ⟨fun i j x y h => by simp [pL, w00] at h, fun k q h => by simp [pL, w00] at h⟩, va_S.rf, ⟨hD, fun h ty N hh => by cases hh⟩, hgd.1⟩ hlH rfl (fun v hv => absurd hv List.not_mem_nil) hgd.2.2 (Nat.le_refl _) (fun h hh => by omega)
