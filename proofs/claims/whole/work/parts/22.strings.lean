/-! THE TWO METHODS OF String THAT THE PROGRAM CALLS, over its constants -/
abbrev bS_len : ByteArray := prog_16_method_54_code
abbrev bS_cod : ByteArray := prog_16_method_152_code
abbrev bS_chr : ByteArray := prog_16_method_56_code
abbrev bS_lat : ByteArray := prog_16_method_154_code
abbrev bS_lch : ByteArray := prog_17_method_2_code
abbrev bS_cki : ByteArray := prog_16_method_155_code
abbrev bS_pre : ByteArray := prog_20_method_11_code
def yS_len : MethodName := ⟨"java/lang/String", "length", "()I"⟩
def yS_cod : MethodName := ⟨"java/lang/String", "coder", "()B"⟩
def yS_chr : MethodName := ⟨"java/lang/String", "charAt", "(I)C"⟩
def yS_lat : MethodName := ⟨"java/lang/String", "isLatin1", "()Z"⟩
def yS_lch : MethodName := ⟨"java/lang/StringLatin1", "charAt", "([BI)C"⟩
def yS_cki : MethodName := ⟨"java/lang/String", "checkIndex", "(II)V"⟩
def yS_pre : MethodName := ⟨"jdk/internal/util/Preconditions", "checkIndex", "(IILjava/util/function/BiFunction;)I"⟩
theorem ws_len : Cond.code yS_len bS_len 1 (some .int) ∈ WS := inWS' (by decide +kernel) (by decide +kernel)
theorem ws_cod : Cond.code yS_cod bS_cod 1 (some .byte) ∈ WS := inWS' (by decide +kernel) (by decide +kernel)
theorem ws_chr : Cond.code yS_chr bS_chr 2 (some .char) ∈ WS := inWS' (by decide +kernel) (by decide +kernel)
theorem ws_lat : Cond.code yS_lat bS_lat 1 (some .boolean) ∈ WS := inWS' (by decide +kernel) (by decide +kernel)
theorem ws_lch : Cond.code yS_lch bS_lch 2 (some .char) ∈ WS := inWS' (by decide +kernel) (by decide +kernel)
theorem ws_cki : Cond.code yS_cki bS_cki 2 none ∈ WS := inWS' (by decide +kernel) (by decide +kernel)
theorem ws_pre : Cond.code yS_pre bS_pre 3 (some .int) ∈ WS := inWS' (by decide +kernel) (by decide +kernel)
theorem ws_i1 : Cond.initialized "java/lang/String" ∈ WS := inWS' (by decide +kernel) (by decide +kernel)
theorem ws_i2 : Cond.initialized "java/lang/StringLatin1" ∈ WS := inWS' (by decide +kernel) (by decide +kernel)
theorem ws_i3 : Cond.initialized "jdk/internal/util/Preconditions" ∈ WS := inWS' (by decide +kernel) (by decide +kernel)
theorem ws_f1 : Cond.fieldLink "java/lang/String" 38 "java/lang/String" "COMPACT_STRINGS" "Z" ∈ WS := inWS' (by decide +kernel) (by decide +kernel)
theorem ws_f2 : Cond.fieldLink "java/lang/String" 15 "java/lang/String" "coder" "B" ∈ WS := inWS' (by decide +kernel) (by decide +kernel)
theorem ws_f3 : Cond.fieldLink "java/lang/String" 9 "java/lang/String" "value" "[B" ∈ WS := inWS' (by decide +kernel) (by decide +kernel)
theorem ws_f4 : Cond.fieldLink "java/lang/String" 1053 "jdk/internal/util/Preconditions" "SIOOBE_FORMATTER" "Ljava/util/function/BiFunction;" ∈ WS := inWS' (by decide +kernel) (by decide +kernel)
theorem ws_m1 : Cond.methodLink "java/lang/String" 335 yS_cod ∈ WS := inWS' (by decide +kernel) (by decide +kernel)
theorem ws_m2 : Cond.methodLink "java/lang/String" 492 yS_lat ∈ WS := inWS' (by decide +kernel) (by decide +kernel)
theorem ws_m3 : Cond.methodLink "java/lang/String" 495 yS_lch ∈ WS := inWS' (by decide +kernel) (by decide +kernel)
theorem ws_m4 : Cond.methodLink "java/lang/StringLatin1" 9 yS_cki ∈ WS := inWS' (by decide +kernel) (by decide +kernel)
theorem ws_m5 : Cond.methodLink "java/lang/String" 1059 yS_pre ∈ WS := inWS' (by decide +kernel) (by decide +kernel)
theorem ws_n1 : Cond.instanceMethod yS_cod ∈ WS := inWS' (by decide +kernel) (by decide +kernel)
theorem ws_n2 : Cond.instanceMethod yS_lat ∈ WS := inWS' (by decide +kernel) (by decide +kernel)
theorem ws_s1 : Cond.selects "java/lang/String" yS_cod yS_cod ∈ WS := inWS' (by decide +kernel) (by decide +kernel)
theorem ws_s2 : Cond.selects "java/lang/String" yS_lat yS_lat ∈ WS := inWS' (by decide +kernel) (by decide +kernel)
theorem ws_t1 : Cond.static yS_lch ∈ WS := inWS' (by decide +kernel) (by decide +kernel)
theorem ws_t2 : Cond.static yS_cki ∈ WS := inWS' (by decide +kernel) (by decide +kernel)
theorem ws_t3 : Cond.static yS_pre ∈ WS := inWS' (by decide +kernel) (by decide +kernel)
theorem eS_cod_0 : decode bS_cod 0 = .ok (.getstatic 38, 3) := by decide +kernel
theorem eS_cod_3 : decode bS_cod 3 = .ok (.ifCond .eq 10, 3) := by decide +kernel
theorem eS_cod_6 : decode bS_cod 6 = .ok (.aload_n 0, 1) := by decide +kernel
theorem eS_cod_7 : decode bS_cod 7 = .ok (.getfield 15, 3) := by decide +kernel
theorem eS_cod_10 : decode bS_cod 10 = .ok (.goto 4, 3) := by decide +kernel
theorem eS_cod_14 : decode bS_cod 14 = .ok (.ireturn, 1) := by decide +kernel
theorem eS_lat_0 : decode bS_lat 0 = .ok (.getstatic 38, 3) := by decide +kernel
theorem eS_lat_3 : decode bS_lat 3 = .ok (.ifCond .eq 14, 3) := by decide +kernel
theorem eS_lat_6 : decode bS_lat 6 = .ok (.aload_n 0, 1) := by decide +kernel
theorem eS_lat_7 : decode bS_lat 7 = .ok (.getfield 15, 3) := by decide +kernel
theorem eS_lat_10 : decode bS_lat 10 = .ok (.ifCond .ne 7, 3) := by decide +kernel
theorem eS_lat_13 : decode bS_lat 13 = .ok (.iconst 1, 1) := by decide +kernel
theorem eS_lat_14 : decode bS_lat 14 = .ok (.goto 4, 3) := by decide +kernel
theorem eS_lat_18 : decode bS_lat 18 = .ok (.ireturn, 1) := by decide +kernel
theorem eS_len_0 : decode bS_len 0 = .ok (.aload_n 0, 1) := by decide +kernel
theorem eS_len_1 : decode bS_len 1 = .ok (.getfield 9, 3) := by decide +kernel
theorem eS_len_4 : decode bS_len 4 = .ok (.arraylength, 1) := by decide +kernel
theorem eS_len_5 : decode bS_len 5 = .ok (.aload_n 0, 1) := by decide +kernel
theorem eS_len_6 : decode bS_len 6 = .ok (.invokevirtual 335, 3) := by decide +kernel
theorem eS_len_9 : decode bS_len 9 = .ok (.ishr, 1) := by decide +kernel
theorem eS_len_10 : decode bS_len 10 = .ok (.ireturn, 1) := by decide +kernel
theorem eS_pre_0 : decode bS_pre 0 = .ok (.iload_n 0, 1) := by decide +kernel
theorem eS_pre_1 : decode bS_pre 1 = .ok (.ifCond .lt 8, 3) := by decide +kernel
theorem eS_pre_4 : decode bS_pre 4 = .ok (.iload_n 0, 1) := by decide +kernel
theorem eS_pre_5 : decode bS_pre 5 = .ok (.iload_n 1, 1) := by decide +kernel
theorem eS_pre_6 : decode bS_pre 6 = .ok (.if_icmp .lt 10, 3) := by decide +kernel
theorem eS_pre_16 : decode bS_pre 16 = .ok (.iload_n 0, 1) := by decide +kernel
theorem eS_pre_17 : decode bS_pre 17 = .ok (.ireturn, 1) := by decide +kernel
theorem eS_cki_0 : decode bS_cki 0 = .ok (.iload_n 0, 1) := by decide +kernel
theorem eS_cki_1 : decode bS_cki 1 = .ok (.iload_n 1, 1) := by decide +kernel
theorem eS_cki_2 : decode bS_cki 2 = .ok (.getstatic 1053, 3) := by decide +kernel
theorem eS_cki_5 : decode bS_cki 5 = .ok (.invokestatic 1059, 3) := by decide +kernel
theorem eS_cki_8 : decode bS_cki 8 = .ok (.pop, 1) := by decide +kernel
theorem eS_cki_9 : decode bS_cki 9 = .ok (.return_, 1) := by decide +kernel
theorem eS_lch_0 : decode bS_lch 0 = .ok (.iload_n 1, 1) := by decide +kernel
theorem eS_lch_1 : decode bS_lch 1 = .ok (.aload_n 0, 1) := by decide +kernel
theorem eS_lch_2 : decode bS_lch 2 = .ok (.arraylength, 1) := by decide +kernel
theorem eS_lch_3 : decode bS_lch 3 = .ok (.invokestatic 9, 3) := by decide +kernel
theorem eS_lch_6 : decode bS_lch 6 = .ok (.aload_n 0, 1) := by decide +kernel
theorem eS_lch_7 : decode bS_lch 7 = .ok (.iload_n 1, 1) := by decide +kernel
theorem eS_lch_8 : decode bS_lch 8 = .ok (.baload, 1) := by decide +kernel
theorem eS_lch_9 : decode bS_lch 9 = .ok (.sipush 255, 3) := by decide +kernel
theorem eS_lch_12 : decode bS_lch 12 = .ok (.iand, 1) := by decide +kernel
theorem eS_lch_13 : decode bS_lch 13 = .ok (.i2c, 1) := by decide +kernel
theorem eS_lch_14 : decode bS_lch 14 = .ok (.ireturn, 1) := by decide +kernel
theorem eS_chr_0 : decode bS_chr 0 = .ok (.aload_n 0, 1) := by decide +kernel
theorem eS_chr_1 : decode bS_chr 1 = .ok (.invokevirtual 492, 3) := by decide +kernel
theorem eS_chr_4 : decode bS_chr 4 = .ok (.ifCond .eq 12, 3) := by decide +kernel
theorem eS_chr_7 : decode bS_chr 7 = .ok (.aload_n 0, 1) := by decide +kernel
theorem eS_chr_8 : decode bS_chr 8 = .ok (.getfield 9, 3) := by decide +kernel
theorem eS_chr_11 : decode bS_chr 11 = .ok (.iload_n 1, 1) := by decide +kernel
theorem eS_chr_12 : decode bS_chr 12 = .ok (.invokestatic 495, 3) := by decide +kernel
theorem eS_chr_15 : decode bS_chr 15 = .ok (.ireturn, 1) := by decide +kernel
/-- what a string's walk stands on, in a form that calls keep -/
def pXs (ex : Nat → Nat) (A : Nat → Prop) (as : List Value) : Array Value → State → Prop := va_Pc as (fun U => pXt ex A U)
theorem pXs.blind (ex : Nat → Nat) (A : Nat → Prop) (as : List Value) : FrameBlind (pXs ex A as) := fun a U g mk h => ⟨h.1, h.2.blind g mk a⟩
theorem pXs.at {ex : Nat → Nat} {A : Nat → Prop} {as : List Value} {s U : State} (h : pXt ex A s) (hU : U.heap = s.heap) (hW : s.WarmedH U.vm) : pXs ex A as as.toArray U := ⟨rfl, h.to (H := s.heap) (locs := []) va_S.rf hU hW (fun _ q => q)⟩
abbrev rmS (f l : Nat) : Room := { frames := f, cells := 0, slots := 0, locals := l }
set_option maxHeartbeats 1000000 in
theorem cS_cod (l : Launch) (ex : Nat → Nat) (A : Nat → Prop) (t : Nat) (ht : t < 16) : Met l yS_cod (.code yS_cod bS_cod 1 (some .byte) :: WS) (rmS 0 0) (pXs ex A [.ref (ex (t + 1))]) (vp_Si (fun r => r = 0)) 0 0 (fun _ => False) := by
  refine Met.ofW (cc := bS_cod) (maxL := 1) (ret := some .byte) (by decide +kernel) rfl ?_
  intro p e s m args below meth c s₁ B hml hv
  obtain ⟨rfl, hXt⟩ := hv
  have hx := B.exec
  have hb := B.bytes
  have hr := B.returns
  have hts := atoms_spec (ws := .code yS_cod bS_cod 1 (some .byte) :: WS) B.pre
  have hown : s.vm.findClass "java/lang/String" = some m.cls := findClass_of_methodNamed B.named
  have hlocks := B.notSynchronized
  obtain ⟨adV, hE⟩ := hXt.2.2.1 t ht
  have hl := lv_entry ([.ref (ex (t + 1))]) (n := 1) (Nat.le_of_ble_eq_true rfl)
  rw [lg_entry_eq]
  generalize (lg_sl ([.ref (ex (t + 1))]) ++ List.replicate (1 - (lg_sl ([.ref (ex (t + 1))])).length) Slot.unset).toArray = ls at hl ⊢
  have hl : lv_has ls 1 [(0, .ref (ex (t + 1)))] := hl
  refine va_gets hx hb hXt.2.2.2.1 va_S.rf hown (hts _ (List.mem_cons_of_mem _ ws_f1)) (fun _ h => h) eS_cod_0 ?_
  refine lv_if_eq (tgt := 13) hx hb eS_cod_3 (by decide) (fun q => absurd q (by decide)) (fun _ => ?_)
  refine lv_aload_n hx hb eS_cod_6 rfl (lv_at hl 0 rfl) ?_
  refine vk_getf hx hb (hE.1 0 (by decide)).2.1 va_S.rf hown (hts _ (List.mem_cons_of_mem _ ws_f2)) (fun _ h => h) eS_cod_7 ?_
  refine lv_goto (tgt := 14) hx hb eS_cod_10 (by decide) ?_
  exact W.zret (v := 0) hx hb hr rfl (fun t ht hW => ⟨0, rfl, rfl, ht⟩) (fun q hq => by cases hq) eS_cod_14 hlocks
set_option maxHeartbeats 1000000 in
theorem cS_lat (l : Launch) (ex : Nat → Nat) (A : Nat → Prop) (t : Nat) (ht : t < 16) : Met l yS_lat (.code yS_lat bS_lat 1 (some .boolean) :: WS) (rmS 0 0) (pXs ex A [.ref (ex (t + 1))]) (vp_Si (fun r => r = 1)) 0 0 (fun _ => False) := by
  refine Met.ofW (cc := bS_lat) (maxL := 1) (ret := some .boolean) (by decide +kernel) rfl ?_
  intro p e s m args below meth c s₁ B hml hv
  obtain ⟨rfl, hXt⟩ := hv
  have hx := B.exec
  have hb := B.bytes
  have hr := B.returns
  have hts := atoms_spec (ws := .code yS_lat bS_lat 1 (some .boolean) :: WS) B.pre
  have hown : s.vm.findClass "java/lang/String" = some m.cls := findClass_of_methodNamed B.named
  have hlocks := B.notSynchronized
  obtain ⟨adV, hE⟩ := hXt.2.2.1 t ht
  have hl := lv_entry ([.ref (ex (t + 1))]) (n := 1) (Nat.le_of_ble_eq_true rfl)
  rw [lg_entry_eq]
  generalize (lg_sl ([.ref (ex (t + 1))]) ++ List.replicate (1 - (lg_sl ([.ref (ex (t + 1))])).length) Slot.unset).toArray = ls at hl ⊢
  have hl : lv_has ls 1 [(0, .ref (ex (t + 1)))] := hl
  refine va_gets hx hb hXt.2.2.2.1 va_S.rf hown (hts _ (List.mem_cons_of_mem _ ws_f1)) (fun _ h => h) eS_lat_0 ?_
  refine lv_if_eq (tgt := 17) hx hb eS_lat_3 (by decide) (fun q => absurd q (by decide)) (fun _ => ?_)
  refine lv_aload_n hx hb eS_lat_6 rfl (lv_at hl 0 rfl) ?_
  refine vk_getf hx hb (hE.1 0 (by decide)).2.1 va_S.rf hown (hts _ (List.mem_cons_of_mem _ ws_f2)) (fun _ h => h) eS_lat_7 ?_
  refine lv_if_ne (tgt := 17) hx hb eS_lat_10 (by decide) (fun q => absurd rfl q) (fun _ => ?_)
  refine lv_iconst (v := 1) hx hb eS_lat_13 (by decide) ?_
  refine lv_goto (tgt := 18) hx hb eS_lat_14 (by decide) ?_
  exact W.zret (v := 1) hx hb hr rfl (fun t ht hW => ⟨1, rfl, rfl, ht⟩) (fun q hq => by cases hq) eS_lat_18 hlocks
set_option maxHeartbeats 1000000 in
theorem cS_pre (l : Launch) (ex : Nat → Nat) (A : Nat → Prop) (i n : Int32) (v : Value) (hv0 : v = .null ∨ ∃ a, v = .ref a) (h0 : ¬ i < 0) (h1 : i < n) : Met l yS_pre (.code yS_pre bS_pre 3 (some .int) :: WS) (rmS 0 0) (pXs ex A [.int i, .int n, v]) (vp_Si (fun _ => True)) 0 0 (fun _ => False) := by
  refine Met.ofW (cc := bS_pre) (maxL := 3) (ret := some .int) (by decide +kernel) rfl ?_
  intro p e s m args below meth c s₁ B hml hv
  obtain ⟨rfl, hXt⟩ := hv
  have hx := B.exec
  have hb := B.bytes
  have hr := B.returns
  have hlocks := B.notSynchronized
  have hcat : v.category = 1 := by rcases hv0 with rfl | ⟨a, rfl⟩ <;> rfl
  have hsl : lg_sl [.int i, .int n, v] = [.val (.int i), .val (.int n), .val v] := by
    rcases hv0 with rfl | ⟨a, rfl⟩ <;> rfl
  have hl := lv_entry ([.int i, .int n, v]) (n := 3) (by rw [hsl]; exact Nat.le_refl 3)
  rw [lg_entry_eq]
  generalize (lg_sl ([.int i, .int n, v]) ++ List.replicate (3 - (lg_sl ([.int i, .int n, v])).length) Slot.unset).toArray = ls at hl ⊢
  have hl : lv_has ls 3 [(0, .int i), (1, .int n)] := lv_sub hl [0, 1] rfl
  refine lv_iload_n hx hb eS_pre_0 rfl (lv_at hl 0 rfl) ?_
  refine lv_if_lt (tgt := 9) hx hb eS_pre_1 (by decide) (fun q => absurd q h0) (fun _ => ?_)
  refine lv_iload_n hx hb eS_pre_4 rfl (lv_at hl 0 rfl) ?_
  refine lv_iload_n hx hb eS_pre_5 rfl (lv_at hl 1 rfl) ?_
  refine lv_icmp_lt (tgt := 16) hx hb eS_pre_6 (by decide) (fun _ => ?_) (fun q => absurd h1 q)
  refine lv_iload_n hx hb eS_pre_16 rfl (lv_at hl 0 rfl) ?_
  exact W.iret (v := i) hx hb hr (fun t ht hW => ⟨i, rfl, trivial, ht⟩) (fun q hq => by cases hq) eS_pre_17 hlocks
set_option maxHeartbeats 1000000 in
theorem cS_cki (l : Launch) (ex : Nat → Nat) (A : Nat → Prop) (i n : Int32) (h0 : ¬ i < 0) (h1 : i < n) : Met l yS_cki (.code yS_cki bS_cki 2 none :: WS) (rmS 1 40) (pXs ex A [.int i, .int n]) (va_Sv (fun _ => True)) 0 0 (fun _ => False) := by
  refine Met.ofW (cc := bS_cki) (maxL := 2) (ret := none) (by decide +kernel) rfl ?_
  intro p e s m args below meth c s₁ B hml hv
  obtain ⟨rfl, hXt⟩ := hv
  have hx := B.exec
  have hb := B.bytes
  have hr := B.returns
  have hts := atoms_spec (ws := .code yS_cki bS_cki 2 none :: WS) B.pre
  have htw : ∀ w ∈ WS, w.before _ s = true := fun w h => hts w (List.mem_cons_of_mem _ h)
  have hown : s.vm.findClass "java/lang/String" = some m.cls := findClass_of_methodNamed B.named
  have hlocks := B.notSynchronized
  have hl := lv_entry ([.int i, .int n]) (n := 2) (Nat.le_of_ble_eq_true rfl)
  rw [lg_entry_eq]
  generalize (lg_sl ([.int i, .int n]) ++ List.replicate (2 - (lg_sl ([.int i, .int n])).length) Slot.unset).toArray = ls at hl ⊢
  have hl : lv_has ls 2 [(0, .int i), (1, .int n)] := hl
  refine lv_iload_n hx hb eS_cki_0 rfl (lv_at hl 0 rfl) ?_
  refine lv_iload_n hx hb eS_cki_1 rfl (lv_at hl 1 rfl) ?_
  have key : ∀ v : Value, (v = .null ∨ ∃ a, v = .ref a) → va_Z "jdk/internal/util/Preconditions" "SIOOBE_FORMATTER" "Ljava/util/function/BiFunction;" v A s s.heap → W p l e (headSpec (.code yS_cki bS_cki 2 none :: WS) (rmS 1 40)).room s m ([.int i, .int n] : List Value).toArray below meth c s.heap [] 0 0 (MQ below (va_Sv (fun _ => True)) ([.int i, .int n] : List Value).toArray s 0 0 (fun _ => False)) (F0 m 2 ls [.int n, .int i]) := by
    intro v hv0 hZ
    have hcat : v.category = 1 := by rcases hv0 with rfl | ⟨a, rfl⟩ <;> rfl
    refine va_gets hx hb hZ va_S.rf hown (htw _ ws_f4) (fun _ h => h) eS_cki_2 ?_
    have hbase := callB_of (R := (headSpec (.code yS_cki bS_cki 2 none :: WS) (rmS 1 40)).room) (own := "java/lang/String") (index := 1059) (rm := rmS 0 0) (mc := 0) (ms := 0) 3 htw (goodIn_WS (fun _ h => h) ws_pre) rfl rfl rfl (htw _ ws_i3) (htw _ ws_m5) (by decide +kernel) ⟨by decide, by decide⟩
    refine vp_callSi (W.runS (As := [.int i, .int n, v]) (rest := []) ⟨hx, hb, hml, hown, htw⟩ (cS_pre l ex A i n v hv0 h0 h1) ⟨hbase, htw _ ws_t3⟩ ⟨pXs.blind _ _ _, fun U hU hW => pXs.at hXt hU hW⟩ rfl rfl hl.1 rfl (lv_room (by decide)) eS_cki_5 ⟨by decide, by decide⟩) (fun r _ => ?_)
    refine lv_pop hx hb eS_cki_8 rfl ?_
    exact W.vret hx hb hr (fun t ht hW => ⟨rfl, trivial, ht⟩) (fun q hq => by cases hq) eS_cki_9 hlocks
  rcases hXt.2.2.2.2 with hz | ⟨a, hz⟩
  · exact key .null (Or.inl rfl) hz
  · exact key (.ref a) (Or.inr ⟨a, rfl⟩) hz
set_option maxHeartbeats 1000000 in
theorem cS_lch (l : Launch) (ex : Nat → Nat) (A : Nat → Prop) (q N : Nat) (f : Nat → Int32) (i : Int32) (hN : N < 100) (hin : ¬ (i < 0 ∨ N ≤ i.toNatClampNeg)) (hch : ((f i.toNatClampNeg &&& 255).toUInt32 % 65536).toInt32 = f i.toNatClampNeg ∧ narrow .char (.int (f i.toNatClampNeg)) = .int (f i.toNatClampNeg)) : Met l yS_lch (.code yS_lch bS_lch 2 (some .char) :: WS) (rmS 2 80) (va_Pc [.ref q, .int i] (fun U => pXt ex A U ∧ va_T .byte q N (fun j => .int (f j)) A U U.heap)) (vp_Si (fun r => r = f i.toNatClampNeg)) 0 0 (fun _ => False) := by
  refine Met.ofW (cc := bS_lch) (maxL := 2) (ret := some .char) (by decide +kernel) rfl ?_
  intro p e s m args below meth c s₁ B hml hv
  obtain ⟨rfl, hXt, hT⟩ := hv
  have hx := B.exec
  have hb := B.bytes
  have hr := B.returns
  have hts := atoms_spec (ws := .code yS_lch bS_lch 2 (some .char) :: WS) B.pre
  have htw : ∀ w ∈ WS, w.before _ s = true := fun w h => hts w (List.mem_cons_of_mem _ h)
  have hown : s.vm.findClass "java/lang/StringLatin1" = some m.cls := findClass_of_methodNamed B.named
  have hlocks := B.notSynchronized
  have hlt : i.toNatClampNeg < N := Nat.not_le.mp fun z => hin (Or.inr z)
  have h0 : ¬ i < 0 := fun z => hin (Or.inl z)
  have hnI : i = nI i.toNatClampNeg := by
    obtain ⟨n, hn, e⟩ := nI_of h0
    rw [e, nI_clamp hn]
  have h1 : i < Int32.ofNat N := by
    rw [hnI]
    exact nI_lt (a := i.toNatClampNeg) (b := N) hlt (by omega)
  have hl := lv_entry ([.ref q, .int i]) (n := 2) (Nat.le_of_ble_eq_true rfl)
  rw [lg_entry_eq]
  generalize (lg_sl ([.ref q, .int i]) ++ List.replicate (2 - (lg_sl ([.ref q, .int i])).length) Slot.unset).toArray = ls at hl ⊢
  have hl : lv_has ls 2 [(0, .ref q), (1, .int i)] := hl
  refine lv_iload_n hx hb eS_lch_0 rfl (lv_at hl 1 rfl) ?_
  refine lv_aload_n hx hb eS_lch_1 rfl (lv_at hl 0 rfl) ?_
  refine va_tlen hx hb hT va_S.rf (v := Int32.ofNat N) rfl eS_lch_2 ?_
  have hbase := callB_of (R := (headSpec (.code yS_lch bS_lch 2 (some .char) :: WS) (rmS 2 80)).room) (own := "java/lang/StringLatin1") (index := 9) (rm := rmS 1 40) (mc := 0) (ms := 0) 2 htw (goodIn_WS (fun _ h => h) ws_cki) rfl rfl rfl (htw _ ws_i1) (htw _ ws_m4) (by decide +kernel) ⟨by decide, by decide⟩
  refine va_csv (W.runS (As := [.int i, .int (Int32.ofNat N)]) (rest := []) ⟨hx, hb, hml, hown, htw⟩ (cS_cki l ex A i (Int32.ofNat N) h0 h1) ⟨hbase, htw _ ws_t2⟩ ⟨pXs.blind _ _ _, fun U hU hW => pXs.at hXt hU hW⟩ rfl rfl hl.1 rfl (lv_room (by decide)) eS_lch_3 ⟨by decide, by decide⟩) (fun _ => ?_)
  refine lv_aload_n hx hb eS_lch_6 rfl (lv_at hl 0 rfl) ?_
  refine lv_iload_n hx hb eS_lch_7 rfl (lv_at hl 1 rfl) ?_
  refine va_tb hx hb hT va_S.rf hin rfl eS_lch_8 ?_
  refine lv_sipush (v := 255) hx hb eS_lch_9 (by decide) ?_
  refine lv_iand hx hb eS_lch_12 ?_
  refine lv_i2c hx hb eS_lch_13 hch.1 ?_
  exact W.zret (v := f i.toNatClampNeg) hx hb hr hch.2 (fun t ht hW => ⟨_, rfl, rfl, ht⟩) (fun q hq => by cases hq) eS_lch_14 hlocks
theorem pSTR_ok : ∀ t, t < 16 → pLEN.getD t 0 < 100 ∧ ∀ k, k < pLEN.getD t 0 → (((pSTR.getD t []).getD k 0 &&& 255).toUInt32 % 65536).toInt32 = (pSTR.getD t []).getD k 0 ∧ narrow .char (.int ((pSTR.getD t []).getD k 0)) = .int ((pSTR.getD t []).getD k 0) := by decide +kernel
theorem pLEN_shr : ∀ t, t < 16 → Int32.ofNat (pLEN.getD t 0) >>> ((0 : Int32) &&& 31) = Int32.ofNat (pLEN.getD t 0) := by decide +kernel
set_option maxHeartbeats 1000000 in
theorem str_ok (l : Launch) : pStr l := by
  intro d w hd hwf t ht0 ht D ad ca ex sz
  have e1 : t - 1 + 1 = t := by omega
  have ht16 : t - 1 < 16 := by omega
  refine ⟨?_, fun i hin => ?_⟩
  · refine Met.ofW (cc := bS_len) (maxL := 1) (ret := some .int) (by decide +kernel) rfl ?_
    intro p e s m args below meth c s₁ B hml hv
    obtain ⟨rfl, hsz, hP, hK, hD0, hXt⟩ := hv
    have hx := B.exec
    have hb := B.bytes
    have hr := B.returns
    have hts := atoms_spec (ws := .code ⟨"java/lang/String", "length", "()I"⟩ mQ_J_len.2.1 1 (some .int) :: WS) B.pre
    have htw : ∀ w ∈ WS, w.before _ s = true := fun w h => hts w (List.mem_cons_of_mem _ h)
    have hown : s.vm.findClass "java/lang/String" = some m.cls := findClass_of_methodNamed B.named
    have hlocks := B.notSynchronized
    subst hsz
    obtain ⟨adV, hE⟩ := hXt.2.2.1 (t - 1) ht16
    rw [e1] at hE
    have hl := lv_entry ([.ref (ex t)]) (n := 1) (Nat.le_of_ble_eq_true rfl)
    show W p l e _ s m _ below meth c s.heap [] 0 0 _ (entryFrame m ([.ref (ex t)] : List Value).toArray 1)
    rw [lg_entry_eq]
    generalize (lg_sl ([.ref (ex t)]) ++ List.replicate (1 - (lg_sl ([.ref (ex t)])).length) Slot.unset).toArray = ls at hl ⊢
    have hl : lv_has ls 1 [(0, .ref (ex t))] := hl
    refine lv_aload_n hx hb eS_len_0 rfl (lv_at hl 0 rfl) ?_
    refine vk_getf hx hb (hE.1 0 (by decide)).2.2.1 va_S.rf hown (htw _ ws_f3) (fun _ h => h) eS_len_1 ?_
    refine va_tlen hx hb (hE.1 0 (by decide)).2.2.2 va_S.rf (v := Int32.ofNat (pLEN.getD (t - 1) 0)) rfl eS_len_4 ?_
    refine lv_aload_n hx hb eS_len_5 rfl (lv_at hl 0 rfl) ?_
    have hbase := callB_of (R := pRm (d + 1) w w) (own := "java/lang/String") (index := 335) (rm := rmS 0 0) (mc := 0) (ms := 0) 0 htw (goodIn_WS (fun _ h => h) ws_cod) rfl rfl rfl (htw _ ws_i1) (htw _ ws_m1) (by decide +kernel) ⟨by show 0 + 1 ≤ d + 1; omega, by show 8 + (1 + 11) + 0 ≤ 40 * (d + 1); omega⟩
    refine vp_callSi (W.runV (As := []) (rest := [.int (Int32.ofNat (pLEN.getD (t - 1) 0))]) ⟨hx, hb, hml, hown, htw⟩ (by have := cS_cod l ex (va_A (pL ad ca w) s.heap.size) (t - 1) ht16; rw [e1] at this; exact this) ⟨hbase, htw _ ws_n1, htw _ ws_s1⟩ ⟨pXs.blind _ _ _, vk_recv (H := s.heap) (locs := []) hE (i := 0) (by decide) va_S.rf, fun U hU hW => pXs.at hXt hU hW⟩ rfl rfl hl.1 rfl (lv_room (Nat.le_of_ble_eq_true rfl)) eS_len_6 ⟨by show 0 + 0 ≤ w.1 - w.1; omega, by show 0 + 0 ≤ psn w.1 - psn w.1; omega⟩) (fun r hr0 => ?_)
    subst hr0
    refine lv_ishr hx hb eS_len_9 ?_
    rw [pLEN_shr (t - 1) ht16]
    refine W.eq rfl ?_
    have hend := W.iret (p := p) (l := l) (e := e) (R := pRm (d + 1) w w) (s := s) (m := m) (args := #[.ref (ex t)]) (below := below) (meth := meth) (c := c) (H := s.heap) (locs := []) (cells := 0) (slots := 0) (Qc := pQc D ad ca ex w w (some (.int (Int32.ofNat (pLEN.getD (t - 1) 0)))) s.heap.size) (free := va_A (pL ad ca w) s.heap.size) (v := Int32.ofNat (pLEN.getD (t - 1) 0)) (ls := ls) hx hb hr (fun t9 ht9 hW9 => ⟨⟨ad, ca, fun _ _ => ⟨rfl, rfl⟩, rfl, by rw [ht9]; exact hP, hK.moved hW9.alike, hD0.self⟩, va_S.rf.F (locs := []) ht9⟩) (fun q hq => by cases hq) eS_len_10 hlocks
    rw [Nat.sub_self, Nat.sub_self]
    exact hend
  · refine Met.ofW (cc := bS_chr) (maxL := 2) (ret := some .char) (by decide +kernel) rfl ?_
    intro p e s m args below meth c s₁ B hml hv
    obtain ⟨rfl, hsz, hP, hK, hD0, hXt⟩ := hv
    have hx := B.exec
    have hb := B.bytes
    have hr := B.returns
    have hts := atoms_spec (ws := .code ⟨"java/lang/String", "charAt", "(I)C"⟩ mQ_J_chr.2.1 2 (some .char) :: WS) B.pre
    have htw : ∀ w ∈ WS, w.before _ s = true := fun w h => hts w (List.mem_cons_of_mem _ h)
    have hown : s.vm.findClass "java/lang/String" = some m.cls := findClass_of_methodNamed B.named
    have hlocks := B.notSynchronized
    subst hsz
    obtain ⟨adV, hE⟩ := hXt.2.2.1 (t - 1) ht16
    rw [e1] at hE
    obtain ⟨hN, hchs⟩ := pSTR_ok (t - 1) ht16
    have hlt : i.toNatClampNeg < pLEN.getD (t - 1) 0 := Nat.not_le.mp fun z => hin (Or.inr z)
    have hch := hchs _ hlt
    have hl := lv_entry ([.ref (ex t), .int i]) (n := 2) (Nat.le_of_ble_eq_true rfl)
    show W p l e _ s m _ below meth c s.heap [] 0 0 _ (entryFrame m ([.ref (ex t), .int i] : List Value).toArray 2)
    rw [lg_entry_eq]
    generalize (lg_sl ([.ref (ex t), .int i]) ++ List.replicate (2 - (lg_sl ([.ref (ex t), .int i])).length) Slot.unset).toArray = ls at hl ⊢
    have hl : lv_has ls 2 [(0, .ref (ex t)), (1, .int i)] := hl
    refine lv_aload_n hx hb eS_chr_0 rfl (lv_at hl 0 rfl) ?_
    have hbase := callB_of (R := pRm (d + 1) w w) (own := "java/lang/String") (index := 492) (rm := rmS 0 0) (mc := 0) (ms := 0) 0 htw (goodIn_WS (fun _ h => h) ws_lat) rfl rfl rfl (htw _ ws_i1) (htw _ ws_m2) (by decide +kernel) ⟨by show 0 + 1 ≤ d + 1; omega, by show 8 + (1 + 11) + 0 ≤ 40 * (d + 1); omega⟩
    refine vp_callSi (W.runV (As := []) (rest := []) ⟨hx, hb, hml, hown, htw⟩ (by have := cS_lat l ex (va_A (pL ad ca w) s.heap.size) (t - 1) ht16; rw [e1] at this; exact this) ⟨hbase, htw _ ws_n2, htw _ ws_s2⟩ ⟨pXs.blind _ _ _, vk_recv (H := s.heap) (locs := []) hE (i := 0) (by decide) va_S.rf, fun U hU hW => pXs.at hXt hU hW⟩ rfl rfl hl.1 rfl (lv_room (Nat.le_of_ble_eq_true rfl)) eS_chr_1 ⟨by show 0 + 0 ≤ w.1 - w.1; omega, by show 0 + 0 ≤ psn w.1 - psn w.1; omega⟩) (fun r hr0 => ?_)
    subst hr0
    refine lv_if_eq (tgt := 16) hx hb eS_chr_4 (by decide) (fun q => absurd q (by decide)) (fun _ => ?_)
    refine lv_aload_n hx hb eS_chr_7 rfl (lv_at hl 0 rfl) ?_
    refine vk_getf hx hb (hE.1 0 (by decide)).2.2.1 va_S.rf hown (htw _ ws_f3) (fun _ h => h) eS_chr_8 ?_
    refine lv_iload_n hx hb eS_chr_11 rfl (lv_at hl 1 rfl) ?_
    have hbase2 := callB_of (R := pRm (d + 1) w w) (own := "java/lang/String") (index := 495) (rm := rmS 2 80) (mc := 0) (ms := 0) 2 htw (goodIn_WS (fun _ h => h) ws_lch) rfl rfl rfl (htw _ ws_i2) (htw _ ws_m3) (by decide +kernel) ⟨by show 2 + 1 ≤ d + 1; omega, by show 8 + (2 + 11) + 80 ≤ 40 * (d + 1); omega⟩
    refine vp_callSi (W.runS (As := [.ref (adV 0), .int i]) (rest := []) ⟨hx, hb, hml, hown, htw⟩ (cS_lch l ex (va_A (pL ad ca w) s.heap.size) (adV 0) (pLEN.getD (t - 1) 0) (fun j => (pSTR.getD (t - 1) []).getD j 0) i hN hin hch) ⟨hbase2, htw _ ws_t1⟩ ⟨fun a U g mk h => ⟨h.1, h.2.1.blind g mk a, va_T.moved (u := U) (U := U.calling g mk a) (Vm.Alike.refl U.vm) h.2.2⟩, fun U hU hW => ⟨rfl, hXt.to (H := s.heap) (locs := []) va_S.rf hU hW (fun _ q => q), by rw [hU]; exact va_T.moved hW.alike (hE.1 0 (by decide)).2.2.2⟩⟩ rfl rfl hl.1 rfl (lv_room (Nat.le_of_ble_eq_true rfl)) eS_chr_12 ⟨by show 0 + 0 ≤ w.1 - w.1; omega, by show 0 + 0 ≤ psn w.1 - psn w.1; omega⟩) (fun r hr0 => ?_)
    subst hr0
    have hend := W.zret (p := p) (l := l) (e := e) (R := pRm (d + 1) w w) (s := s) (m := m) (args := #[.ref (ex t), .int i]) (below := below) (meth := meth) (c := c) (H := s.heap) (locs := []) (cells := 0) (slots := 0) (Qc := pQc D ad ca ex w w (some (.int ((pSTR.getD (t - 1) []).getD i.toNatClampNeg 0))) s.heap.size) (free := va_A (pL ad ca w) s.heap.size) (v := (pSTR.getD (t - 1) []).getD i.toNatClampNeg 0) (ls := ls) (ty := .char) hx hb hr hch.2 (fun t9 ht9 hW9 => ⟨⟨ad, ca, fun _ _ => ⟨rfl, rfl⟩, rfl, by rw [ht9]; exact hP, hK.moved hW9.alike, hD0.self⟩, va_S.rf.F (locs := []) ht9⟩) (fun q hq => by cases hq) eS_chr_15 hlocks
    rw [Nat.sub_self, Nat.sub_self]
    exact hend
