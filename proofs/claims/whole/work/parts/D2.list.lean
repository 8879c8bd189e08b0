/-! A WORLD AS LISTS OF WRITES (numbers alone), and a walk over it: what the kernel can look into -/
abbrev lE : Type := List (Nat × Nat × Nat)
abbrev lW : Type := Nat × lE × lE × lE
abbrev lF : Type := Nat × List (Option Value) × List Value × lW
abbrev lR : Type := Option (lF ⊕ (Option Value × lW))
abbrev lC : Type := Nat → List Value → lW → Option (Option Value × lW)
def lk : lE → Nat → Nat → Nat
  | [], _, _ => 0
  | (a, b, v) :: r, h, k => bif (Nat.beq h a && Nat.beq k b) then v else lk r h k
def rN : Nat → Option Nat
  | 0 => none
  | n + 1 => some n
def abI (l : lE) : Nat → Nat → Int32 := fun h k => Int32.ofNat (lk l h k)
def abJ (l : lE) : Nat → Nat → Int64 := fun h k => Int64.ofNat (lk l h k)
def abR (l : lE) : Nat → Nat → Option Nat := fun h k => rN (lk l h k)
def ab (w : lW) : pW := (w.1, abI w.2.1, abJ w.2.2.1, abR w.2.2.2)
def abx : lF ⊕ (Option Value × lW) → pF ⊕ (Option Value × pW)
  | .inl (pc, L, st, w) => .inl (pc, L, st, ab w)
  | .inr (o, w) => .inr (o, ab w)
/-- a number, found first, then handed on -/
def frc {β : Type} (n : Nat) (c : Nat → β) : β := match n with
  | 0 => c 0
  | m + 1 => c (Nat.succ m)
theorem frc_eq {β : Type} (n : Nat) (c : Nat → β) : frc n c = c n := by
  cases n <;> rfl
def wr {β : Type} (l : lE) (h k v : Nat) (c : lE → β) : β := frc h fun h => frc k fun k => frc v fun v => bif Nat.beq (lk l h k) v then c l else c ((h, k, v) :: l)
theorem lk_cons (l : lE) (h k v a b : Nat) : lk ((h, k, v) :: l) a b = if a = h then (if b = k then v else lk l a b) else lk l a b := by
  show (bif (Nat.beq a h && Nat.beq b k) then v else lk l a b) = _
  by_cases h1 : a = h
  · by_cases h2 : b = k
    · subst h1; subst h2
      simp
    · have e : Nat.beq b k = false := by
        cases q : Nat.beq b k
        · rfl
        · exact absurd (Nat.eq_of_beq_eq_true q) h2
      rw [e, Bool.and_false, if_pos h1, if_neg h2]
      rfl
  · have e : Nat.beq a h = false := by
      cases q : Nat.beq a h
      · rfl
      · exact absurd (Nat.eq_of_beq_eq_true q) h1
    rw [e, Bool.false_and, if_neg h1]
    rfl
theorem wr_ok {β : Type} (l : lE) (h k v : Nat) (c : lE → β) : ∃ l', wr l h k v c = c l' ∧ lk l' = u2 (lk l) h k v := by
  unfold wr
  rw [frc_eq, frc_eq, frc_eq]
  cases e : Nat.beq (lk l h k) v with
  | true =>
    refine ⟨l, rfl, ?_⟩
    have e' := Nat.eq_of_beq_eq_true e
    funext a b
    unfold u2
    split
    · next q1 =>
      split
      · next q2 => rw [q1, q2, e']
      · rfl
    · rfl
  | false =>
    refine ⟨(h, k, v) :: l, rfl, ?_⟩
    funext a b
    exact lk_cons l h k v a b
theorem u2_map {α β : Type} (g : α → β) (f : Nat → Nat → α) (h k : Nat) (v : α) : (fun a b => g (u2 f h k v a b)) = u2 (fun a b => g (f a b)) h k (g v) := by
  funext a b
  unfold u2
  split
  · split <;> rfl
  · rfl
theorem i32_unat (x : Int32) : Int32.ofNat x.toUInt32.toNat = x := by
  cases x with
  | ofUInt32 y => exact congrArg Int32.ofUInt32 UInt32.ofNat_toNat
theorem i64_unat (x : Int64) : Int64.ofNat x.toUInt64.toNat = x := by
  cases x with
  | ofUInt64 y => exact congrArg Int64.ofUInt64 UInt64.ofNat_toNat
theorem wrI {β : Type} (l : lE) (h k : Nat) (x : Int32) (c : lE → β) : ∃ l', wr l h k x.toUInt32.toNat c = c l' ∧ abI l' = u2 (abI l) h k x := by
  obtain ⟨l', h1, h2⟩ := wr_ok l h k x.toUInt32.toNat c
  refine ⟨l', h1, ?_⟩
  unfold abI
  rw [h2, u2_map, i32_unat]
theorem wrJ {β : Type} (l : lE) (h k : Nat) (x : Int64) (c : lE → β) : ∃ l', wr l h k x.toUInt64.toNat c = c l' ∧ abJ l' = u2 (abJ l) h k x := by
  obtain ⟨l', h1, h2⟩ := wr_ok l h k x.toUInt64.toNat c
  refine ⟨l', h1, ?_⟩
  unfold abJ
  rw [h2, u2_map, i64_unat]
theorem wrR {β : Type} (l : lE) (h k x : Nat) (c : lE → β) : ∃ l', wr l h k (x + 1) c = c l' ∧ abR l' = u2 (abR l) h k (some x) := by
  obtain ⟨l', h1, h2⟩ := wr_ok l h k (x + 1) c
  refine ⟨l', h1, ?_⟩
  unfold abR
  rw [h2, u2_map]
  rfl
/-- no write to a cell that isn't made -/
def lfr (n : Nat) : lE → Bool
  | [] => true
  | (a, _, _) :: r => Nat.blt a n && lfr n r
theorem lfr_ok {n : Nat} {l : lE} (h : lfr n l = true) {a : Nat} (ha : n ≤ a) (b : Nat) : lk l a b = 0 := by
  induction l with
  | nil => rfl
  | cons x r ih =>
    obtain ⟨p, q, v⟩ := x
    have h' : (Nat.blt p n && lfr n r) = true := h
    rw [Bool.and_eq_true] at h'
    have hp : p < n := by simpa [Nat.blt_eq] using h'.1
    rw [lk_cons, if_neg (by omega)]
    exact ih h'.2
def lfw (w : lW) : Bool := lfr w.1 w.2.1 && lfr w.1 w.2.2.1 && lfr w.1 w.2.2.2
theorem u1_same {α : Type} {f : Nat → Nat → α} {h : Nat} {v : α} (e : ∀ b, f h b = v) : u1 f h v = f := by
  funext a b
  unfold u1
  split
  · next q => rw [q, e]
  · rfl
theorem ab_nw {n : Nat} {i j r : lE} (h : ∀ b, lk i n b = 0 ∧ lk j n b = 0 ∧ lk r n b = 0) : pnw (ab (n, i, j, r)) = ab (n + 1, i, j, r) := by
  show (n + 1, u1 (abI i) n 0, u1 (abJ j) n 0, u1 (abR r) n none) = (n + 1, abI i, abJ j, abR r)
  rw [u1_same (f := abI i) (fun b => by show Int32.ofNat (lk i n b) = 0; rw [(h b).1]; rfl), u1_same (f := abJ j) (fun b => by show Int64.ofNat (lk j n b) = 0; rw [(h b).2.1]; rfl), u1_same (f := abR r) (fun b => by show rN (lk r n b) = none; rw [(h b).2.2]; rfl)]
theorem lfw_ok {n : Nat} {i j r : lE} (h : lfw (n, i, j, r) = true) {a : Nat} (ha : n ≤ a) (b : Nat) : lk i a b = 0 ∧ lk j a b = 0 ∧ lk r a b = 0 := by
  have h' : (lfr n i && lfr n j && lfr n r) = true := h
  rw [Bool.and_eq_true, Bool.and_eq_true] at h'
  exact ⟨lfr_ok h'.1.1 ha b, lfr_ok h'.1.2 ha b, lfr_ok h'.2 ha b⟩
theorem ab_nws {i j r : lE} : ∀ (k n : Nat), (∀ a b, n ≤ a → lk i a b = 0 ∧ lk j a b = 0 ∧ lk r a b = 0) → pnws k (ab (n, i, j, r)) = ab (n + k, i, j, r)
  | 0, n, _ => rfl
  | k + 1, n, h => by
    show pnws k (pnw (ab (n, i, j, r))) = _
    rw [ab_nw (fun b => h n b (Nat.le_refl n)), ab_nws k (n + 1) (fun a b q => h a b (by omega))]
    exact congrArg (fun z => ab (z, i, j, r)) (by omega : n + 1 + k = n + (k + 1))
def lrw {β : Type} (n : Nat) : Nat → lE → (lE → β) → β
  | 0, l, c => c l
  | N + 1, l, c => frc N fun k => frc (n + k + 2) fun v => lrw n N ((n, k, v) :: l) c
theorem lrw_ok {β : Type} (n : Nat) (c : lE → β) : ∀ (N : Nat) (l : lE), ∃ l', lrw n N l c = c l' ∧ ∀ a b, lk l' a b = if a = n then (if b < N then n + b + 2 else lk l a b) else lk l a b
  | 0, l => ⟨l, rfl, fun a b => by rw [if_neg (Nat.not_lt_zero b), ite_self]⟩
  | N + 1, l => by
    obtain ⟨l', h1, h2⟩ := lrw_ok n c N ((n, N, n + N + 2) :: l)
    refine ⟨l', ?_, fun a b => ?_⟩
    · rw [← h1]
      show frc N _ = _
      rw [frc_eq, frc_eq]
    · rw [h2, lk_cons]
      by_cases q : a = n
      · rw [if_pos q, if_pos q, if_pos q]
        by_cases q1 : b < N
        · rw [if_pos q1, if_pos (by omega)]
        · rw [if_neg q1]
          by_cases q2 : b = N
          · rw [if_pos q2, if_pos (by omega), q2]
          · rw [if_neg q2, if_neg (by omega)]
      · rw [if_neg q, if_neg q, if_neg q]
def lpf (pc : Nat) (L : List (Option Value)) (st : List Value) (w : lW) (c k : Nat) (v : Value) : lR := match st with
  | u :: .ref h :: r => match psh (ab w) h with
    | some (.inr c') => bif Nat.beq c c' then (match v, u with
      | .retAddr 0, .int x => wr w.2.1 h k x.toUInt32.toNat fun l => some (.inl (pc, L, r, (w.1, l, w.2.2.1, w.2.2.2)))
      | .retAddr 1, .long x => wr w.2.2.1 h k x.toUInt64.toNat fun l => some (.inl (pc, L, r, (w.1, w.2.1, l, w.2.2.2)))
      | .retAddr 3, .int x => if x = 0 ∨ x = 1 then wr w.2.1 h k x.toUInt32.toNat fun l => some (.inl (pc, L, r, (w.1, l, w.2.2.1, w.2.2.2))) else none
      | .retAddr 2, .ref x => wr w.2.2.2 h k (x + 1) fun l => some (.inl (pc, L, r, (w.1, w.2.1, w.2.2.1, l)))
      | _, _ => none) else none
    | _ => none
  | _ => none
theorem lpf_ok {pc : Nat} {L : List (Option Value)} {st : List Value} {w : lW} {c k : Nat} {v : Value} {x : lF ⊕ (Option Value × lW)} (h : lpf pc L st w c k v = some x) : ppf pc L st (ab w) c k v = some (abx x) := by
  obtain ⟨n, i, j, q⟩ := w
  unfold lpf at h
  unfold ppf
  split at h
  · next u hh r =>
    dsimp only
    split at h
    · next c' hs =>
      rw [hs]
      dsimp only
      generalize Nat.beq c c' = g at h ⊢
      cases g with
      | false => cases h
      | true =>
        dsimp only [cond] at h ⊢
        split at h
        · next y =>
          obtain ⟨l', e1, e2⟩ := wrI i hh k y (fun l => (some (.inl (pc, L, r, (n, l, j, q))) : lR))
          have h2 := e1.symm.trans h
          cases h2
          show some (Sum.inl (pc, L, r, (n, u2 (abI i) hh k y, abJ j, abR q))) = some (Sum.inl (pc, L, r, (n, abI l', abJ j, abR q)))
          rw [e2]
        · next y =>
          obtain ⟨l', e1, e2⟩ := wrJ j hh k y (fun l => (some (.inl (pc, L, r, (n, i, l, q))) : lR))
          have h2 := e1.symm.trans h
          cases h2
          show some (Sum.inl (pc, L, r, (n, abI i, u2 (abJ j) hh k y, abR q))) = some (Sum.inl (pc, L, r, (n, abI i, abJ l', abR q)))
          rw [e2]
        · next y =>
          split at h
          · next hy =>
            obtain ⟨l', e1, e2⟩ := wrI i hh k y (fun l => (some (.inl (pc, L, r, (n, l, j, q))) : lR))
            have h2 := e1.symm.trans h
            cases h2
            show (if y = 0 ∨ y = 1 then some (Sum.inl (pc, L, r, (n, u2 (abI i) hh k y, abJ j, abR q))) else none) = some (Sum.inl (pc, L, r, (n, abI l', abJ j, abR q)))
            rw [if_pos hy, e2]
          · cases h
        · next y =>
          obtain ⟨l', e1, e2⟩ := wrR q hh k y (fun l => (some (.inl (pc, L, r, (n, i, j, l))) : lR))
          have h2 := e1.symm.trans h
          cases h2
          show some (Sum.inl (pc, L, r, (n, abI i, abJ j, u2 (abR q) hh k (some y)))) = some (Sum.inl (pc, L, r, (n, abI i, abJ j, abR l')))
          rw [e2]
        · cases h
    · cases h
  · cases h
def lias (pc : Nat) (L : List (Option Value)) (st : List Value) (w : lW) : lR := match st with
  | .int x :: .int i :: .ref h :: r => match psh (ab w) h with
    | some (.inl (.int, n)) => if i < 0 ∨ n ≤ i.toNatClampNeg then none else wr w.2.1 h i.toNatClampNeg x.toUInt32.toNat fun l => some (.inl (pc, L, r, (w.1, l, w.2.2.1, w.2.2.2)))
    | _ => none
  | _ => none
theorem lias_ok {pc : Nat} {L : List (Option Value)} {st : List Value} {w : lW} {x : lF ⊕ (Option Value × lW)} (h : lias pc L st w = some x) : pias pc L st (ab w) = some (abx x) := by
  obtain ⟨n, i, j, q⟩ := w
  unfold lias at h
  unfold pias
  split at h
  · next y ii hh r =>
    dsimp only
    split at h
    · next N hs =>
      rw [hs]
      dsimp only
      split at h
      · cases h
      · next hy =>
        obtain ⟨l', e1, e2⟩ := wrI i hh ii.toNatClampNeg y (fun l => (some (.inl (pc, L, r, (n, l, j, q))) : lR))
        have h2 := e1.symm.trans h
        cases h2
        rw [if_neg hy]
        show some (Sum.inl (pc, L, r, (n, u2 (abI i) hh ii.toNatClampNeg y, abJ j, abR q))) = some (Sum.inl (pc, L, r, (n, abI l', abJ j, abR q)))
        rw [e2]
    · cases h
  · cases h
def llas (pc : Nat) (L : List (Option Value)) (st : List Value) (w : lW) : lR := match st with
  | .long x :: .int i :: .ref h :: r => match psh (ab w) h with
    | some (.inl (.long, n)) => if i < 0 ∨ n ≤ i.toNatClampNeg then none else wr w.2.2.1 h i.toNatClampNeg x.toUInt64.toNat fun l => some (.inl (pc, L, r, (w.1, w.2.1, l, w.2.2.2)))
    | _ => none
  | _ => none
theorem llas_ok {pc : Nat} {L : List (Option Value)} {st : List Value} {w : lW} {x : lF ⊕ (Option Value × lW)} (h : llas pc L st w = some x) : plas pc L st (ab w) = some (abx x) := by
  obtain ⟨n, i, j, q⟩ := w
  unfold llas at h
  unfold plas
  split at h
  · next y ii hh r =>
    dsimp only
    split at h
    · next N hs =>
      rw [hs]
      dsimp only
      split at h
      · cases h
      · next hy =>
        obtain ⟨l', e1, e2⟩ := wrJ j hh ii.toNatClampNeg y (fun l => (some (.inl (pc, L, r, (n, i, l, q))) : lR))
        have h2 := e1.symm.trans h
        cases h2
        rw [if_neg hy]
        show some (Sum.inl (pc, L, r, (n, abI i, u2 (abJ j) hh ii.toNatClampNeg y, abR q))) = some (Sum.inl (pc, L, r, (n, abI i, abJ l', abR q)))
        rw [e2]
    · cases h
  · cases h
def lnar (t : ArrayType) (pc : Nat) (L : List (Option Value)) (st : List Value) (w : lW) : lR := match st with
  | .int n :: r => match SHget w.1 with
    | some (.inl (ty, N)) => bif (lfw w && (decide (ty = pty t) && decide (¬ n < 0) && decide (n.toNatClampNeg = N) && Nat.ble N 100000)) then frc w.1 fun m => some (.inl (pc, L, .ref m :: r, (Nat.succ m, w.2.1, w.2.2.1, w.2.2.2))) else none
    | _ => none
  | _ => none
theorem lnar_ok {t : ArrayType} {pc : Nat} {L : List (Option Value)} {st : List Value} {w : lW} {x : lF ⊕ (Option Value × lW)} (h : lnar t pc L st w = some x) : pnar t pc L st (ab w) = some (abx x) := by
  obtain ⟨n, i, j, q⟩ := w
  unfold lnar at h
  unfold pnar
  split at h
  · next y r =>
    dsimp only
    split at h
    · next ty N hs =>
      have hs' : SHget (ab (n, i, j, q)).1 = some (.inl (ty, N)) := hs
      rw [hs']
      dsimp only
      generalize (decide (ty = pty t) && decide (¬ y < 0) && decide (y.toNatClampNeg = N) && Nat.ble N 100000) = g at h ⊢
      cases e : lfw (n, i, j, q) with
      | false => rw [e] at h; cases h
      | true =>
        rw [e] at h
        cases g with
        | false => cases h
        | true =>
          rw [frc_eq] at h
          cases h
          show some (Sum.inl (pc, L, Value.ref n :: r, pnw (ab (n, i, j, q)))) = some (Sum.inl (pc, L, Value.ref n :: r, ab (n + 1, i, j, q)))
          rw [ab_nw (fun b => lfw_ok e (Nat.le_refl n) b)]
    · cases h
  · cases h
def lnob (c pc : Nat) (L : List (Option Value)) (st : List Value) (w : lW) : lR := match SHget w.1 with
  | some (.inr c') => bif (lfw w && Nat.beq c c') then frc w.1 fun m => some (.inl (pc, L, .ref m :: st, (Nat.succ m, w.2.1, w.2.2.1, w.2.2.2))) else none
  | _ => none
theorem lnob_ok {c pc : Nat} {L : List (Option Value)} {st : List Value} {w : lW} {x : lF ⊕ (Option Value × lW)} (h : lnob c pc L st w = some x) : pnob c pc L st (ab w) = some (abx x) := by
  obtain ⟨n, i, j, q⟩ := w
  unfold lnob at h
  unfold pnob
  split at h
  · next c' hs =>
    have hs' : SHget (ab (n, i, j, q)).1 = some (.inr c') := hs
    rw [hs']
    dsimp only
    generalize Nat.beq c c' = g at h ⊢
    cases e : lfw (n, i, j, q) with
    | false => rw [e] at h; cases h
    | true =>
      rw [e] at h
      cases g with
      | false => cases h
      | true =>
        rw [frc_eq] at h
        cases h
        show some (Sum.inl (pc, L, Value.ref n :: st, pnw (ab (n, i, j, q)))) = some (Sum.inl (pc, L, Value.ref n :: st, ab (n + 1, i, j, q)))
        rw [ab_nw (fun b => lfw_ok e (Nat.le_refl n) b)]
  · cases h
def lmna (v : Value) (pc : Nat) (L : List (Option Value)) (st : List Value) (w : lW) : lR := match st with
  | .int k :: .int n :: r => match SHget w.1 with
    | some (.inl (.array ty, N)) => bif (lfw w && (decide (ty = pety v) && decide (¬ n < 0) && decide (¬ k < 0) && decide (n.toNatClampNeg = N) && Nat.ble N 100000 && Nat.ble k.toNatClampNeg 100000 && prows (w.1 + 1) (.inl (ty, k.toNatClampNeg)) N)) then
        frc w.1 fun m => frc (m + (N + 1)) fun m' => lrw m N w.2.2.2 fun l => some (.inl (pc, L, .ref m :: r, (m', w.2.1, w.2.2.1, l))) else none
    | _ => none
  | _ => none
theorem lmna_ok {v : Value} {pc : Nat} {L : List (Option Value)} {st : List Value} {w : lW} {x : lF ⊕ (Option Value × lW)} (h : lmna v pc L st w = some x) : pmna v pc L st (ab w) = some (abx x) := by
  obtain ⟨n, i, j, q⟩ := w
  unfold lmna at h
  unfold pmna
  split at h
  · next k y r =>
    dsimp only
    split at h
    · next ty N hs =>
      have hs' : SHget (ab (n, i, j, q)).1 = some (.inl (.array ty, N)) := hs
      rw [hs']
      dsimp only
      have e0 : (ab (n, i, j, q)).1 = n := rfl
      rw [e0]
      dsimp only at h
      generalize (decide (ty = pety v) && decide (¬ y < 0) && decide (¬ k < 0) && decide (y.toNatClampNeg = N) && Nat.ble N 100000 && Nat.ble k.toNatClampNeg 100000 && prows (n + 1) (.inl (ty, k.toNatClampNeg)) N) = g at h ⊢
      cases e : lfw (n, i, j, q) with
      | false => rw [e] at h; cases h
      | true =>
        rw [e] at h
        cases g with
        | false => cases h
        | true =>
          dsimp only [cond, Bool.and_true] at h ⊢
          rw [frc_eq, frc_eq] at h
          obtain ⟨l', e1, e2⟩ := lrw_ok n (fun l => (some (.inl (pc, L, .ref n :: r, (n + (N + 1), i, j, l))) : lR)) N q
          have h2 := e1.symm.trans h
          cases h2
          rw [ab_nws (N + 1) n (fun a b ha => lfw_ok e ha b)]
          show some (Sum.inl (pc, L, Value.ref n :: r, (n + (N + 1), abI i, abJ j, fun a b => if a = n then (if b < N then some (n + 1 + b) else none) else abR q a b))) = some (Sum.inl (pc, L, Value.ref n :: r, (n + (N + 1), abI i, abJ j, abR l')))
          have e3 : (fun a b => if a = n then (if b < N then some (n + 1 + b) else none) else abR q a b) = abR l' := by
            funext a b
            show _ = rN (lk l' a b)
            rw [e2]
            by_cases q1 : a = n
            · rw [if_pos q1, if_pos q1]
              by_cases q2 : b < N
              · rw [if_pos q2, if_pos q2]
                show _ = some (n + b + 1)
                rw [Nat.add_right_comm]
              · rw [if_neg q2, if_neg q2, q1, (lfw_ok e (Nat.le_refl n) b).2.2]
                rfl
            · rw [if_neg q1, if_neg q1]
              rfl
          rw [e3]
    · cases h
  · cases h
def lkc (r : Option (Option Value × lW)) (pc : Nat) (L : List (Option Value)) (st : List Value) : lR := match r with
  | some (some v, w') => some (.inl (pc, L, v :: st, w'))
  | some (none, w') => some (.inl (pc, L, st, w'))
  | none => none
def lcl (C : lC) (chk : Bool) (a b pc : Nat) (L : List (Option Value)) (st : List Value) (w : lW) : lR :=
  bif (Nat.ble b st.length && Nat.ble (psum (st.drop b)) 8 && chk) then lkc (C a (st.take b).reverse w) pc L (st.drop b) else none
theorem lcl_ok {C : pC} {C' : lC} (hC : ∀ (j : Nat) (a : List Value) (w : lW) (r : Option Value × lW), C' j a w = some r → C j a (ab w) = some (r.1, ab r.2)) {chk : Bool} {a b pc : Nat} {L : List (Option Value)} {st : List Value} {w : lW} {x : lF ⊕ (Option Value × lW)} (h : lcl C' chk a b pc L st w = some x) : pcl C chk a b pc L st (ab w) = some (abx x) := by
  unfold lcl at h
  unfold pcl
  generalize (Nat.ble b st.length && Nat.ble (psum (st.drop b)) 8 && chk) = g at h ⊢
  cases g with
  | false => cases h
  | true =>
    change lkc (C' a (st.take b).reverse w) pc L (st.drop b) = some x at h
    change pkc (C a (st.take b).reverse (ab w)) pc L (st.drop b) = some (abx x)
    cases e : C' a (st.take b).reverse w with
    | none => rw [e] at h; cases h
    | some r =>
      rw [hC _ _ _ _ e]
      rw [e] at h
      obtain ⟨o, w'⟩ := r
      cases o <;> (cases h; rfl)
def lsame (w : lW) (r : pR) : lR := match r with
  | some (.inl (pc, L, st, _)) => some (.inl (pc, L, st, w))
  | some (.inr (o, _)) => some (.inr (o, w))
  | none => none
def lpure (sc : pX) (rt : Option FieldType) (e : pI) (pc : Nat) (L : List (Option Value)) (st : List Value) (w : lW) : lR := lsame w (pstep sc (fun _ _ _ => none) rt e pc L st (ab w))
/-- the instructions that write nothing and call nothing -/
def noW (e : pI) : Bool := match e.1 with
  | .putfield _ => false
  | .iastore => false
  | .bastore => false
  | .lastore => false
  | .newarray _ => false
  | .multianewarray _ _ => false
  | .new _ => false
  | .invokevirtual _ => false
  | .invokestatic _ => (match e.2.2.2.2.2 with
    | .double _ => true
    | _ => false)
  | .invokespecial _ => (match e.2.2.2.2.2 with
    | .null => true
    | _ => false)
  | _ => true
def wOf2 (x : pF ⊕ (Option Value × pW)) : pW := match x with
  | .inl f => f.2.2.2
  | .inr r => r.2
theorem noW_same {C : pC} {sc : pX} {rt : Option FieldType} {e : pI} (he : noW e = true) {pc : Nat} {L : List (Option Value)} {st : List Value} {w : pW} {x : pF ⊕ (Option Value × pW)} (h : pstep sc C rt e pc L st w = some x) : wOf2 x = w := by
  obtain ⟨i, len, a, b, q, v⟩ := e
  cases i with
  | invokevirtual _ => cases he
  | putfield _ => cases he
  | newarray _ => cases he
  | new _ => cases he
  | multianewarray _ _ => cases he
  | iastore => cases he
  | bastore => cases he
  | lastore => cases he
  | invokestatic _ =>
    cases v with
    | double k =>
      simp only [pstep] at h
      split at h
      · generalize Nat.ble (psum _) 8 = g at h
        cases g
        · cases h
        · cases h; rfl
      · cases h
    | _ => cases he
  | invokespecial _ =>
    cases v with
    | null =>
      simp only [pstep] at h
      split at h
      · generalize Nat.ble (psum _) 8 = g at h
        cases g
        · cases h
        · cases h; rfl
      · simp_all
      · cases h
    | _ => cases he
  | dup2 =>
    simp only [pstep, pgo] at h
    split at h
    · next u y r =>
      cases e1 : pcat (some u) with
      | true => rw [e1] at h; cases h
      | false =>
        rw [e1] at h
        cases e2 : pcat (some y) with
        | true => rw [e2] at h; cases h
        | false => rw [e2] at h; cases h; rfl
    · cases h
  | ifCond c _ =>
    cases c <;> (simp only [pstep, pgo] at h; split at h <;> first | (split at h <;> (cases h; rfl)) | cases h)
  | if_icmp c _ =>
    cases c <;> (simp only [pstep, pgo] at h; split at h <;> first | (split at h <;> (cases h; rfl)) | cases h)
  | _ =>
    first
      | (cases h; rfl)
      | (simp only [pstep, plo, psi, psa, psl, pii, pll, pli, pdv, pgf, pial, pbal, plal, paal, palen, pret, pgo] at h
         repeat' (split at h)
         all_goals first
           | (cases h; done)
           | (cases h; rfl)
           | (generalize Nat.blt _ _ = g at h; cases g <;> first | (cases h; done) | (cases h; rfl))
           | (simp only [cond] at h; repeat' (split at h); all_goals first | (cases h; done) | (cases h; rfl)))
theorem lpure_ok {C : pC} {sc : pX} {rt : Option FieldType} {e : pI} (he : noW e = true) {pc : Nat} {L : List (Option Value)} {st : List Value} {w : lW} {x : lF ⊕ (Option Value × lW)} (h : lpure sc rt e pc L st w = some x) : pstep sc C rt e pc L st (ab w) = some (abx x) := by
  unfold lpure at h
  cases q : pstep sc (fun _ _ _ => none) rt e pc L st (ab w) with
  | none => rw [q] at h; cases h
  | some y =>
    rw [pstep_mono (C' := C) (fun _ _ _ _ z => by cases z) q]
    have q2 := noW_same he q
    rw [q] at h
    cases y with
    | inl f =>
      obtain ⟨pc', L', st', w'⟩ := f
      have q3 : w' = ab w := q2
      cases h
      rw [q3]
      rfl
    | inr r =>
      obtain ⟨o, w'⟩ := r
      have q3 : w' = ab w := q2
      cases h
      rw [q3]
      rfl
def lstep (sc : pX) (C : lC) (rt : Option FieldType) (e : pI) (pc : Nat) (L : List (Option Value)) (st : List Value) (w : lW) : lR :=
  bif noW e then lpure sc rt e pc L st w else (match e with
  | (i, len, a, b, _, v) => match i with
    | .putfield _ => lpf (pc + len) L st w a b v
    | .iastore => lias (pc + len) L st w
    | .lastore => llas (pc + len) L st w
    | .newarray t => lnar t (pc + len) L st w
    | .multianewarray _ 2 => lmna v (pc + len) L st w
    | .new _ => lnob a (pc + len) L st w
    | .invokevirtual _ => lcl C (prcv (ab w) v (st.take b).reverse) a b (pc + len) L st w
    | .invokestatic _ => (match v with
      | .double _ => none
      | _ => lcl C true a b (pc + len) L st w)
    | .invokespecial _ => (match v with
      | .retAddr _ => (match (st.take b).reverse with
        | .ref _ :: _ => lcl C true a b (pc + len) L st w
        | _ => none)
      | _ => none)
    | _ => none)
theorem lstep_ok {C : pC} {C' : lC} (hC : ∀ (j : Nat) (a : List Value) (w : lW) (r : Option Value × lW), C' j a w = some r → C j a (ab w) = some (r.1, ab r.2)) {sc : pX} {rt : Option FieldType} {e : pI} {pc : Nat} {L : List (Option Value)} {st : List Value} {w : lW} {x : lF ⊕ (Option Value × lW)} (h : lstep sc C' rt e pc L st w = some x) : pstep sc C rt e pc L st (ab w) = some (abx x) := by
  unfold lstep at h
  cases he : noW e with
  | true =>
    rw [he] at h
    exact lpure_ok he h
  | false =>
    rw [he] at h
    obtain ⟨i, len, a, b, q, v⟩ := e
    dsimp only [cond] at h
    split at h
    · exact lpf_ok h
    · exact lias_ok h
    · exact llas_ok h
    · exact lnar_ok h
    · exact lmna_ok h
    · exact lnob_ok h
    · exact lcl_ok hC h
    · cases v <;> first | (cases h; done) | exact lcl_ok hC h
    · cases v with
      | retAddr k =>
        dsimp only at h
        change (match (st.take b).reverse with | .ref _ :: _ => pcl C true a b (pc + len) L st (ab w) | _ => none) = some (abx x)
        split at h
        · next hq => exact lcl_ok hC h
        · cases h
      | _ => cases h
    · cases h
def lst0 (sc : pX) (C : lC) (rt : Option FieldType) (T : pT) (f : lF) : lR := match pfind f.1 T with
  | some e => lstep sc C rt e f.1 f.2.1 f.2.2.1 f.2.2.2
  | none => none
def liter (sc : pX) (C : lC) (rt : Option FieldType) (T : pT) : Nat → lF → Option (Option Value × lW)
  | 0, _ => none
  | n + 1, f => match lst0 sc C rt T f with
    | some (.inl (pc, L, st, w)) => frc pc fun pc => liter sc C rt T n (pc, L, st, w)
    | some (.inr r) => some r
    | none => none
theorem liter_ok {C : pC} {C' : lC} (hC : ∀ (j : Nat) (a : List Value) (w : lW) (r : Option Value × lW), C' j a w = some r → C j a (ab w) = some (r.1, ab r.2)) {sc : pX} {rt : Option FieldType} {T : pT} : ∀ (n pc : Nat) (L : List (Option Value)) (st : List Value) (w : lW) (r : Option Value × lW), liter sc C' rt T n (pc, L, st, w) = some r → piter sc C rt T n (pc, L, st, ab w) = some (r.1, ab r.2)
  | 0, _, _, _, _, _, h => by cases h
  | n + 1, pc, L, st, w, r, h => by
    unfold liter at h
    unfold piter
    cases e : lst0 sc C' rt T (pc, L, st, w) with
    | none => rw [e] at h; cases h
    | some x =>
      have e' : pst sc C rt T (pc, L, st, ab w) = some (abx x) := by
        unfold lst0 at e
        unfold pst
        dsimp only at e ⊢
        split at e
        · next q hq =>
          rw [hq]
          exact lstep_ok hC e
        · cases e
      rw [e']
      rw [e] at h
      cases x with
      | inl f' =>
        obtain ⟨pc', L', st', w'⟩ := f'
        dsimp only at h
        rw [frc_eq] at h
        exact liter_ok hC n pc' L' st' w' r h
      | inr r' =>
        cases h
        rfl
def lM (fu : Nat) : Nat → lC
  | 0 => fun _ _ _ => none
  | d + 1 => fun j args w => bif Nat.beq j 240 then none else (bif Nat.beq j 241 then none else (match mTab j with
    | some (_, _, nL, rt, np, kd, _, _, T) => bif (Nat.beq args.length (bif Nat.beq kd 0 then np else np + 1) && Nat.ble (lent0 args).length nL) then liter none (lM fu d) rt T fu (0, lent args nL, [], w) else none
    | none => none))
theorem lM_ok (fu : Nat) : ∀ (d j : Nat) (a : List Value) (w : lW) (r : Option Value × lW), lM fu d j a w = some r → Mean d j a (ab w) = some (r.1, ab r.2)
  | 0, _, _, _, _, h => by cases h
  | d + 1, j, a, w, r, h => by
    unfold lM at h
    unfold Mean
    cases e1 : Nat.beq j 240 with
    | true => rw [e1] at h; cases h
    | false =>
      cases e2 : Nat.beq j 241 with
      | true => rw [e1, e2] at h; cases h
      | false =>
        rw [e1, e2] at h
        change (match mTab j with | some (_, _, nL, rt, np, kd, _, _, T) => bif (Nat.beq a.length (bif Nat.beq kd 0 then np else np + 1) && Nat.ble (lent0 a).length nL) then liter none (lM fu d) rt T fu (0, lent a nL, [], w) else none | none => none) = some r at h
        change (match mTab j with | some (_, _, nL, rt, np, kd, _, _, T) => bif (Nat.beq a.length (bif Nat.beq kd 0 then np else np + 1) && Nat.ble (lent0 a).length nL) then den none (Mean d) rt T (0, lent a nL, [], ab w) else none | none => none) = some (r.1, ab r.2)
        cases e3 : mTab j with
        | none => rw [e3] at h; cases h
        | some x =>
          obtain ⟨y1, y2, nL, rt, np, kd, y7, y8, T⟩ := x
          rw [e3] at h
          dsimp only at h ⊢
          cases e4 : (Nat.beq a.length (bif Nat.beq kd 0 then np else np + 1) && Nat.ble (lent0 a).length nL) with
          | false => rw [e4] at h; cases h
          | true =>
            rw [e4] at h
            exact den_of (liter_ok (lM_ok fu d) fu _ _ _ _ r h)
