/-! THE PURE MACHINE: one step, a walk, a method's meaning -/
def psh (w : pW) (h : Nat) : Option pS := bif Nat.blt h w.1 then SHget h else none
def pgo (pc : Nat) (L : List (Option Value)) (st : List Value) (w : pW) : pR := some (.inl (pc, L, st, w))
def pld (kd : Nat) (o : Option Value) : Option Value := match kd, o with
  | 0, some (.int x) => some (.int x)
  | 1, some (.long x) => some (.long x)
  | 2, some (.ref x) => some (.ref x)
  | 2, some (.retAddr x) => some (.retAddr x)
  | _, _ => none
def plo (kd pc : Nat) (L : List (Option Value)) (k : Nat) (st : List Value) (w : pW) : pR := match pld kd (lg L k) with
  | some u => pgo pc L (u :: st) w
  | none => none
def psi (pc : Nat) (L : List (Option Value)) (k : Nat) (st : List Value) (w : pW) : pR := match st with
  | .int x :: r => bif Nat.blt k L.length then pgo pc (ls1 L k (.int x)) r w else none
  | _ => none
def psa (pc : Nat) (L : List (Option Value)) (k : Nat) (st : List Value) (w : pW) : pR := match st with
  | .ref x :: r => bif Nat.blt k L.length then pgo pc (ls1 L k (.ref x)) r w else none
  | .retAddr x :: r => bif Nat.blt k L.length then pgo pc (ls1 L k (.retAddr x)) r w else none
  | _ => none
def psl (pc : Nat) (L : List (Option Value)) (k : Nat) (st : List Value) (w : pW) : pR := match st with
  | .long x :: r => bif Nat.blt (k + 1) L.length then pgo pc (ls2 L k (.long x)) r w else none
  | _ => none
def pii (f : Int32 → Int32 → Int32) (pc : Nat) (L : List (Option Value)) (st : List Value) (w : pW) : pR := match st with
  | .int y :: .int x :: r => pgo pc L (.int (f x y) :: r) w
  | _ => none
def pll (f : Int64 → Int64 → Int64) (pc : Nat) (L : List (Option Value)) (st : List Value) (w : pW) : pR := match st with
  | .long y :: .long x :: r => pgo pc L (.long (f x y) :: r) w
  | _ => none
def pli (f : Int64 → Int32 → Int64) (pc : Nat) (L : List (Option Value)) (st : List Value) (w : pW) : pR := match st with
  | .int y :: .long x :: r => pgo pc L (.long (f x y) :: r) w
  | _ => none
def pdv (f : Int32 → Int32 → Int32) (pc : Nat) (L : List (Option Value)) (st : List Value) (w : pW) : pR := match st with
  | .int y :: .int x :: r => if y = 0 then none else pgo pc L (.int (f x y) :: r) w
  | _ => none
def pgf (pc : Nat) (L : List (Option Value)) (st : List Value) (w : pW) (c k : Nat) (v : Value) : pR := match st with
  | .ref h :: r => match psh w h with
    | some (.inr c') => bif Nat.beq c c' then (match v with
      | .retAddr 0 => pgo pc L (.int (w.2.1 h k) :: r) w
      | .retAddr 1 => pgo pc L (.long (w.2.2.1 h k) :: r) w
      | .retAddr 3 => pgo pc L (.int (w.2.1 h k) :: r) w
      | _ => pgo pc L (va_rf (w.2.2.2 h k) :: r) w) else none
    | _ => none
  | _ => none
def ppf (pc : Nat) (L : List (Option Value)) (st : List Value) (w : pW) (c k : Nat) (v : Value) : pR := match st with
  | u :: .ref h :: r => match psh w h with
    | some (.inr c') => bif Nat.beq c c' then (match v, u with
      | .retAddr 0, .int x => pgo pc L r (w.1, u2 w.2.1 h k x, w.2.2)
      | .retAddr 1, .long x => pgo pc L r (w.1, w.2.1, u2 w.2.2.1 h k x, w.2.2.2)
      | .retAddr 3, .int x => if x = 0 ∨ x = 1 then pgo pc L r (w.1, u2 w.2.1 h k x, w.2.2) else none
      | .retAddr 2, .ref x => pgo pc L r (w.1, w.2.1, w.2.2.1, u2 w.2.2.2 h k (some x))
      | _, _ => none) else none
    | _ => none
  | _ => none
def pial (sc : pX) (pc : Nat) (L : List (Option Value)) (st : List Value) (w : pW) : pR := match st with
  | .int i :: .ref h :: r => match psh w h with
    | some (.inl (.int, n)) => if i < 0 ∨ n ≤ i.toNatClampNeg then none else pgo pc L (.int (w.2.1 h i.toNatClampNeg) :: r) w
    | _ => none
  | .int i :: .retAddr 0 :: r => match sc with
    | some (n, xs) => if i < 0 ∨ n ≤ i.toNatClampNeg then none else pgo pc L (.int (xs i.toNatClampNeg) :: r) w
    | none => none
  | _ => none
def pbal (pc : Nat) (L : List (Option Value)) (st : List Value) (w : pW) : pR := match st with
  | .int i :: .ref h :: r => match psh w h with
    | some (.inl (.byte, n)) => if i < 0 ∨ n ≤ i.toNatClampNeg then none else pgo pc L (.int (w.2.1 h i.toNatClampNeg) :: r) w
    | some (.inl (.boolean, n)) => if i < 0 ∨ n ≤ i.toNatClampNeg then none else pgo pc L (.int (w.2.1 h i.toNatClampNeg) :: r) w
    | _ => none
  | _ => none
def plal (pc : Nat) (L : List (Option Value)) (st : List Value) (w : pW) : pR := match st with
  | .int i :: .ref h :: r => match psh w h with
    | some (.inl (.long, n)) => if i < 0 ∨ n ≤ i.toNatClampNeg then none else pgo pc L (.long (w.2.2.1 h i.toNatClampNeg) :: r) w
    | _ => none
  | _ => none
def paal (pc : Nat) (L : List (Option Value)) (st : List Value) (w : pW) : pR := match st with
  | .int i :: .ref h :: r => match psh w h with
    | some (.inl (.array _, n)) => if i < 0 ∨ n ≤ i.toNatClampNeg then none else pgo pc L (va_rf (w.2.2.2 h i.toNatClampNeg) :: r) w
    | _ => none
  | _ => none
def pias (pc : Nat) (L : List (Option Value)) (st : List Value) (w : pW) : pR := match st with
  | .int x :: .int i :: .ref h :: r => match psh w h with
    | some (.inl (.int, n)) => if i < 0 ∨ n ≤ i.toNatClampNeg then none else pgo pc L r (w.1, u2 w.2.1 h i.toNatClampNeg x, w.2.2)
    | _ => none
  | _ => none
def pbas (pc : Nat) (L : List (Option Value)) (st : List Value) (w : pW) : pR := match st with
  | .int x :: .int i :: .ref h :: r => match psh w h with
    | some (.inl (.byte, n)) => if i < 0 ∨ n ≤ i.toNatClampNeg then none else pgo pc L r (w.1, u2 w.2.1 h i.toNatClampNeg (vp_nar .byte x), w.2.2)
    | some (.inl (.boolean, n)) => if i < 0 ∨ n ≤ i.toNatClampNeg then none else pgo pc L r (w.1, u2 w.2.1 h i.toNatClampNeg (vp_nar .boolean x), w.2.2)
    | _ => none
  | _ => none
def plas (pc : Nat) (L : List (Option Value)) (st : List Value) (w : pW) : pR := match st with
  | .long x :: .int i :: .ref h :: r => match psh w h with
    | some (.inl (.long, n)) => if i < 0 ∨ n ≤ i.toNatClampNeg then none else pgo pc L r (w.1, w.2.1, u2 w.2.2.1 h i.toNatClampNeg x, w.2.2.2)
    | _ => none
  | _ => none
def palen (sc : pX) (pc : Nat) (L : List (Option Value)) (st : List Value) (w : pW) : pR := match st with
  | .ref h :: r => match psh w h with
    | some (.inl (_, n)) => pgo pc L (.int (Int32.ofNat n) :: r) w
    | _ => none
  | .retAddr 0 :: r => match sc with
    | some (n, _) => pgo pc L (.int (Int32.ofNat n) :: r) w
    | none => none
  | _ => none
/-- a new cell, all of it 0 or null -/
def pnw (w : pW) : pW := (w.1 + 1, u1 w.2.1 w.1 0, u1 w.2.2.1 w.1 0, u1 w.2.2.2 w.1 none)
def pty (t : ArrayType) : FieldType := match t with
  | .int => .int
  | .long => .long
  | .byte => .byte
  | .boolean => .boolean
  | _ => .char
def pnar (t : ArrayType) (pc : Nat) (L : List (Option Value)) (st : List Value) (w : pW) : pR := match st with
  | .int n :: r => match SHget w.1 with
    | some (.inl (ty, N)) => bif (decide (ty = pty t) && decide (¬ n < 0) && decide (n.toNatClampNeg = N) && Nat.ble N 100000) then pgo pc L (.ref w.1 :: r) (pnw w) else none
    | _ => none
  | _ => none
/-- the rows of a new array of arrays: cells of one shape -/
def prows (h : Nat) (s : pS) : Nat → Bool
  | 0 => true
  | n + 1 => decide (SHget h = some s) && prows (h + 1) s n
def pnws : Nat → pW → pW
  | 0, w => w
  | n + 1, w => pnws n (pnw w)
def pety (v : Value) : FieldType := match v with
  | .retAddr 1 => .long
  | _ => .int
def pmna (v : Value) (pc : Nat) (L : List (Option Value)) (st : List Value) (w : pW) : pR := match st with
  | .int k :: .int n :: r => match SHget w.1 with
    | some (.inl (.array ty, N)) => bif (decide (ty = pety v) && decide (¬ n < 0) && decide (¬ k < 0) && decide (n.toNatClampNeg = N) && Nat.ble N 100000 && Nat.ble k.toNatClampNeg 100000 && prows (w.1 + 1) (.inl (ty, k.toNatClampNeg)) N) then
        (match pnws (N + 1) w with | (w1, w2, w3, w4) => pgo pc L (.ref w.1 :: r) (w1, w2, w3, fun a b => if a = w.1 then (if b < N then some (w.1 + 1 + b) else none) else w4 a b)) else none
    | _ => none
  | _ => none
def pnob (c pc : Nat) (L : List (Option Value)) (st : List Value) (w : pW) : pR := match SHget w.1 with
  | some (.inr c') => bif Nat.beq c c' then pgo pc L (.ref w.1 :: st) (pnw w) else none
  | _ => none
def psum : List Value → Nat
  | [] => 0
  | v :: r => (bif pcat (some v) then 2 else 1) + psum r
def prcv (w : pW) (v : Value) (as : List Value) : Bool := match v, as with
  | .retAddr 99, .retAddr k :: _ => Nat.blt 0 k && Nat.blt k 17
  | .retAddr c, .ref h :: _ => (match psh w h with | some (.inr c') => Nat.beq c c' && Nat.blt c 12 | _ => false)
  | _, _ => false
def pkc (r : Option (Option Value × pW)) (pc : Nat) (L : List (Option Value)) (st : List Value) : pR := match r with
  | some (some v, w') => pgo pc L (v :: st) w'
  | some (none, w') => pgo pc L st w'
  | none => none
def pcl (C : pC) (chk : Bool) (a b pc : Nat) (L : List (Option Value)) (st : List Value) (w : pW) : pR :=
  bif (Nat.ble b st.length && Nat.ble (psum (st.drop b)) 8 && chk) then pkc (C a (st.take b).reverse w) pc L (st.drop b) else none
def pret (rt : Option FieldType) (st : List Value) (w : pW) : pR := match st with
  | [.int x] => match rt with
    | some .int => some (.inr (some (.int x), w))
    | some .boolean => if x = 0 ∨ x = 1 then some (.inr (some (.int x), w)) else none
    | _ => none
  | _ => none
def pstep (sc : pX) (C : pC) (rt : Option FieldType) (e : pI) (pc : Nat) (L : List (Option Value)) (st : List Value) (w : pW) : pR :=
  match e with
  | (i, len, a, b, _, v) => match i with
    | .iconst _ => pgo (pc + len) L (v :: st) w
    | .bipush _ => pgo (pc + len) L (v :: st) w
    | .sipush _ => pgo (pc + len) L (v :: st) w
    | .lconst _ => pgo (pc + len) L (v :: st) w
    | .ldc _ => pgo (pc + len) L (v :: st) w
    | .ldc_w _ => pgo (pc + len) L (v :: st) w
    | .ldc2_w _ => pgo (pc + len) L (v :: st) w
    | .iload_n k => plo 0 (pc + len) L k.val st w
    | .iload k => plo 0 (pc + len) L k st w
    | .lload_n k => plo 1 (pc + len) L k.val st w
    | .lload k => plo 1 (pc + len) L k st w
    | .aload_n k => plo 2 (pc + len) L k.val st w
    | .aload k => plo 2 (pc + len) L k st w
    | .istore_n k => psi (pc + len) L k.val st w
    | .istore k => psi (pc + len) L k st w
    | .lstore_n k => psl (pc + len) L k.val st w
    | .lstore k => psl (pc + len) L k st w
    | .astore_n k => psa (pc + len) L k.val st w
    | .astore k => psa (pc + len) L k st w
    | .iinc k _ => (match lg L k, v with
      | some (.int x), .int n => bif Nat.blt k L.length then pgo (pc + len) (ls1 L k (.int (x + n))) st w else none
      | _, _ => none)
    | .iadd => pii (fun x y => x + y) (pc + len) L st w
    | .isub => pii (fun x y => x - y) (pc + len) L st w
    | .imul => pii (fun x y => x * y) (pc + len) L st w
    | .iand => pii (fun x y => x &&& y) (pc + len) L st w
    | .ior => pii (fun x y => x ||| y) (pc + len) L st w
    | .ishl => pii (fun x y => x <<< (y &&& 31)) (pc + len) L st w
    | .ishr => pii (fun x y => x >>> (y &&& 31)) (pc + len) L st w
    | .idiv => pdv (fun x y => x / y) (pc + len) L st w
    | .irem => pdv (fun x y => x - x / y * y) (pc + len) L st w
    | .ineg => (match st with
      | .int x :: r => pgo (pc + len) L (.int (-x) :: r) w
      | _ => none)
    | .ladd => pll (fun x y => x + y) (pc + len) L st w
    | .lsub => pll (fun x y => x - y) (pc + len) L st w
    | .lmul => pll (fun x y => x * y) (pc + len) L st w
    | .land => pll (fun x y => x &&& y) (pc + len) L st w
    | .lor => pll (fun x y => x ||| y) (pc + len) L st w
    | .lxor => pll (fun x y => x ^^^ y) (pc + len) L st w
    | .lshl => pli (fun x y => x <<< (y.toInt64 &&& 63)) (pc + len) L st w
    | .lshr => pli (fun x y => x >>> (y.toInt64 &&& 63)) (pc + len) L st w
    | .lushr => pli (fun x y => (x.toUInt64 >>> (y.toInt64.toUInt64 &&& Int64.toUInt64 63)).toInt64) (pc + len) L st w
    | .i2l => (match st with
      | .int x :: r => pgo (pc + len) L (.long x.toInt64 :: r) w
      | _ => none)
    | .l2i => (match st with
      | .long x :: r => pgo (pc + len) L (.int x.toInt32 :: r) w
      | _ => none)
    | .i2b => (match st with
      | .int x :: r => pgo (pc + len) L (.int x.toInt8.toInt32 :: r) w
      | _ => none)
    | .lcmp => (match st with
      | .long y :: .long x :: r => pgo (pc + len) L (.int (lg_cmp x y) :: r) w
      | _ => none)
    | .dup => (match st with
      | u :: r => bif pcat (some u) then none else pgo (pc + len) L (u :: u :: r) w
      | _ => none)
    | .dup2 => (match st with
      | u :: x :: r => bif pcat (some u) then none else (bif pcat (some x) then none else pgo (pc + len) L (u :: x :: u :: x :: r) w)
      | _ => none)
    | .pop => (match st with
      | u :: r => bif pcat (some u) then none else pgo (pc + len) L r w
      | _ => none)
    | .ifCond .eq _ => (match st with
      | .int x :: r => if x = 0 then pgo a L r w else pgo (pc + len) L r w
      | _ => none)
    | .ifCond .ne _ => (match st with
      | .int x :: r => if x = 0 then pgo (pc + len) L r w else pgo a L r w
      | _ => none)
    | .ifCond .lt _ => (match st with
      | .int x :: r => if x < 0 then pgo a L r w else pgo (pc + len) L r w
      | _ => none)
    | .ifCond .ge _ => (match st with
      | .int x :: r => if 0 ≤ x then pgo a L r w else pgo (pc + len) L r w
      | _ => none)
    | .ifCond .gt _ => (match st with
      | .int x :: r => if 0 < x then pgo a L r w else pgo (pc + len) L r w
      | _ => none)
    | .ifCond .le _ => (match st with
      | .int x :: r => if x ≤ 0 then pgo a L r w else pgo (pc + len) L r w
      | _ => none)
    | .if_icmp .eq _ => (match st with
      | .int y :: .int x :: r => if x = y then pgo a L r w else pgo (pc + len) L r w
      | _ => none)
    | .if_icmp .ne _ => (match st with
      | .int y :: .int x :: r => if x = y then pgo (pc + len) L r w else pgo a L r w
      | _ => none)
    | .if_icmp .lt _ => (match st with
      | .int y :: .int x :: r => if x < y then pgo a L r w else pgo (pc + len) L r w
      | _ => none)
    | .if_icmp .ge _ => (match st with
      | .int y :: .int x :: r => if y ≤ x then pgo a L r w else pgo (pc + len) L r w
      | _ => none)
    | .if_icmp .gt _ => (match st with
      | .int y :: .int x :: r => if y < x then pgo a L r w else pgo (pc + len) L r w
      | _ => none)
    | .if_icmp .le _ => (match st with
      | .int y :: .int x :: r => if x ≤ y then pgo a L r w else pgo (pc + len) L r w
      | _ => none)
    | .goto _ => pgo a L st w
    | .tableswitch _ lo hi offs => (match st with
      | .int x :: r => if x.toInt < lo ∨ hi < x.toInt then pgo a L r w else (match offs[(x.toInt - lo).toNat]? with
        | some off => if (pc : Int) + off < 0 then none else pgo ((pc : Int) + off).toNat L r w
        | none => none)
      | _ => none)
    | .getfield _ => pgf (pc + len) L st w a b v
    | .putfield _ => ppf (pc + len) L st w a b v
    | .iaload => pial sc (pc + len) L st w
    | .baload => pbal (pc + len) L st w
    | .laload => plal (pc + len) L st w
    | .aaload => paal (pc + len) L st w
    | .iastore => pias (pc + len) L st w
    | .bastore => pbas (pc + len) L st w
    | .lastore => plas (pc + len) L st w
    | .arraylength => palen sc (pc + len) L st w
    | .newarray t => pnar t (pc + len) L st w
    | .multianewarray _ 2 => pmna v (pc + len) L st w
    | .new _ => pnob a (pc + len) L st w
    | .invokevirtual _ => pcl C (prcv w v (st.take b).reverse) a b (pc + len) L st w
    | .invokestatic _ => (match v with
      | .double k => (match st with
        | .int y :: .int x :: r => bif Nat.ble (psum r) 8 then pgo (pc + len) L (.int (bif decide (k = 0) then (if x < y then y else x) else (if y < x then y else x)) :: r) w else none
        | _ => none)
      | _ => pcl C true a b (pc + len) L st w)
    | .invokespecial _ => (match v, st with
      | .null, .ref _ :: r => bif Nat.ble (psum r) 8 then pgo (pc + len) L r w else none
      | .retAddr _, _ => (match (st.take b).reverse with
        | .ref _ :: _ => pcl C true a b (pc + len) L st w
        | _ => none)
      | _, _ => none)
    | .ireturn => pret rt st w
    | .lreturn => (match st, rt with
      | [.long x], some .long => some (.inr (some (.long x), w))
      | _, _ => none)
    | .areturn => (match st, rt with
      | [.ref x], some (.object _) => some (.inr (some (.ref x), w))
      | _, _ => none)
    | .return_ => (match st, rt with
      | [], none => some (.inr (none, w))
      | _, _ => none)
    | _ => none
/-- one step of a method's walk -/
def pst (sc : pX) (C : pC) (rt : Option FieldType) (T : pT) (f : pF) : pR := match pfind f.1 T with
  | some e => pstep sc C rt e f.1 f.2.1 f.2.2.1 f.2.2.2
  | none => none
def piter (sc : pX) (C : pC) (rt : Option FieldType) (T : pT) : Nat → pF → Option (Option Value × pW)
  | 0, _ => none
  | n + 1, f => match pst sc C rt T f with
    | some (.inl f') => piter sc C rt T n f'
    | some (.inr r) => some r
    | none => none
theorem piter_mono (sc : pX) (C : pC) (rt : Option FieldType) (T : pT) : ∀ (n m : Nat) (f : pF) (r : Option Value × pW), piter sc C rt T n f = some r → n ≤ m → piter sc C rt T m f = some r := by
  intro n
  induction n with
  | zero => intro m f r h; cases h
  | succ n ih =>
    intro m f r h hm
    obtain ⟨m', rfl⟩ : ∃ m', m = m' + 1 := ⟨m - 1, by omega⟩
    simp only [piter] at h ⊢
    split at h
    · next f' hf => exact ih m' f' r h (by omega)
    · next r' hf => exact h
    · cases h

/-- what a walk comes to: none, if it never ends or goes wrong -/
noncomputable def den (sc : pX) (C : pC) (rt : Option FieldType) (T : pT) (f : pF) : Option (Option Value × pW) :=
  match Classical.propDecidable (∃ r n, piter sc C rt T n f = some r) with
  | isTrue h => some h.choose
  | isFalse _ => none
