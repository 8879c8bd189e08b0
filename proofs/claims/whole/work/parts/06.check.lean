/-! EVERY ROW OF THE TABLES IS WHAT THE BYTES AND THE STATEMENT'S WORDS SAY -/
def pwd (i : Nat) (w : Cond) : Bool := decide (lw_tbl[i]? = some w) && goodWord w
def pTT (a : Nat) : vw_C := (vwCl[a]?).getD (RX0, TX0, 0)
def pkd : FieldType → Nat
  | .int => 0
  | .boolean => 3
  | .long => 1
  | .object _ => 2
  | .array _ => 2
  | _ => 9
def pchkI (y : MethodName) (pc : Nat) (e : pI) : Bool := match e with
  | (i, len, a, b, k, v) => match i with
    | .iconst n => Nat.beq len 1 && decide (v = .int (Int32.ofInt n))
    | .bipush n => Nat.beq len 2 && decide (v = .int (Int8.ofInt n).toInt32)
    | .sipush n => Nat.beq len 3 && decide (v = .int (Int16.ofInt n).toInt32)
    | .lconst n => Nat.beq len 1 && decide (v = .long (Int64.ofNat n.val))
    | .ldc x => Nat.beq len 2 && (match v with
      | .int n => pwd k (.constant y.cls x n)
      | .retAddr (t + 1) => (match pTXT[t]? with
        | some tx => decide (lw_tbl[k]? = some (.stringRef y.cls x tx))
        | none => false)
      | _ => false)
    | .ldc_w x => Nat.beq len 3 && (match v with
      | .int n => pwd k (.constant y.cls x n)
      | _ => false)
    | .ldc2_w x => Nat.beq len 3 && (match v with
      | .long n => pwd k (.constantLong y.cls x n)
      | _ => false)
    | .iload_n _ => Nat.beq len 1
    | .lload_n _ => Nat.beq len 1
    | .aload_n _ => Nat.beq len 1
    | .istore_n _ => Nat.beq len 1
    | .lstore_n _ => Nat.beq len 1
    | .astore_n _ => Nat.beq len 1
    | .iload _ => Nat.beq len 2
    | .lload _ => Nat.beq len 2
    | .aload _ => Nat.beq len 2
    | .istore _ => Nat.beq len 2
    | .lstore _ => Nat.beq len 2
    | .astore _ => Nat.beq len 2
    | .iinc _ n => Nat.beq len 3 && decide (v = .int (Int32.ofInt n))
    | .ifCond _ off => Nat.beq len 3 && decide ((pc : Int) + off = (a : Int))
    | .if_icmp _ off => Nat.beq len 3 && decide ((pc : Int) + off = (a : Int))
    | .goto off => Nat.beq len 3 && decide ((pc : Int) + off = (a : Int))
    | .tableswitch d _ _ _ => decide ((pc : Int) + d = (a : Int))
    | .getfield x => Nat.beq len 3 && Nat.blt a 12 && Nat.blt b (nfd a) && (match v with
      | .retAddr kd => (Nat.beq kd (pkd (fty a b)) && pwd k (.fieldLink y.cls x ((pTT a).2.1 b).1 ((pTT a).2.1 b).2.1 ((pTT a).2.1 b).2.2.1)) || (Nat.beq kd 10 && Nat.beq 2 (pkd (fty a b)) && decide (lw_tbl[k]? = some (.fieldLinkNest y.cls x ((pTT a).2.1 b).1 ((pTT a).2.1 b).2.1 ((pTT a).2.1 b).2.2.1 "StepAway")))
      | _ => false)
    | .putfield x => Nat.beq len 3 && Nat.blt a 12 && Nat.blt b (nfd a) && (match v with
      | .retAddr kd => Nat.beq kd (pkd (fty a b)) && pwd k (.fieldLink y.cls x ((pTT a).2.1 b).1 ((pTT a).2.1 b).2.1 ((pTT a).2.1 b).2.2.1)
      | _ => false) && (!((pTT a).2.1 b).2.2.2 || (decide (y.name = "<init>") && decide (((pTT a).2.1 b).1 = y.cls)))
    | .newarray t => Nat.beq len 2 && pwd k (.arrayClass (pty t)) && decide (pty t ≠ .char)
    | .multianewarray x 2 => Nat.beq len 4 && pwd k (.classLink y.cls x ("[" ++ (FieldType.array (pety v)).toString)) && pwd b (.arrayClass (pety v)) && decide (lw_tbl[a]? = some (.arrayOver (.array (pety v))))
    | .new x => Nat.beq len 3 && Nat.blt a 12 && pwd k (.classLink y.cls x (pTT a).1) && pwd b (.instantiable (pTT a).1 (nfd a))
    | .invokevirtual x => Nat.beq len 3 && (match mTab a, v with
      | some (yc, _, _, _, np, kd, cn, _, _), .retAddr c => Nat.beq kd 2 && Nat.beq b (np + 1) && pwd k (.methodLink y.cls x yc) && Nat.beq c cn
      | _, _ => false)
    | .invokestatic x => Nat.beq len 3 && (match mTab a, v with
      | _, .double q => pwd k (.methodLink y.cls x (bif decide (q = 0) then Lib.Math.max.name else Lib.Math.min.name))
      | some (yc, _, _, _, np, kd, _, _, _), .retAddr c => Nat.beq kd 0 && Nat.beq b np && (bif Nat.blt c 100 then pwd k (.methodLink y.cls x yc) else decide (lw_tbl[k]? = some (.methodLinkNest y.cls x yc "StepAway")))
      | _, _ => false)
    | .invokespecial x => Nat.beq len 3 && (match v with
      | .null => pwd k (.methodLink y.cls x Lib.objectInit) && Nat.beq b 1
      | .retAddr c => (match mTab a with
        | some (yc, _, _, _, np, kd, _, _, _) => Nat.beq kd 1 && Nat.beq b (np + 1) && (bif Nat.blt c 100 then pwd k (.methodLink y.cls x yc) else decide (lw_tbl[k]? = some (.methodLinkNest y.cls x yc "StepAway")))
        | _ => false)
      | _ => false)
    | _ => Nat.beq len 1
def pchkR (y : MethodName) (cc : ByteArray) (q : Nat × pI) : Bool := decide (decode cc q.1 = .ok (q.2.1, q.2.2.1)) && pchkI y q.1 q.2
/-- a method's own words -/
def pchkW (M : pM) : Bool := match M with
  | (y, bs, nL, rt, np, kd, cn, ws, _) => pwd (ws.getD 0 0) (.code y bs nL rt) && pwd (ws.getD 1 0) (.initialized y.cls) && plainName y.cls && decide (y.cls ≠ "java/lang/invoke/MethodHandle") && decide (y.cls ≠ "java/lang/invoke/VarHandle") && decide ((parseMethodDescriptor y.desc).map (fun d => d.parameters.length) = some np) && Nat.ble nL 20 && (match kd with
    | 0 => pwd (ws.getD 2 0) (.static y)
    | 1 => pwd (ws.getD 2 0) (.instanceMethod y) && decide (y.name = "<init>") && decide (rt = none)
    | _ => pwd (ws.getD 2 0) (.instanceMethod y) && pwd (ws.getD 3 0) (.selects y.cls y y) && ((Nat.beq cn 99 && decide (y.cls = "java/lang/String")) || (Nat.blt cn 12 && decide (y.cls = (pTT cn).1))))
def pchkT (M : pM) : Bool := match M with
  | (y, bs, _, _, _, _, _, _, T) => T.all (pchkR y bs)
