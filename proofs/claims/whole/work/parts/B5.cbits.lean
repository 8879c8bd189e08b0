/-! Long.bitCount OF A RUN OF BITS -/
def bc1 (x : Int64) : Int64 := x - (((x.toUInt64 >>> ((1 : Int32).toInt64.toUInt64 &&& Int64.toUInt64 63)).toInt64) &&& (6148914691236517205 : Int64))
def bc2 (x : Int64) : Int64 := (x &&& (3689348814741910323 : Int64)) + ((x.toUInt64 >>> ((2 : Int32).toInt64.toUInt64 &&& Int64.toUInt64 63)).toInt64 &&& (3689348814741910323 : Int64))
def bc3 (x : Int64) : Int64 := (x + (x.toUInt64 >>> ((4 : Int32).toInt64.toUInt64 &&& Int64.toUInt64 63)).toInt64) &&& (1085102592571150095 : Int64)
def bc4 (x : Int64) : Int64 := x + (x.toUInt64 >>> ((8 : Int32).toInt64.toUInt64 &&& Int64.toUInt64 63)).toInt64
def bc5 (x : Int64) : Int64 := x + (x.toUInt64 >>> ((16 : Int32).toInt64.toUInt64 &&& Int64.toUInt64 63)).toInt64
def bc6 (x : Int64) : Int64 := x + (x.toUInt64 >>> ((32 : Int32).toInt64.toUInt64 &&& Int64.toUInt64 63)).toInt64
def bcF (x : Int64) : Int32 := (bc6 (bc5 (bc4 (bc3 (bc2 (bc1 x)))))).toInt32 &&& 127
def mkM (M : Nat) : Int64 := ((1 : Int64) <<< ((i32 (M : Int)).toInt64 &&& 63)) - 1
theorem bc_run {lo hi : Nat} (h1 : lo ≤ 41) (h2 : hi ≤ 41) : bcF (mkM hi &&& (mkM lo ^^^ (-1))) = i32 ((hi - lo : Nat) : Int) := by
  have : ∀ lo : Nat, lo < 42 → ∀ hi : Nat, hi < 42 → bcF (mkM hi &&& (mkM lo ^^^ (-1))) = i32 ((hi - lo : Nat) : Int) := by decide
  exact this lo (by omega) hi (by omega)
/-- the bits from lo on, below hi -/
def run (x : Int64) (lo hi : Nat) : Prop := (lo ≤ 41 ∧ hi ≤ 41) ∧ ∀ n : Nat, n < 64 → gb x n = decide (lo ≤ n ∧ n < hi)
theorem run_bc {x : Int64} {lo hi : Nat} (h : run x lo hi) : bcF x = i32 ((hi - lo : Nat) : Int) := by
  have e : x = mkM hi &&& (mkM lo ^^^ (-1)) := gb_ext (fun n hn => by
    rw [h.2 n hn, gb_and, gb_not _ hn, show gb (mkM hi) n = decide (n < hi) from gb_mask h.1.2 hn, show gb (mkM lo) n = decide (n < lo) from gb_mask h.1.1 hn]
    apply beq_iff
    rw [Bool.and_eq_true, Bool.not_eq_true', decide_eq_true_iff, decide_eq_true_iff, decide_eq_false_iff_not]
    omega)
  rw [e]
  exact bc_run h.1.1 h.1.2
theorem run_cnt {p : Nat → Bool} {lo hi : Nat} (hp : ∀ n : Nat, n < 41 → p n = decide (lo ≤ n ∧ n < hi)) : ∀ N : Nat, N ≤ 41 → cntN p N = (if N < hi then N else hi) - lo
  | 0, _ => by
    show 0 = _
    split <;> omega
  | N + 1, h => by
    show cntN p N + (if p N = true then 1 else 0) = _
    rw [run_cnt hp N (by omega), hp N (by omega)]
    by_cases c : lo ≤ N ∧ N < hi
    · rw [decide_eq_true c, if_pos rfl]
      split <;> split <;> omega
    · rw [decide_eq_false c, if_neg Bool.false_ne_true]
      split <;> split <;> omega
section
variable {d : Nat} {J : Nat → Nat → Int64} {Z : Nat → Nat → Int} {p0 p1 p2 p3 p4 p5 p6 p7 : Nat}
theorem h_bitCount (x : Int64) : Mean (d + 1) 239 [.long x] (176, zs Z, J, RP p0 p1 p2 p3 p4 p5 p6 p7) = some (some (.int (bcF x)), (176, zs Z, J, RP p0 p1 p2 p3 p4 p5 p6 p7)) := by
  rw [e_J_bit, k_J_bit_0]
  rfl
end
