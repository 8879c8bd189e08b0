/-! BITS of a long -/
def gb (x : Int64) (n : Nat) : Bool := x.toBitVec.getLsbD n
theorem gb_or (x y : Int64) (n : Nat) : gb (x ||| y) n = (gb x n || gb y n) := by
  unfold gb
  rw [Int64.toBitVec_or, BitVec.getLsbD_or]
theorem gb_and (x y : Int64) (n : Nat) : gb (x &&& y) n = (gb x n && gb y n) := by
  unfold gb
  rw [Int64.toBitVec_and, BitVec.getLsbD_and]
theorem gb_not {n : Nat} (x : Int64) (h : n < 64) : gb (x ^^^ (-1)) n = !gb x n := by
  unfold gb
  rw [Int64.toBitVec_xor, BitVec.getLsbD_xor, show (-1 : Int64).toBitVec = BitVec.allOnes 64 from rfl, BitVec.getLsbD_allOnes]
  simp [h]
theorem gb_big {x : Int64} {n : Nat} (h : 64 ≤ n) : gb x n = false := BitVec.getLsbD_of_ge _ _ h
theorem gb_0 (n : Nat) : gb 0 n = false := by
  unfold gb
  exact BitVec.getLsbD_zero
theorem gb_ext {x y : Int64} (h : ∀ n : Nat, n < 64 → gb x n = gb y n) : x = y := by
  apply Int64.toBitVec_inj.mp
  exact BitVec.eq_of_getLsbD_eq (fun i hi => h i hi)
theorem and63 {k : Nat} (h : k < 64) : ((i32 (k : Int)).toInt64 &&& 63).toBitVec = BitVec.ofNat 64 k := by
  have : ∀ k : Nat, k < 64 → ((i32 (k : Int)).toInt64 &&& 63).toBitVec = BitVec.ofNat 64 k := by decide
  exact this k h
theorem gb_shl {k n : Nat} (x : Int64) (h : k < 64) (hn : n < 64) : gb (x <<< ((i32 (k : Int)).toInt64 &&& 63)) n = (decide (k ≤ n) && gb x (n - k)) := by
  unfold gb
  rw [Int64.toBitVec_shiftLeft, and63 h]
  rw [show (BitVec.ofNat 64 k).smod 64 = BitVec.ofNat 64 k from (by decide : ∀ k : Nat, k < 64 → (BitVec.ofNat 64 k).smod 64 = BitVec.ofNat 64 k) k h]
  rw [BitVec.shiftLeft_eq', BitVec.getLsbD_shiftLeft]
  simp only [BitVec.toNat_ofNat]
  rw [Nat.mod_eq_of_lt (by omega : k < 2 ^ 64)]
  by_cases c : k ≤ n
  · simp [hn, c, Nat.not_lt.mpr c]
  · simp [hn, c, Nat.lt_of_not_le c]
theorem gb_sgn {k : Nat} (x : Int64) (h : k < 64) : ((x >>> ((i32 (k : Int)).toInt64 &&& 63)) &&& 1) = bif gb x k then 1 else 0 := by
  apply gb_ext
  intro n hn
  rw [gb_and]
  have h1 : ∀ n : Nat, n < 64 → gb 1 n = decide (n = 0) := by decide
  rw [h1 n hn]
  by_cases c : n = 0
  · subst c
    have e : gb (x >>> ((i32 (k : Int)).toInt64 &&& 63)) 0 = gb x k := by
      unfold gb
      rw [Int64.toBitVec_shiftRight, and63 h]
      rw [show (BitVec.ofNat 64 k).smod 64 = BitVec.ofNat 64 k from (by decide : ∀ k : Nat, k < 64 → (BitVec.ofNat 64 k).smod 64 = BitVec.ofNat 64 k) k h]
      rw [BitVec.sshiftRight_eq', BitVec.getLsbD_sshiftRight]
      simp only [BitVec.toNat_ofNat]
      rw [Nat.mod_eq_of_lt (by omega : k < 2 ^ 64)]
      simp [h]
    rw [e]
    cases gb x k <;> rfl
  · rw [decide_eq_false c]
    cases gb x k
    · simp [gb_0]
    · simp [h1 n hn, c]
theorem gb_mask {M n : Nat} (hM : M ≤ 41) (hn : n < 64) : gb (((1 : Int64) <<< ((i32 (M : Int)).toInt64 &&& 63)) - 1) n = decide (n < M) := by
  have : ∀ M : Nat, M < 42 → ∀ n : Nat, n < 64 → gb (((1 : Int64) <<< ((i32 (M : Int)).toInt64 &&& 63)) - 1) n = decide (n < M) := by decide
  exact this M (by omega) n hn
theorem gb_m2 {n : Nat} (hn : n < 64) : gb (-2) n = decide (1 ≤ n) := by
  have : ∀ n : Nat, n < 64 → gb (-2) n = decide (1 ≤ n) := by decide
  exact this n hn
theorem gb_1 {n : Nat} (hn : n < 64) : gb 1 n = decide (n = 0) := by
  have : ∀ n : Nat, n < 64 → gb 1 n = decide (n = 0) := by decide
  exact this n hn
theorem gb_nz {x : Int64} : x = 0 ↔ ∀ n : Nat, n < 64 → gb x n = false := by
  constructor
  · intro h n _
    rw [h, gb_0]
  · intro h
    exact gb_ext (fun n hn => by rw [h n hn, gb_0])
