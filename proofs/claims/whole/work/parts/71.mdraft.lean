/-! A DRAFT, and THE MODEL'S name, pieceAt, close, readEach, readMode -/
abbrev rdA (a j : Nat) : Prop := (a = 140 ∧ 17 ≤ j ∧ j ≤ 31 ∧ j ≠ 24) ∨ (149 ≤ a ∧ a ≤ 156)
def AG (D Z : Nat → Nat → Int) : Prop := ∀ a j : Nat, rdA a j → Z a j = D a j
theorem AG_u {D Z : Nat → Nat → Int} (h : AG D Z) (a j : Nat) (v : Int) : AG (u2 D a j v) (u2 Z a j v) := fun x y hr => by
  by_cases c : x = a
  · subst c
    by_cases c2 : y = j
    · subst c2
      rw [u2s, u2s]
    · rw [u2f c2, u2f c2]
      exact h x y hr
  · rw [u2a c, u2a c]
    exact h x y hr
theorem AG_fx {D Z Z' : Nat → Nat → Int} {l : List Nat} (h : AG D Z) (hx : FX l Z Z') (hl : ∀ j : Nat, j ∈ l → j < 17 ∨ j = 48) : AG D Z' := fun a j hr => by
  by_cases c : a = 140
  · subst c
    rw [hx.2 j (fun q => by have := hl j q; omega)]
    exact h 140 j hr
  · rw [hx.1 a c]
    exact h a j hr
def RX (Z Z' : Nat → Nat → Int) : Prop := (∀ a : Nat, a ≠ 140 → (a < 149 ∨ 156 < a) → Z' a = Z a) ∧ ∀ j : Nat, (j < 3 ∨ (9 < j ∧ j < 17) ∨ j = 24 ∨ 31 < j) → Z' 140 j = Z 140 j
theorem RX_rfl {Z : Nat → Nat → Int} : RX Z Z := ⟨fun _ _ _ => rfl, fun _ _ => rfl⟩
theorem RX_tr {Z1 Z2 Z3 : Nat → Nat → Int} (h1 : RX Z1 Z2) (h2 : RX Z2 Z3) : RX Z1 Z3 := ⟨fun a ha hb => (h2.1 a ha hb).trans (h1.1 a ha hb), fun j hj => (h2.2 j hj).trans (h1.2 j hj)⟩
theorem RX_fx {Z1 Z2 Z3 : Nat → Nat → Int} {l : List Nat} (h1 : RX Z1 Z2) (h2 : FX l Z2 Z3) (hl : ∀ j : Nat, j ∈ l → (3 ≤ j ∧ j ≤ 9)) : RX Z1 Z3 := ⟨fun a ha hb => (h2.1 a ha).trans (h1.1 a ha hb), fun j hj => (h2.2 j (fun q => by have := hl j q; omega)).trans (h1.2 j hj)⟩
theorem RX_u {Z1 Z2 : Nat → Nat → Int} {a j : Nat} {v : Int} (h1 : RX Z1 Z2) (hr : rdA a j) : RX Z1 (u2 Z2 a j v) := ⟨fun x hx hb => (u2_ne (by omega)).trans (h1.1 x hx hb), fun y hy => by
  by_cases c : a = 140
  · subst c
    rw [u2f (by omega)]
    exact h1.2 y hy
  · rw [u2_ne (fun e => c e.symm)]
    exact h1.2 y hy⟩
theorem RX_TBz {tp : Nat → Nat} {Z Z' : Nat → Nat → Int} (h : RX Z Z') (ht : TBz tp Z) : TBz tp Z' := fun x hx => by
  rw [h.1 141 (by decide) (by decide)]
  exact ht x hx
def WB (Z : Nat → Nat → Int) : Prop := ∀ j : Nat, j < 18 → -999 ≤ Z 154 j ∧ Z 154 j ≤ 999
theorem AG_WB {D Z : Nat → Nat → Int} (h : AG D Z) (hw : WB D) : WB Z := fun j hj => by
  rw [h 154 j (Or.inr ⟨by decide, by decide⟩)]
  exact hw j hj
theorem WB_u {Z : Nat → Nat → Int} {a j : Nat} {v : Int} (h : WB Z) (ha : a ≠ 154) : WB (u2 Z a j v) := fun x hx => by
  rw [u2a (Ne.symm ha)]
  exact h x hx
theorem TK_rd {tp : Nat → Nat} {len q : Nat} {Z : Nat → Nat → Int} {a j : Nat} {v : Int} (hk : TK tp len q Z) (hr : rdA a j) : TK tp len q (u2 Z a j v) := by
  have e : ∀ x : Nat, x < 17 → u2 Z a j v 140 x = Z 140 x := fun x hx => by
    by_cases c : a = 140
    · subst c
      exact u2f (by omega)
    · exact u2a (fun e => c e.symm)
  unfold TK
  rw [e 2 (by decide), e 3 (by decide), e 4 (by decide), e 5 (by decide), e 6 (by decide)]
  exact hk
abbrev PS : Type := (Nat → Nat → Int) × (Nat → Int64) × Nat
abbrev PE : Type := Except (Int × Nat) PS
section
variable (tp : Nat → Nat) (len : Nat)
def wcd (f : Nat) : Nat → Int64
  | 0 => 0
  | n + 1 => (wcd f n <<< ((5 : Int32).toInt64 &&& 63)) ||| (i32 ((tp (f + n) : Int) - 96)).toInt64
def tkW (q : Nat) : Int64 := wcd tp (tkF tp len q) (tkB tp len q - tkF tp len q)
def pNum (q : Nat) (lo hi : Int) (k : Int → Nat → PE) : PE := if eNum tp len q lo hi = 0 then k (tkV tp len q) (tkB tp len q) else .error (eNum tp len q lo hi, tkF tp len q)
def pExp (q t : Nat) (k : Nat → PE) : PE := if tkIs tp len q t then k (tkB tp len q) else .error (1, tkF tp len q)
def pSgn (q : Nat) (k : Int → Nat → PE) : PE := if eNum tp len (sgQ tp len q) 0 999 = 0 then k (sgV tp len q) (tkB tp len (sgQ tp len q)) else .error (eNum tp len (sgQ tp len q) 0 999, tkF tp len (sgQ tp len q))
end
def pAt (N : Nat → Int64) (n : Nat) (w : Int64) : Int := if anyN (fun k => decide (N k = w)) n then (fstN (fun k => decide (N k = w)) n : Nat) else -1
theorem pAt_b (N : Nat → Int64) (n : Nat) (w : Int64) : pAt N n w = -1 ∨ (0 ≤ pAt N n w ∧ pAt N n w < n) := by
  unfold pAt
  split
  · rename_i h
    have := fstN_lt n h
    omega
  · exact Or.inl rfl
/-- the model stands at the TOKEN from q on, with a draft read -/
def PQ (tp : Nat → Nat) (len : Nat) (Z0 : Nat → Nat → Int) (J0 : Nat → Nat → Int64) (D : Nat → Nat → Int) (N : Nat → Int64) (q : Nat) (Z : Nat → Nat → Int) (J : Nat → Nat → Int64) : Prop := RX Z0 Z ∧ (∀ a : Nat, a ≠ 157 → J a = J0 a) ∧ (AG D Z ∧ WB D ∧ J 157 = N ∧ TK tp len q Z ∧ q ≤ len) ∧ (Z 140 7 = Z0 140 7 ∧ Z 140 8 = Z0 140 8)
def ME (Z0 : Nat → Nat → Int) (J0 : Nat → Nat → Int64) (R : Nat → Nat → Option Nat) (e : Int × Nat) (o : Option (Option Value × pW)) : Prop := ∃ (Z' : Nat → Nat → Int) (J' : Nat → Nat → Int64), RX Z0 Z' ∧ (∀ a : Nat, a ≠ 157 → J' a = J0 a) ∧ (Z' 140 7 = e.1 ∧ Z' 140 8 = (e.2 : Int)) ∧ WB Z' ∧ o = some (some (.int (i32 0)), (176, zs Z', J', R))
/-- what a part of the model's reading comes to -/
def MO (tp : Nat → Nat) (len : Nat) (Z0 : Nat → Nat → Int) (J0 : Nat → Nat → Int64) (R : Nat → Nat → Option Nat) (r : PE) (o : Option (Option Value × pW)) : Prop := match r with
  | .error e => ME Z0 J0 R e o
  | .ok s => ∃ (Z' : Nat → Nat → Int) (J' : Nat → Nat → Int64), PQ tp len Z0 J0 s.1 s.2.1 s.2.2 Z' J' ∧ o = some (some (.int (i32 1)), (176, zs Z', J', R))
section
variable {d : Nat} {J J0 : Nat → Nat → Int64} {Z Z0 D : Nat → Nat → Int} {N : Nat → Int64} {p0 p1 p2 p3 p4 p5 p6 p7 : Nat} {tp : Nat → Nat} {len q : Nat}
theorem PQ_fx {Z' : Nat → Nat → Int} {l : List Nat} {q' : Nat} (h : PQ tp len Z0 J0 D N q Z J) (hx : FX l Z Z') (hl : ∀ j : Nat, j ∈ l → (3 ≤ j ∧ j ≤ 6) ∨ j = 9) (hk : TK tp len q' Z') (hq : q' ≤ len) : PQ tp len Z0 J0 D N q' Z' J := ⟨RX_fx h.1 hx (fun j hj => by have := hl j hj; omega), h.2.1, ⟨AG_fx h.2.2.1.1 hx (fun j hj => by have := hl j hj; omega), h.2.2.1.2.1, h.2.2.1.2.2.1, hk, hq⟩, by rw [hx.2 7 (fun q => by have := hl 7 q; omega), hx.2 8 (fun q => by have := hl 8 q; omega)]; exact h.2.2.2⟩
theorem PQ_u (h : PQ tp len Z0 J0 D N q Z J) {a j : Nat} (v : Int) (hr : rdA a j) (hv : a ≠ 154 ∨ (-999 ≤ v ∧ v ≤ 999)) : PQ tp len Z0 J0 (u2 D a j v) N q (u2 Z a j v) J := by
  refine ⟨RX_u h.1 hr, h.2.1, ⟨AG_u h.2.2.1.1 a j v, ?_, h.2.2.1.2.2.1, TK_rd h.2.2.1.2.2.2.1 hr, h.2.2.1.2.2.2.2⟩, ?_⟩
  · intro x hx
    by_cases c : a = 154
    · subst c
      by_cases c2 : x = j
      · rw [c2, u2s]
        omega
      · rw [u2f c2]
        exact h.2.2.1.2.1 x hx
    · rw [u2a (fun e => c e.symm)]
      exact h.2.2.1.2.1 x hx
  · by_cases c : a = 140
    · subst c
      rw [u2f (by omega), u2f (by omega)]
      exact h.2.2.2
    · rw [u2a (fun e => c e.symm), u2a (fun e => c e.symm)]
      exact h.2.2.2
theorem PQ_fault {Z' : Nat → Nat → Int} (h : PQ tp len Z0 J0 D N q Z J) {l : List Nat} (hx : FX l Z Z') (hl : ∀ j : Nat, j ∈ l → (3 ≤ j ∧ j ≤ 9)) {e : Int} {pl : Nat} (he : Z' 140 7 = e ∧ Z' 140 8 = (pl : Int)) {o : Option (Option Value × pW)} (ho : o = some (some (.int (i32 0)), (176, zs Z', J, RP p0 p1 p2 p3 p4 p5 p6 p7))) : ME Z0 J0 (RP p0 p1 p2 p3 p4 p5 p6 p7) (e, pl) o := ⟨Z', J, RX_fx h.1 hx (fun j hj => by have := hl j hj; omega), h.2.1, he, by
  intro x hx'
  rw [hx.1 154 (by decide)]
  exact AG_WB h.2.2.1.1 h.2.2.1.2.1 x hx', ho⟩
theorem PQ_scan (hl : len ≤ 700) (ht : TBz tp Z0) (h : PQ tp len Z0 J0 D N q Z J) : ∃ Z' : Nat → Nat → Int, PQ tp len Z0 J0 D N (tkB tp len q) Z' J ∧ Mean (d + 2) 144 [.ref 140] (176, zs Z, J, RP p0 p1 p2 p3 p4 p5 p6 p7) = some (none, (176, zs Z', J, RP p0 p1 p2 p3 p4 p5 p6 p7)) := by
  obtain ⟨Z', e1, e2, e3⟩ := g_next2 (d := d) (J := J) (p0 := p0) (p1 := p1) (p2 := p2) (p3 := p3) (p4 := p4) (p5 := p5) (p6 := p6) (p7 := p7) hl h.2.2.1.2.2.2.2 (RX_TBz h.1 ht) h.2.2.1.2.2.2.1
  exact ⟨Z', PQ_fx h e1 (by decide) e2 (tk_le h.2.2.1.2.2.2.2).2.1.2, e3⟩
theorem PQ_wrong (h : PQ tp len Z0 J0 D N q Z J) (k : Int) : ∃ Z' : Nat → Nat → Int, (FX [7, 8] Z Z' ∧ (Z' 140 7 = k ∧ Z' 140 8 = (tkF tp len q : Int))) ∧ Mean (d + 1) 140 [.ref 140, .int (i32 k)] (176, zs Z, J, RP p0 p1 p2 p3 p4 p5 p6 p7) = some (some (.int (i32 0)), (176, zs Z', J, RP p0 p1 p2 p3 p4 p5 p6 p7)) := by
  obtain ⟨Z', e1, e2, e3⟩ := g_wrong (d := d) (J := J) (p0 := p0) (p1 := p1) (p2 := p2) (p3 := p3) (p4 := p4) (p5 := p5) (p6 := p6) (p7 := p7) (k := k) h.2.2.1.2.2.2.1.2.1
  exact ⟨Z', ⟨e1, e2⟩, e3⟩
theorem PQ_is (hl : len ≤ 700) (ht : TBz tp Z0) (h : PQ tp len Z0 J0 D N q Z J) {t : Nat} (h17 : t < 17) (h00 : 0 < t) : Mean (d + 7) 145 [.ref 140, .retAddr t] (176, zs Z, J, RP p0 p1 p2 p3 p4 p5 p6 p7) = some (some (.int (i32 (bB (tkIs tp len q t)))), (176, zs Z, J, RP p0 p1 p2 p3 p4 p5 p6 p7)) := g_is hl h.2.2.1.2.2.2.2 (RX_TBz h.1 ht) h.2.2.1.2.2.2.1 h17 h00
theorem PQ_num (hl : len ≤ 700) (ht : TBz tp Z0) (h : PQ tp len Z0 J0 D N q Z J) {lo hi : Int} (h1 : -10000 ≤ lo ∧ lo ≤ 10000) (h2 : -10000 ≤ hi ∧ hi ≤ 10000) : (eNum tp len q lo hi = 0 → ∃ Z' : Nat → Nat → Int, PQ tp len Z0 J0 D N (tkB tp len q) Z' J ∧ Z' 140 9 = tkV tp len q ∧ Mean (d + 3) 148 [.ref 140, .int (i32 lo), .int (i32 hi)] (176, zs Z, J, RP p0 p1 p2 p3 p4 p5 p6 p7) = some (some (.int (i32 1)), (176, zs Z', J, RP p0 p1 p2 p3 p4 p5 p6 p7))) ∧ (eNum tp len q lo hi ≠ 0 → ∃ Z' : Nat → Nat → Int, (FX [7, 8] Z Z' ∧ (Z' 140 7 = eNum tp len q lo hi ∧ Z' 140 8 = (tkF tp len q : Int))) ∧ Mean (d + 3) 148 [.ref 140, .int (i32 lo), .int (i32 hi)] (176, zs Z, J, RP p0 p1 p2 p3 p4 p5 p6 p7) = some (some (.int (i32 0)), (176, zs Z', J, RP p0 p1 p2 p3 p4 p5 p6 p7))) := by
  have hn := g_number (d := d) (J := J) (p0 := p0) (p1 := p1) (p2 := p2) (p3 := p3) (p4 := p4) (p5 := p5) (p6 := p6) (p7 := p7) hl h.2.2.1.2.2.2.2 (RX_TBz h.1 ht) h.2.2.1.2.2.2.1 h1 h2
  constructor
  · intro c
    obtain ⟨Z', e1, e2, e3, e4⟩ := hn.1 c
    exact ⟨Z', PQ_fx h e1 (by decide) e2 (tk_le h.2.2.1.2.2.2.2).2.1.2, e3, e4⟩
  · intro c
    obtain ⟨Z', e1, e2, e3⟩ := hn.2 c
    exact ⟨Z', ⟨e1, e2⟩, e3⟩
theorem PQ_look (h : PQ tp len Z0 J0 D N q Z J) {lo hi : Int} (h1 : -10000 ≤ lo ∧ lo ≤ 10000) (h2 : -10000 ≤ hi ∧ hi ≤ 10000) : (eNum tp len q lo hi = 0 → ∃ Z' : Nat → Nat → Int, PQ tp len Z0 J0 D N q Z' J ∧ Z' 140 9 = tkV tp len q ∧ Mean (d + 2) 147 [.ref 140, .int (i32 lo), .int (i32 hi)] (176, zs Z, J, RP p0 p1 p2 p3 p4 p5 p6 p7) = some (some (.int (i32 1)), (176, zs Z', J, RP p0 p1 p2 p3 p4 p5 p6 p7))) ∧ (eNum tp len q lo hi ≠ 0 → ∃ Z' : Nat → Nat → Int, (FX [7, 8] Z Z' ∧ (Z' 140 7 = eNum tp len q lo hi ∧ Z' 140 8 = (tkF tp len q : Int))) ∧ Mean (d + 2) 147 [.ref 140, .int (i32 lo), .int (i32 hi)] (176, zs Z, J, RP p0 p1 p2 p3 p4 p5 p6 p7) = some (some (.int (i32 0)), (176, zs Z', J, RP p0 p1 p2 p3 p4 p5 p6 p7))) := by
  have hn := g_look (d := d) (J := J) (p0 := p0) (p1 := p1) (p2 := p2) (p3 := p3) (p4 := p4) (p5 := p5) (p6 := p6) (p7 := p7) h.2.2.1.2.2.2.2 h.2.2.1.2.2.2.1 h1 h2
  constructor
  · intro c
    obtain ⟨Z', e1, e2, e3⟩ := hn.1 c
    exact ⟨Z', PQ_fx h e1 (by decide) (TK_fr h.2.2.1.2.2.2.1 e1 (by decide)) h.2.2.1.2.2.2.2, e2, e3⟩
  · intro c
    obtain ⟨Z', e1, e2, e3⟩ := hn.2 c
    exact ⟨Z', ⟨e1, e2⟩, e3⟩
theorem PQ_exp (hl : len ≤ 700) (ht : TBz tp Z0) (h : PQ tp len Z0 J0 D N q Z J) {t : Nat} (h17 : t < 17) (h00 : 0 < t) : (tkIs tp len q t = true → ∃ Z' : Nat → Nat → Int, PQ tp len Z0 J0 D N (tkB tp len q) Z' J ∧ Mean (d + 8) 149 [.ref 140, .retAddr t] (176, zs Z, J, RP p0 p1 p2 p3 p4 p5 p6 p7) = some (some (.int (i32 1)), (176, zs Z', J, RP p0 p1 p2 p3 p4 p5 p6 p7))) ∧ (tkIs tp len q t = false → ∃ Z' : Nat → Nat → Int, (FX [7, 8] Z Z' ∧ (Z' 140 7 = 1 ∧ Z' 140 8 = (tkF tp len q : Int))) ∧ Mean (d + 8) 149 [.ref 140, .retAddr t] (176, zs Z, J, RP p0 p1 p2 p3 p4 p5 p6 p7) = some (some (.int (i32 0)), (176, zs Z', J, RP p0 p1 p2 p3 p4 p5 p6 p7))) := by
  have hn := g_expect (d := d) (J := J) (p0 := p0) (p1 := p1) (p2 := p2) (p3 := p3) (p4 := p4) (p5 := p5) (p6 := p6) (p7 := p7) hl h.2.2.1.2.2.2.2 (RX_TBz h.1 ht) h.2.2.1.2.2.2.1 h17 h00
  constructor
  · intro c
    obtain ⟨Z', e1, e2, e3⟩ := hn.1 c
    exact ⟨Z', PQ_fx h e1 (by decide) e2 (tk_le h.2.2.1.2.2.2.2).2.1.2, e3⟩
  · intro c
    obtain ⟨Z', e1, e2, e3⟩ := hn.2 c
    exact ⟨Z', ⟨e1, e2⟩, e3⟩
theorem PQ_sgn (hl : len ≤ 700) (ht : TBz tp Z0) (h : PQ tp len Z0 J0 D N q Z J) : (eNum tp len (sgQ tp len q) 0 999 = 0 → ∃ Z' : Nat → Nat → Int, PQ tp len Z0 J0 D N (tkB tp len (sgQ tp len q)) Z' J ∧ (Z' 140 9 = sgV tp len q ∧ (-999 ≤ sgV tp len q ∧ sgV tp len q ≤ 999)) ∧ Mean (d + 4) 150 [.ref 140] (176, zs Z, J, RP p0 p1 p2 p3 p4 p5 p6 p7) = some (some (.int (i32 1)), (176, zs Z', J, RP p0 p1 p2 p3 p4 p5 p6 p7))) ∧ (eNum tp len (sgQ tp len q) 0 999 ≠ 0 → ∃ Z' : Nat → Nat → Int, (FX [3, 4, 5, 6, 7, 8] Z Z' ∧ (Z' 140 7 = eNum tp len (sgQ tp len q) 0 999 ∧ Z' 140 8 = (tkF tp len (sgQ tp len q) : Int))) ∧ Mean (d + 4) 150 [.ref 140] (176, zs Z, J, RP p0 p1 p2 p3 p4 p5 p6 p7) = some (some (.int (i32 0)), (176, zs Z', J, RP p0 p1 p2 p3 p4 p5 p6 p7))) := by
  have hn := g_signed (d := d) (J := J) (p0 := p0) (p1 := p1) (p2 := p2) (p3 := p3) (p4 := p4) (p5 := p5) (p6 := p6) (p7 := p7) hl h.2.2.1.2.2.2.2 (RX_TBz h.1 ht) h.2.2.1.2.2.2.1
  constructor
  · intro c
    obtain ⟨Z', e1, e2, e3, e4⟩ := hn.1 c
    refine ⟨Z', PQ_fx h e1 (by decide) e2 (tk_le (sgQ_le h.2.2.1.2.2.2.2).2).2.1.2, ⟨e3, ?_⟩, e4⟩
    unfold eNum at c
    split at c
    · split at c
      · unfold sgV
        split <;> omega
      · omega
    · omega
  · intro c
    obtain ⟨Z', e1, e2, e3⟩ := hn.2 c
    exact ⟨Z', ⟨e1, e2⟩, e3⟩
theorem PQ_kind (h : PQ tp len Z0 J0 D N q Z J) : (0 ≤ Z 140 5 ∧ Z 140 5 ≤ 4) ∧ (tkK tp len q = 1 → Z 140 5 = 1) ∧ (tkK tp len q ≠ 1 → Z 140 5 ≠ 1) ∧ (tkK tp len q = 0 → Z 140 5 = 0) ∧ (tkK tp len q ≠ 0 → Z 140 5 ≠ 0) := by
  have := h.2.2.1.2.2.2.1.2.2.2.1
  rw [this]
  unfold mh
  split
  · omega
  · split <;> omega
theorem g_name (hl : len ≤ 700) (ht : TBz tp Z) (hk : TK tp len q Z) (hq : q ≤ len) : Mean (d + 2) 151 [.ref 140] (176, zs Z, J, RP p0 p1 p2 p3 p4 p5 p6 p7) = some (some (.long (tkW tp len q)), (176, zs Z, J, RP p0 p1 p2 p3 p4 p5 p6 p7)) := by
  obtain ⟨⟨a1, a2⟩, ⟨a3, a4⟩, a5⟩ := tk_le (tp := tp) hq
  have key := up_eq (fun n => den none (Mean (d + 1)) (some .long) tQ_X11_name (7, [some (.ref 140), some (.long (wcd tp (tkF tp len q) n)), none, some (.int (i32 ((tkF tp len q + n : Nat) : Int)))], [], 176, zs Z, J, RP p0 p1 p2 p3 p4 p5 p6 p7)) (tkB tp len q - tkF tp len q) (fun n hn => by
    have e : bt tp len (tkF tp len q + n) = tp (tkF tp len q + n) := if_pos (by omega)
    have hb := ht (tkF tp len q + n) (by omega)
    rw [k_X11_name_7]
    simp (disch := omega) only [k_X11_name_0, k_X11_name_15, k_X11_name_23, k_X11_name_35, zs_ap, i32_add, i32_sub, i32_mul, i32_neg, i32_lt, i32_le, i32_eq, i32_nat, ckn, pka_r, pka_v, if_pos, if_neg, if_true, if_false, hk.2.2.1, g_byteAt ht hl hk.1, e, li_96, li_1]
    rfl)
  rw [e_X11_name]
  simp (disch := omega) only [k_X11_name_0, k_X11_name_15, k_X11_name_23, k_X11_name_35, li_0, li_1, li_2, li_3, li_4, li_5, li_6, li_9, li_10, li_40, lm_1, lm_2, lm_3, lm_4, zs_ap, i32_add, i32_sub, i32_mul, i32_neg, i32_lt, i32_le, i32_eq, i32_nat, ckn, pka_r, pka_v, if_pos, if_neg, if_true, if_false, hk.2.1]
  refine Eq.trans key ?_
  rw [k_X11_name_7]
  simp (disch := omega) only [k_X11_name_0, k_X11_name_15, k_X11_name_23, k_X11_name_35, li_0, li_1, li_2, li_3, li_4, li_5, li_6, li_9, li_10, li_40, lm_1, lm_2, lm_3, lm_4, zs_ap, i32_add, i32_sub, i32_mul, i32_neg, i32_lt, i32_le, i32_eq, i32_nat, ckn, pka_r, pka_v, if_pos, if_neg, if_true, if_false, hk.2.2.1]
  rfl
theorem PQ_at (hl : len ≤ 700) (ht : TBz tp Z0) (h : PQ tp len Z0 J0 D N q Z J) {n : Nat} (hn : D 140 18 = (n : Int)) (hn6 : n ≤ 6) : Mean (d + 3) 152 [.ref 140] (176, zs Z, J, RP p0 p1 p2 p3 p4 p5 p6 p7) = some (some (.int (i32 (pAt N n (tkW tp len q)))), (176, zs Z, J, RP p0 p1 p2 p3 p4 p5 p6 p7)) := by
  have h18 : Z 140 18 = (n : Int) := by rw [h.2.2.1.1 140 18 (by decide), hn]
  have hN : J 157 = N := h.2.2.1.2.2.1
  have hnm := g_name (d := d) (J := J) (p0 := p0) (p1 := p1) (p2 := p2) (p3 := p3) (p4 := p4) (p5 := p5) (p6 := p6) (p7 := p7) hl (RX_TBz h.1 ht) h.2.2.1.2.2.2.1 h.2.2.1.2.2.2.2
  have key := srch (fun k => den none (Mean (d + 2)) (some .int) tQ_X11_pieceAt (2, [some (.ref 140), some (.int (i32 (k : Int)))], [], 176, zs Z, J, RP p0 p1 p2 p3 p4 p5 p6 p7)) (fun k => decide (N k = tkW tp len q)) n (fun k => some (some (.int (i32 (k : Int))), (176, zs Z, J, RP p0 p1 p2 p3 p4 p5 p6 p7))) (fun k hk hp => by
    have e : J 157 k = tkW tp len q := by rw [hN]; exact of_decide_eq_true hp
    rw [k_X11_pieceAt_2]
    simp (disch := omega) only [k_X11_pieceAt_0, k_X11_pieceAt_10, k_X11_pieceAt_16, k_X11_pieceAt_20, k_X11_pieceAt_24, k_X11_pieceAt_26, k_X11_pieceAt_32, li_0, li_1, li_2, li_3, li_4, li_5, li_6, li_9, li_10, li_40, lm_1, lm_2, lm_3, lm_4, zs_ap, i32_add, i32_sub, i32_mul, i32_neg, i32_lt, i32_le, i32_eq, i32_nat, ckn, pka_r, pka_v, if_pos, if_neg, if_true, if_false, h18, Int.toNat_natCast, hnm, cmp_z, e]) (fun k hk hp => by
    have e : J 157 k ≠ tkW tp len q := by rw [hN]; simpa using hp
    rw [k_X11_pieceAt_2]
    simp (disch := omega) only [k_X11_pieceAt_0, k_X11_pieceAt_10, k_X11_pieceAt_16, k_X11_pieceAt_20, k_X11_pieceAt_24, k_X11_pieceAt_26, k_X11_pieceAt_32, li_0, li_1, li_2, li_3, li_4, li_5, li_6, li_9, li_10, li_40, lm_1, lm_2, lm_3, lm_4, zs_ap, i32_add, i32_sub, i32_mul, i32_neg, i32_lt, i32_le, i32_eq, i32_nat, ckn, pka_r, pka_v, if_pos, if_neg, if_true, if_false, h18, Int.toNat_natCast, hnm, cmp_z, e]
    rfl)
  rw [e_X11_pieceAt, k_X11_pieceAt_0]
  refine Eq.trans key ?_
  unfold pAt
  by_cases c : anyN (fun k => decide (N k = tkW tp len q)) n = true
  · rw [if_pos c, if_pos c]
  · rw [if_neg c, if_neg c, k_X11_pieceAt_2]
    simp (disch := omega) only [k_X11_pieceAt_0, k_X11_pieceAt_10, k_X11_pieceAt_16, k_X11_pieceAt_20, k_X11_pieceAt_24, k_X11_pieceAt_26, k_X11_pieceAt_32, li_0, li_1, li_2, li_3, li_4, li_5, li_6, li_9, li_10, li_40, lm_1, lm_2, lm_3, lm_4, zs_ap, i32_add, i32_sub, i32_mul, i32_neg, i32_lt, i32_le, i32_eq, i32_nat, ckn, pka_r, pka_v, if_pos, if_neg, if_true, if_false, h18]
end
