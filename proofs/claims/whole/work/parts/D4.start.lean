/-! THE START: both objects made, the invariant holds -/
def mS0 : Mat := (fun i => if i = 0 then 2 else if i = 3 then 1 else 0, fun _ _ => 0, fun _ _ => 0)
def zS (a j : Nat) : Int := (abI lSI a j).toInt
theorem zS_0 {a j : Nat} (h : lk lSI a j = 0) : zS a j = 0 := by
  show (Int32.ofNat (lk lSI a j)).toInt = 0
  rw [h]
  rfl
theorem zS_1 {a j : Nat} (h : lk lSI a j = 1) : zS a j = 1 := by
  show (Int32.ofNat (lk lSI a j)).toInt = 1
  rw [h]
  rfl
theorem zS_2 {a j : Nat} (h : lk lSI a j = 2) : zS a j = 2 := by
  show (Int32.ofNat (lk lSI a j)).toInt = 2
  rw [h]
  rfl
theorem zS_m {a j : Nat} (h : lk lSI a j = 4294967295) : zS a j = -1 := by
  show (Int32.ofNat (lk lSI a j)).toInt = -1
  rw [h]
  decide
theorem zS_zs : abI lSI = zs zS := by
  funext a j
  exact i32_of _
theorem mS_wf : wf mS0 := ⟨⟨by decide, by decide⟩, by decide, fun k hk => absurd hk (Nat.not_lt_zero k), fun k hk => absurd hk (Nat.not_lt_zero k), fun i _ => ⟨⟨by show (0 : Int) ≤ 0; decide, by show (0 : Int) ≤ 999; decide⟩, ⟨by show (0 : Int) ≤ 0; decide, by show (0 : Int) ≤ 999; decide⟩⟩, ⟨by decide, ⟨by decide, by decide⟩, by decide, by decide, by decide⟩, by decide⟩
theorem mS_wfT : wfT mS0 := ⟨mS_wf, fun k hk => absurd hk (Nat.not_lt_zero k)⟩
theorem mS_KM : KM mS0 20 zS := ⟨⟨zS_2 rfl, zS_0 rfl, zS_0 rfl, zS_1 rfl, zS_0 rfl, zS_0 rfl, zS_0 rfl⟩, fun k hk => absurd hk (Nat.not_lt_zero k), fun k hk => absurd hk (Nat.not_lt_zero k), fun i _ => ⟨zS_0 rfl, zS_0 rfl⟩⟩
theorem mS_KW : KW mS0 35 zS := ⟨⟨zS_1 rfl, zS_0 rfl, zS_0 rfl⟩, fun k hk => absurd hk (Nat.not_lt_zero k)⟩
theorem mS_KS : KS mS0 35 zS := ⟨mS_KW, fun i hi s hs => by
    have hi' : i < 2 := hi
    rcases (by omega : i = 0 ∨ i = 1) with rfl | rfl
    · exact zS_0 rfl
    · exact zS_0 rfl, fun i _ => zS_0 rfl⟩
theorem mS_KB : KB mS0 (qbre mS0) 43 zS := ⟨fun i _ => zS_0 rfl, fun i hi => by
    have hi' : i < 2 := hi
    rcases (by omega : i = 0 ∨ i = 1) with rfl | rfl
    · exact zS_1 rfl
    · exact zS_0 rfl⟩
theorem mS_sf (b : Nat → Int) (t : Nat) : ∀ n : Nat, sf mS0 b n 0 t = decide (n = 0)
  | 0 => rfl
  | n + 1 => by
    show ((!decide (0 = qfin mS0) && qstay mS0 b 0 (n + 1)) && onw mS0 (sf mS0 b n) 0 t) = decide (n + 1 = 0)
    have e : decide (0 = qfin mS0) = true := rfl
    rw [e]
    simp
theorem one_gb : ∀ n : Nat, n < 64 → gb (Int64.ofNat 1) n = decide (n = 0) := by decide +kernel
theorem mS_LR (u : Nat) (hu : u < qN mS0) : LR mS0 (qbre mS0) 43 (abJ lSJ) u := fun t n ht hn => by
  have hu' : u < 1 := hu
  have e : u = 0 := by omega
  subst e
  have ht' : t < 2 := ht
  have e1 : abJ lSJ (43 + 2 + t) 0 = Int64.ofNat 1 := by
    rcases (by omega : t = 0 ∨ t = 1) with rfl | rfl <;> rfl
  rw [e1, one_gb n hn]
  show _ = (if qmode mS0 = 2 then AL mS0 (fun u => sf mS0 (qbre mS0) n u 0) t 0 else sf mS0 (qbre mS0) n 0 t)
  rw [if_neg (by decide), mS_sf]
theorem mS_MR : MR mS0 zS := ⟨⟨zS_2 rfl, zS_0 rfl, zS_0 rfl, zS_1 rfl, zS_0 rfl, zS_0 rfl, zS_0 rfl⟩, fun k hk => absurd hk (Nat.not_lt_zero k), fun k hk => absurd hk (Nat.not_lt_zero k), fun i _ => ⟨zS_0 rfl, zS_0 rfl⟩⟩
theorem mS_mJk : mJk zS := ⟨fun j _ => by rw [zS_0 (a := 145) (j := j) rfl]; decide, fun j _ => by rw [zS_0 (a := 159) (j := j) rfl]; decide, fun j _ => by rw [zS_0 (a := 142) (j := j) rfl]; decide, fun j _ => by rw [zS_0 (a := 160) (j := j) rfl]; decide⟩
theorem mS_MT : MT mS0 zS := ⟨⟨zS_1 rfl, zS_0 rfl, zS_0 rfl⟩, fun q hq => by
    have hq' : q ≤ 0 := hq
    have e : q = 0 := by omega
    subst e
    exact zS_1 rfl, fun s _ q hq => absurd hq (Nat.not_lt_zero q), fun s hs q hq => zS_0 rfl⟩
theorem mS_IV : IV 20 5 mS0 0 0 (fun _ => 0) 0 zS (abJ lSJ) := by
  refine ⟨⟨Or.inr rfl, rfl⟩, ⟨⟨mS_wf, Or.inr rfl, mS_KM, mS_KS⟩, mS_KB, mS_LR⟩, ⟨⟨⟨mS_wf, mS_MR, mS_mJk, mS_MT⟩, fun i _ => zS_0 rfl⟩, mS_wfT⟩, ⟨Nat.zero_le 700, zS_0 rfl, zS_0 rfl, fun x _ => Or.inl ⟨Nat.zero_lt_succ 127, zS_0 rfl⟩, fun x _ => Or.inl ⟨Nat.zero_lt_succ 127, zS_0 rfl⟩⟩, ⟨⟨?_, ?_⟩, ?_, fun j _ => ?_⟩, ⟨⟨?_, ?_⟩, fun k i hk _ => ?_, fun k hk => ?_⟩, ⟨?_, ?_, fun h => ?_⟩, ⟨⟨?_, fun k hk => absurd hk (Nat.not_lt_zero k), fun k hk => absurd hk (Nat.not_lt_zero k)⟩, ⟨?_, fun k hk => absurd hk (Nat.not_lt_zero k), fun k hk => absurd hk (Nat.not_lt_zero k)⟩⟩⟩
  · rw [zS_0 (a := 3) (j := 5) rfl, zS_0 (a := 140) (j := 7) rfl]
  · rw [zS_m (a := 3) (j := 6) rfl, zS_m (a := 140) (j := 8) rfl]
  · rw [zS_0 (a := 20) (j := 0) rfl, zS_0 (a := 140) (j := 16) rfl]
  · rw [zS_0 (a := 154) (j := j) rfl]; decide
  · rw [zS_m (a := 52) (j := 3) rfl, zS_m (a := 140) (j := 60) rfl]
  · rw [zS_m (a := 52) (j := 3) rfl]; decide
  · rw [zS_m (a := 52) (j := 3) rfl] at hk; omega
  · rw [zS_m (a := 52) (j := 3) rfl] at hk; omega
  · rw [zS_0 (a := 129) (j := 4) rfl, zS_0 (a := 140) (j := 62) rfl]
  · rw [zS_0 (a := 140) (j := 62) rfl]; decide
  · rw [zS_0 (a := 140) (j := 62) rfl] at h; omega
  · rw [zS_0 (a := 140) (j := 68) rfl, zS_0 (a := 140) (j := 69) rfl, zS_0 (a := 140) (j := 70) rfl]; decide
  · rw [zS_0 (a := 132) (j := 0) rfl, zS_0 (a := 132) (j := 1) rfl, zS_0 (a := 132) (j := 2) rfl, zS_0 (a := 140) (j := 70) rfl]; decide
def rS (h k : Nat) : Option Nat := RP 20 5 20 35 20 35 20 97 h k
theorem rS_out {h k : Nat} (q : 176 ≤ h ∨ 128 ≤ k) : rS h k = none := by
  rcases q with q | q
  · have e : ∀ K : Nat, K ≤ 176 → Nat.blt h K = false := fun K hK => by
      cases q' : Nat.blt h K
      · rfl
      · have : h < K := by simpa [Nat.blt_eq] using q'
        omega
    have e2 : ∀ K : Nat, K < 176 → Nat.beq h K = false := fun K hK => by
      cases q' : Nat.beq h K
      · rfl
      · have : h = K := Nat.eq_of_beq_eq_true q'
        omega
    simp [rS, RP, FR, e, e2]
  · have e : ∀ K : Nat, K ≤ 128 → Nat.blt k K = false := fun K hK => by
      cases q' : Nat.blt k K
      · rfl
      · have : k < K := by simpa [Nat.blt_eq] using q'
        omega
    have e2 : ∀ K : Nat, K < 128 → Nat.beq k K = false := fun K hK => by
      cases q' : Nat.beq k K
      · rfl
      · have : k = K := Nat.eq_of_beq_eq_true q'
        omega
    simp [rS, RP, FR, e, e2]
def lent2 (l : lE) : Bool := l.all fun x => decide (rS x.1 x.2.1 = rN x.2.2)
theorem rS_ent : lent2 lSR = true := by decide +kernel
def rchk (h k : Nat) : Bool := match rS h k with
  | none => true
  | some x => Nat.beq (lk lSR h k) (x + 1)
def rall (h : Nat) : Nat → Bool
  | 0 => true
  | k + 1 => rchk h k && rall h k
theorem rall_ok {h : Nat} : ∀ (n k : Nat), rall h n = true → k < n → rchk h k = true
  | 0, k, _, hk => absurd hk (Nat.not_lt_zero k)
  | n + 1, k, e, hk => by
    have e' : (rchk h n && rall h n) = true := e
    rw [Bool.and_eq_true] at e'
    rcases Nat.lt_or_ge k n with q | q
    · exact rall_ok n k e'.2 q
    · have : k = n := by omega
      subst this
      exact e'.1
def rall2 : Nat → Bool
  | 0 => true
  | h + 1 => rall h 128 && rall2 h
theorem rall2_ok : ∀ (n h : Nat), rall2 n = true → h < n → rall h 128 = true
  | 0, k, _, hk => absurd hk (Nat.not_lt_zero k)
  | n + 1, k, e, hk => by
    have e' : (rall n 128 && rall2 n) = true := e
    rw [Bool.and_eq_true] at e'
    rcases Nat.lt_or_ge k n with q | q
    · exact rall2_ok n k e'.2 q
    · have : k = n := by omega
      subst this
      exact e'.1
theorem rS_all : rall2 176 = true := by decide +kernel
theorem lk_ent : ∀ (l : lE) (h k : Nat), lent2 l = true → lk l h k = 0 ∨ rS h k = rN (lk l h k)
  | [], _, _, _ => Or.inl rfl
  | (a, b, v) :: r, h, k, e => by
    have e' : (decide (rS a b = rN v) && lent2 r) = true := e
    rw [Bool.and_eq_true] at e'
    rw [lk_cons]
    by_cases h1 : h = a
    · by_cases h2 : k = b
      · rw [if_pos h1, if_pos h2, h1, h2]
        exact Or.inr (of_decide_eq_true e'.1)
      · rw [if_pos h1, if_neg h2]
        exact lk_ent r h k e'.2
    · rw [if_neg h1]
      exact lk_ent r h k e'.2
theorem lSR_eq : abR lSR = RP 20 5 20 35 20 35 20 97 := by
  funext h k
  show rN (lk lSR h k) = rS h k
  rcases lk_ent lSR h k rS_ent with e | e
  · rw [e]
    show none = rS h k
    by_cases q : 176 ≤ h ∨ 128 ≤ k
    · exact (rS_out q).symm
    · have c := rall_ok 128 k (rall2_ok 176 h rS_all (by omega)) (by omega)
      unfold rchk at c
      cases e2 : rS h k with
      | none => rfl
      | some x =>
        rw [e2] at c
        have c' := Nat.eq_of_beq_eq_true c
        omega
  · exact e.symm
theorem wS_WI : WI (ab lS) := ⟨20, 5, 35, 20, mS0, 0, 0, fun _ => 0, 0, zS, abJ lSJ, mS_IV, by
  show (176, abI lSI, abJ lSJ, abR lSR) = _
  rw [lSR_eq, zS_zs]⟩
theorem w00_ab : pnw w00 = ab (1, [], [], []) := ab_nw (n := 0) (i := []) (j := []) (r := []) (fun _ => ⟨rfl, rfl, rfl⟩)
theorem wS1_ab : pnw (ab lS1) = ab (141, lS1.2.1, lS1.2.2.1, lS1.2.2.2) := ab_nw (n := 140) (i := lS1.2.1) (j := lS1.2.2.1) (r := lS1.2.2.2) (fun b => ⟨rfl, rfl, rfl⟩)
section
variable {L : Nat} {xs : Nat → Int32}
theorem sw_0 : den (some (L, xs)) (Mean 40) (some .boolean) tQ_L_law (0, [some (.retAddr 0), none, none, none], [], w00) = den (some (L, xs)) (Mean 40) (some .boolean) tQ_L_law (4, [some (.retAddr 0), none, none, none], [.ref 0, .ref 0], pnw w00) := den_steps 2 rfl
theorem sw_4 : den (some (L, xs)) (Mean 40) (some .boolean) tQ_L_law (4, [some (.retAddr 0), none, none, none], [.ref 0, .ref 0], ab (1, [], [], [])) = den (some (L, xs)) (Mean 40) (some .boolean) tQ_L_law (7, [some (.retAddr 0), none, none, none], [.ref 0], ab lS1) := den_callv (o := Mean 40 105 [.ref 0] (ab (1, [], [], []))) rfl mrun1
theorem sw_7 : den (some (L, xs)) (Mean 40) (some .boolean) tQ_L_law (7, [some (.retAddr 0), none, none, none], [.ref 0], ab lS1) = den (some (L, xs)) (Mean 40) (some .boolean) tQ_L_law (12, [some (.retAddr 0), some (.ref 0), none, none], [.ref 140, .ref 140], pnw (ab lS1)) := den_steps 3 rfl
theorem sw_12 : den (some (L, xs)) (Mean 40) (some .boolean) tQ_L_law (12, [some (.retAddr 0), some (.ref 0), none, none], [.ref 140, .ref 140], ab (141, lS1.2.1, lS1.2.2.1, lS1.2.2.2)) = den (some (L, xs)) (Mean 40) (some .boolean) tQ_L_law (15, [some (.retAddr 0), some (.ref 0), none, none], [.ref 140], ab lS) := den_callv (o := Mean 40 162 [.ref 140] (ab (141, lS1.2.1, lS1.2.2.1, lS1.2.2.2))) rfl mrun2
theorem sw_15 : den (some (L, xs)) (Mean 40) (some .boolean) tQ_L_law (15, [some (.retAddr 0), some (.ref 0), none, none], [.ref 140], ab lS) = den (some (L, xs)) (Mean 40) (some .boolean) tQ_L_law (18, lwl 0, [], ab lS) := den_steps 3 rfl
theorem sw_all : den (some (L, xs)) (Mean 40) (some .boolean) tQ_L_law (0, [some (.retAddr 0), none, none, none], [], w00) = den (some (L, xs)) (Mean 40) (some .boolean) tQ_L_law (18, lwl 0, [], ab lS) := by
  rw [sw_0, w00_ab, sw_4, sw_7, wS1_ab, sw_12, sw_15]
end
theorem law_pure : lawPure := law_of (h := fun _ _ _ => ⟨ab lS, wS_WI, sw_all⟩)
