/-- k times spread -/
def sprN (g b : Int64) : Nat → Int64
  | 0 => b
  | k + 1 => spreadN (sprN g b k) g
def pathP (g b w : Int64) (k : Nat) : Bool := !decide (sprN g b k &&& w = 0)
def pathN (g b w : Int64) : Int := match firstN (pathP g b w) 67 with
  | some e => e
  | none => -1
def weightN (H : HV) (wind : Int) (p : SP) (f : Nat → Int64) (lost n : Nat) : Int64 := if inN H (lostS H p f lost n).2.2 = H.2.2.2.1 then lostW wind lost n else 0
theorem inN_b {I : Nat → Nat → Int} {J : Nat → Nat → Int64} {h : Nat} {C : Nat → Int} (hg : gH I h) : 0 ≤ inN (hv I J h) C ∧ inN (hv I J h) C ≤ 5 := by
  obtain ⟨_, _, _, g4, _⟩ := hg
  have := cnt_r (fun e => decide (C e = I h 1)) (I h 6).toNat
  show 0 ≤ cnt (fun e => decide (C e = I h 1)) (I h 6).toNat ∧ cnt (fun e => decide (C e = I h 1)) (I h 6).toNat ≤ 5
  omega
theorem zSq_put {I : Nat → Nat → Int} {s w : Nat} {a b v : Int} {C : Nat → Int} : zu (zSq I s (a, b, C)) (s + 1) w v = zSq I s (a, b, up1 C w v) := by
  funext i k
  simp only [zu, zSq, zSp, up1]
  by_cases h1 : i = s + 1 <;> by_cases h2 : k = w <;> simp [h1, h2] <;> omega
def goesN (H : HV) (C : Nat → Int) (w : Nat) (kd : Int) (f h : Nat → Int64) (m : Nat) : Bool := decide (firstN (fun k => !sogoN H C w kd f h k) m = none)
def pow12 : Nat → Int64
  | 0 => 1
  | k + 1 => pow12 k * 12
def sumL (W : Nat → Int64) : Nat → Int64
  | 0 => 0
  | k + 1 => sumL W k + W k
def oddsN (H : HV) (wind : Int) (p : SP) (f : Nat → Int64) (m : Nat) : Int := if pow12 m < 1 then 0 else (sumL (fun k => weightN H wind p f k m) (2 ^ m) * 1000000 / pow12 m).toInt
def fOdds (I : Nat → Nat → Int) (J : Nat → Nat → Int64) (s n : Int) : Int := fcomN I J s n 6
theorem cells_0 {n : Int} {f : Nat → Int64} {m : Nat} (h : firstN (fun k => !cellsOk n f k) m = none) : ∀ k, k < m → 0 ≤ (f k).toInt ∧ (f k).toInt ≤ 66 := fun k hk => by
  have h4 := firstN_none.mp h k hk
  simp only [cellsOk, Bool.not_eq_false', Bool.and_eq_true, decide_eq_true_eq] at h4
  omega
def fKinds (I : Nat → Nat → Int) (J : Nat → Nat → Int64) (s t n w : Int) : Int :=
  if ¬ ((0 ≤ s ∧ s < 8) ∧ (0 ≤ t ∧ t < 8) ∧ (0 ≤ n ∧ n ≤ 40) ∧ (0 ≤ w ∧ w < I 1 6)) then -2
  else if 10 ≤ I (19 + 2 * s.toNat) 0 ∨ 10 ≤ I (19 + 2 * t.toNat) 0 then -3
  else if ¬ ((0 ≤ I (19 + 2 * s.toNat) 0 ∧ I (19 + 2 * s.toNat) 0 < 5) ∧ (0 ≤ I (19 + 2 * t.toNat) 0 ∧ I (19 + 2 * t.toNat) 0 < 5)) then -4
  else if ¬ (n ≤ I (19 + 2 * s.toNat) 1 ∧ n ≤ I (19 + 2 * t.toNat) 1) then -2
  else if I 5 w.toNat = I 1 1 ∨ ¬ firstN (fun k => !cellsOk (I 1 0) (J (19 + 2 * s.toNat + 1)) k) n.toNat = none ∨ ¬ firstN (fun k => !cellsOk (I 1 0) (J (19 + 2 * t.toNat + 1)) k) n.toNat = none then -5
  else 0
def kindsN (I : Nat → Nat → Int) (J : Nat → Nat → Int64) (s t n w : Int) : Nat := bitsN (fun k => goesN (hv I J 1) (I 5) w.toNat (k : Int) (J (19 + 2 * s.toNat + 1)) (J (19 + 2 * t.toNat + 1)) n.toNat) 6
