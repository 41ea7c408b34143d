/-! what a public call comes to: f 0: it is met; else the refusal -/
def uR (f ok : Int) : Int := if f = 0 then ok else f
def uI (I : Nat → Nat → Int) (f : Int) (ok : Nat → Nat → Int) : Nat → Nat → Int := if f = 0 then ok else refI I f
def uJ (J : Nat → Nat → Int64) (f : Int) (ok : Nat → Nat → Int64) : Nat → Nat → Int64 := if f = 0 then ok else J
theorem uR0 {f ok : Int} (h : f = 0) : uR f ok = ok := if_pos h
theorem uI0 {I : Nat → Nat → Int} {f : Int} {ok : Nat → Nat → Int} (h : f = 0) : uI I f ok = ok := if_pos h
theorem uJ0 {J : Nat → Nat → Int64} {f : Int} {ok : Nat → Nat → Int64} (h : f = 0) : uJ J f ok = ok := if_pos h
theorem uRc {f ok c : Int} (h : f = c) (hc : c ≠ 0) : uR f ok = c := by subst h; exact if_neg hc
theorem uIc {I : Nat → Nat → Int} {f c : Int} {ok : Nat → Nat → Int} (h : f = c) (hc : c ≠ 0) : uI I f ok = refI I c := by subst h; exact if_neg hc
theorem uJc {J : Nat → Nat → Int64} {f c : Int} {ok : Nat → Nat → Int64} (h : f = c) (hc : c ≠ 0) : uJ J f ok = J := by subst h; exact if_neg hc
theorem frowN_c (I : Nat → Nat → Int) (s n limit : Int) : frowN I s n limit = 0 ∨ (-4 ≤ frowN I s n limit ∧ frowN I s n limit ≤ -2) := by
  unfold frowN
  (repeat' split) <;> omega
def fRow (s so n : Int) : Int := if (0 ≤ s ∧ s < 8) ∧ (0 ≤ so ∧ so < 5) ∧ (0 ≤ n ∧ n ≤ 40) then 0 else -2
def fSet (I : Nat → Nat → Int) (s i : Int) : Int := if ¬ frowN I s 0 40 = 0 then frowN I s 0 40 else if 0 ≤ i ∧ i < I (19 + 2 * s.toNat) 1 then 0 else -2
def rowAt (I : Nat → Nat → Int) (s : Int) : Prop := 0 ≤ I (19 + 2 * s.toNat) 0 ∧ I (19 + 2 * s.toNat) 0 < 5
def fCopy (I : Nat → Nat → Int) (p r i j n : Int) : Int :=
  if ¬ ((0 ≤ p ∧ p < 8) ∧ (0 ≤ r ∧ r < 8)) then -2
  else if 10 ≤ I (19 + 2 * p.toNat) 0 ∨ 10 ≤ I (19 + 2 * r.toNat) 0 ∨ ((0 ≤ I (19 + 2 * p.toNat) 0 ∧ I (19 + 2 * p.toNat) 0 < 5) ∧ (0 ≤ I (19 + 2 * r.toNat) 0 ∧ I (19 + 2 * r.toNat) 0 < 5) ∧ ¬ I (19 + 2 * p.toNat) 0 = I (19 + 2 * r.toNat) 0) then -3
  else if ¬ ((0 ≤ I (19 + 2 * p.toNat) 0 ∧ I (19 + 2 * p.toNat) 0 < 5) ∧ (0 ≤ I (19 + 2 * r.toNat) 0 ∧ I (19 + 2 * r.toNat) 0 < 5)) then -4
  else if ¬ (((0 ≤ n ∧ n ≤ I (19 + 2 * p.toNat) 1) ∧ 0 ≤ i ∧ i ≤ I (19 + 2 * p.toNat) 1 - n) ∧ ((0 ≤ n ∧ n ≤ I (19 + 2 * r.toNat) 1) ∧ 0 ≤ j ∧ j ≤ I (19 + 2 * r.toNat) 1 - n)) then -2
  else 0
def elemN (I : Nat → Nat → Int) (J : Nat → Nat → Int64) (s i : Int) : Int64 := if (0 ≤ s ∧ s < 8) ∧ (0 ≤ I (19 + 2 * s.toNat) 0 ∧ I (19 + 2 * s.toNat) 0 < 5) ∧ 0 ≤ i ∧ i < I (19 + 2 * s.toNat) 1 then J (19 + 2 * s.toNat + 1) i.toNat else 0
def holdsN (I : Nat → Nat → Int) (s : Int) : Int := if 0 ≤ s ∧ s < 8 then I (19 + 2 * s.toNat) 0 else -1
def fShow (I : Nat → Nat → Int) (s e : Int) : Int := if (0 ≤ s ∧ s < 8) ∧ (e = -1 ∨ (0 ≤ e ∧ e < I 1 6)) then 0 else -2
def fSays (I : Nat → Nat → Int) (s kd : Int) : Int :=
  if ¬ ((0 ≤ s ∧ s < 8) ∧ (0 ≤ kd ∧ kd < 6)) then -2
  else if 0 ≤ I (19 + 2 * s.toNat) 0 ∧ I (19 + 2 * s.toNat) 0 < 5 then -3
  else if ¬ 10 ≤ I (19 + 2 * s.toNat) 0 then -4
  else if (0 ≤ I (19 + 2 * s.toNat) 0 - 10 ∧ I (19 + 2 * s.toNat) 0 - 10 < I 1 6) ∧ underN (I 2 (I (19 + 2 * s.toNat) 0 - 10).toNat) kd = true then 0 else -3
def saysN (I : Nat → Nat → Int) (J : Nat → Nat → Int64) (s kd : Int) : Int := if kd = 0 then I 3 (I (19 + 2 * s.toNat) 0 - 10).toNat else goalN (hv I J 1) (I 4 0) (I 5) (I (19 + 2 * s.toNat) 0 - 10).toNat (I 2 (I (19 + 2 * s.toNat) 0 - 10).toNat)
def fSide (I : Nat → Nat → Int) (n : Int) : Int := if n < 3 ∨ n < I 1 0 ∨ 7 < n then -2 else 0
def fWall (I : Nat → Nat → Int) (c : Int) (b : Bool) : Int := if isCellN (I 1 0) c = false then -2 else if b = true ∧ mayWN I 1 c = false then -5 else 0
def fPen (I : Nat → Nat → Int) (J : Nat → Nat → Int64) (c : Int) : Int := if isCellN (I 1 0) c = false then -2 else if mayPN I (J 1 5) 1 c = false then -5 else 0
def fDog (I : Nat → Nat → Int) (J : Nat → Nat → Int64) (c : Int) : Int := if isCellN (I 1 0) c = false then -2 else if dogsN (I 1 0) (J 1 5) (I 1 1) c = false then -5 else 0
def fEwe (I : Nat → Nat → Int) (J : Nat → Nat → Int64) (kd a c : Int) : Int := if ¬ ((0 ≤ kd ∧ kd < 6) ∧ (0 ≤ a ∧ a ≤ 9) ∧ isCellN (I 1 0) c = true) then -2 else if openN (I 1 0) (J 1 5) c = false then -5 else if 5 ≤ I 1 6 then -6 else 0
def fMove (I : Nat → Nat → Int) (J : Nat → Nat → Int64) (e c : Int) : Int := if ¬ ((0 ≤ e ∧ e < I 1 6) ∧ isCellN (I 1 0) c = true) then -2 else if openN (I 1 0) (J 1 5) c = false then -5 else 0
def fWind (v : Int) : Int := if 0 ≤ v ∧ v ≤ 12 then 0 else -2
def fFeed (I : Nat → Nat → Int) (c : Int) : Int := if ¬ (0 ≤ c ∧ c ≤ 255) then -2 else if 250 ≤ I 11 1 then -6 else 0
def fEweOf (I : Nat → Nat → Int) (e what : Int) : Int := if ¬ (0 ≤ e ∧ e < I 1 6) then -2 else if 0 ≤ what ∧ what ≤ 5 then 0 else -2
def eweOfN (I : Nat → Nat → Int) (e : Nat) (what : Int) : Int := if what = 0 then I 2 e else if what = 1 then I 3 e else if what = 2 then I 5 e else if what = 3 then bI (decide (I 5 e = I 1 1)) else if what = 4 then stp (I 5 e) (I 4 0) else stp (I 5 e) (I 1 1)
def fHasW (I : Nat → Nat → Int) (c : Int) : Int := if isCellN (I 1 0) c = false then -2 else 0
theorem isCellN_r {n c : Int} (hn : n ≤ 7) (h : isCellN n c = true) : 0 ≤ c ∧ c ≤ 66 := by
  simp only [isCellN, decide_eq_true_eq] at h
  omega
