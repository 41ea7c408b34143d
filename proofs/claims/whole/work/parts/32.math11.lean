/-- the ewes that graze -/
def grazN (I : Nat → Nat → Int) : Nat := bitsN (fun e => !decide (I 5 e = I 1 1) && decide (3 < stp (I 5 e) (I 4 0))) (I 1 6).toNat
def outN (I : Nat → Nat → Int) : Nat := bitsN (fun e => !decide (I 5 e = I 1 1)) (I 1 6).toNat
def movN (I : Nat → Nat → Int) (J : Nat → Nat → Int64) : Nat := bitsN (fun w => !decide (goalN (hv I J 1) (I 4 0) (I 5) w (I 2 w) = I 5 w)) (I 1 6).toNat
def heldN (I : Nat → Nat → Int) (J : Nat → Nat → Int64) : Int := ((iI (outN I : Nat) &&& (iI (grazN I : Nat) ^^^ iI (-1))) &&& (iI (movN I J : Nat) ^^^ iI (-1))).toInt
def lastF (C : Nat → Int) (pen : Int) : Nat → Int × Int
  | 0 => (-1, -1)
  | k + 1 => if (lastF C pen k).2 < stp (C k) pen then ((k : Int), stp (C k) pen) else lastF C pen k
theorem lastF_r {C : Nat → Int} {pen : Int} {k : Nat} (hk : k ≤ 5) (hd : 0 ≤ pen ∧ pen ≤ 66) (hC : ∀ e, e < 5 → 0 ≤ C e ∧ C e ≤ 66) : (-1 ≤ (lastF C pen k).1 ∧ (lastF C pen k).1 ≤ 5) ∧ -1 ≤ (lastF C pen k).2 ∧ (lastF C pen k).2 ≤ 18 := by
  induction k with
  | zero => simp [lastF]
  | succ k ih =>
    have h1 := ih (by omega)
    have h2 := hC k (by omega)
    have h4 := stp_r (c := C k) (d := pen) (by omega) (by omega)
    simp only [lastF]
    split
    · simp only; omega
    · exact h1
def fNear (I : Nat → Nat → Int) (w k : Int) : Int := if (0 ≤ w ∧ w < I 1 6) ∧ 0 ≤ k ∧ k ≤ 12 then 0 else -2
def nearN (I : Nat → Nat → Int) (w k : Int) : Nat := bitsN (fun e => decide (¬ (e : Int) = w) && decide (stp (I 5 e) (I 5 w.toNat) ≤ k)) (I 1 6).toNat
def fEwes (w : Int) : Int := if 0 ≤ w ∧ w ≤ 3 then 0 else -2
def ewesN (I : Nat → Nat → Int) (J : Nat → Nat → Int64) (w : Int) : Int :=
  if w = 0 then apF (I 5) (I 1 1) (I 1 6).toNat (I 1 6).toNat
  else if w = 1 then (bitsN (fun e => !decide (I 5 e = I 1 1) && decide (2 < farF (I 5) (I 1 1) e (I 1 6).toNat)) (I 1 6).toNat : Nat)
  else if w = 2 then (nearF (I 5) (I 1 1) (I 4 0) (I 1 6).toNat).1
  else (movN I J : Nat)
