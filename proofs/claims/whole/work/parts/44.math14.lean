/-! the counting of bits, as the platform does it -/
def iuN (a k : Int) : Int := (((iI a).toUInt32 >>> ((iI k).toUInt32 &&& Int32.toUInt32 31)).toInt32).toInt
def anN (a b : Int) : Int := (iI a &&& iI b).toInt
def bcI (x : Int) : Int :=
  let a1 := x - anN (iuN x 1) 1431655765
  let a2 := anN a1 858993459 + anN (iuN a1 2) 858993459
  let a3 := anN (a2 + iuN a2 4) 252645135
  let a4 := a3 + iuN a3 8
  let a5 := a4 + iuN a4 16
  anN a5 63
def bcL (x : Int64) : Int :=
  let a1 := x - (lus x 1 &&& 6148914691236517205)
  let a2 := (a1 &&& 3689348814741910323) + (lus a1 2 &&& 3689348814741910323)
  let a3 := (a2 + lus a2 4) &&& 1085102592571150095
  let a4 := a3 + lus a3 8
  let a5 := a4 + lus a4 16
  let a6 := a5 + lus a5 32
  anN a6.toInt 127
def fReach (n : Int) : Int := if 0 ≤ n ∧ n ≤ 99 then 0 else -2
def statusN (I : Nat → Nat → Int) (J : Nat → Nat → Int64) (w : Int) : Int :=
  if w = 0 then I 1 6 else if w = 1 then I 1 0 else if w = 2 then I 1 1 else if w = 3 then I 4 0 else if w = 4 then I 1 2 else if w = 5 then I 1 3
  else if w = 6 then inN (hv I J 1) (I 5) else if w = 7 then bcL (J 1 5) else if w = 8 then I 4 1 else if w = 9 then I 11 1 else if w = 10 then I 1 4 else if w = 11 then filledN I 8
  else if 12 ≤ w ∧ w < 17 then I 35 (w - 12).toNat else -1
def stillF (P : Nat → Bool) (V : Nat → Int) : Nat → Int × Int
  | 0 => (0, 0)
  | k + 1 => if P k = true then ((stillF P V k).1 + (if V k = 0 then 1 else 0), max (stillF P V k).2 (V k)) else stillF P V k
theorem stillF_r {P : Nat → Bool} {V : Nat → Int} {k : Nat} (hV : ∀ e, e < k → 0 ≤ V e ∧ V e ≤ 5) : (0 ≤ (stillF P V k).1 ∧ (stillF P V k).1 ≤ k) ∧ 0 ≤ (stillF P V k).2 ∧ (stillF P V k).2 ≤ 5 := by
  induction k with
  | zero => simp [stillF]
  | succ k ih =>
    have h1 := ih (fun e he => hV e (by omega))
    have h2 := hV k (by omega)
    simp only [stillF]
    split
    · simp only
      split <;> omega
    · omega
theorem bcI_r {m : Nat} (h : m < 32) : 0 ≤ bcI (m : Int) ∧ bcI (m : Int) ≤ 5 := by
  have : ∀ x : Fin 32, 0 ≤ bcI (x.val : Int) ∧ bcI (x.val : Int) ≤ 5 := by decide +kernel
  exact this ⟨m, h⟩
def movD (I : Nat → Nat → Int) (J : Nat → Nat → Int64) (c : Int) : Nat := bitsN (fun w => !decide (goalN (hv I J 1) c (I 5) w (I 2 w) = I 5 w)) (I 1 6).toNat
theorem movD_lt {I : Nat → Nat → Int} {J : Nat → Nat → Int64} {c : Int} (hg : gH I 1) : movD I J c < 32 := by
  obtain ⟨_, _, _, g4, _⟩ := hg
  exact Nat.lt_of_lt_of_le (bitsN_lt _ _) (Nat.pow_le_pow_right (n := 2) (by decide) (show (I 1 6).toNat ≤ 5 by omega))
def fStill (w : Int) : Int := if 0 ≤ w ∧ w ≤ 1 then 0 else -2
def stillN (I : Nat → Nat → Int) (J : Nat → Nat → Int64) (w : Int) : Int := if w = 0 then (stillF (fun (c : Nat) => dogsN (I 1 0) (J 1 5) (I 1 1) (c : Int)) (fun (c : Nat) => bcI (movD I J (c : Int))) 67).1 else (stillF (fun (c : Nat) => dogsN (I 1 0) (J 1 5) (I 1 1) (c : Int)) (fun (c : Nat) => bcI (movD I J (c : Int))) 67).2
