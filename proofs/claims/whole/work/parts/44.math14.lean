/-! the counting of bits, as the platform does it -/
def iuN (a k : Int) : Int := (((iI a).toUInt32 >>> ((iI k).toUInt32 &&& Int32.toUInt32 31)).toInt32).toInt
def anN (a b : Int) : Int := (iI a &&& iI b).toInt
def bcI (x : Int) : Int :=
  let a1 := x - anN (iuN x 1) 1431655765
  let a2 := anN a1 858993459 + anN (iuN a1 2) 858993459
  let a3 := anN (a2 + iuN a2 4) 252645135
  let a4 := a3 + iuN a3 8
  let a5 := a4 + iuN a4 16
  anN a5 63
def bcL (x : Int64) : Int :=
  let a1 := x - (lus x 1 &&& 6148914691236517205)
  let a2 := (a1 &&& 3689348814741910323) + (lus a1 2 &&& 3689348814741910323)
  let a3 := (a2 + lus a2 4) &&& 1085102592571150095
  let a4 := a3 + lus a3 8
  let a5 := a4 + lus a4 16
  let a6 := a5 + lus a5 32
  anN a6.toInt 127
def fReach (n : Int) : Int := if 0 ≤ n ∧ n ≤ 99 then 0 else -2
def statusN (I : Nat → Nat → Int) (J : Nat → Nat → Int64) (w : Int) : Int :=
  if w = 0 then I 1 6 else if w = 1 then I 1 0 else if w = 2 then I 1 1 else if w = 3 then I 4 0 else if w = 4 then I 1 2 else if w = 5 then I 1 3
  else if w = 6 then inN (hv I J 1) (I 5) else if w = 7 then bcL (J 1 5) else if w = 8 then I 4 1 else if w = 9 then I 11 1 else if w = 10 then I 1 4 else if w = 11 then filledN I 8
  else if 12 ≤ w ∧ w < 17 then I 35 (w - 12).toNat else -1
