/-- the ewes that graze -/
def grazN (I : Nat → Nat → Int) : Nat := bitsN (fun e => !decide (I 5 e = I 1 1) && decide (3 < stp (I 5 e) (I 4 0))) (I 1 6).toNat
def outN (I : Nat → Nat → Int) : Nat := bitsN (fun e => !decide (I 5 e = I 1 1)) (I 1 6).toNat
def movN (I : Nat → Nat → Int) (J : Nat → Nat → Int64) : Nat := bitsN (fun w => !decide (goalN (hv I J 1) (I 4 0) (I 5) w (I 2 w) = I 5 w)) (I 1 6).toNat
def heldN (I : Nat → Nat → Int) (J : Nat → Nat → Int64) : Int := ((iI (outN I : Nat) &&& (iI (grazN I : Nat) ^^^ iI (-1))) &&& (iI (movN I J : Nat) ^^^ iI (-1))).toInt
def lastF (C : Nat → Int) (pen : Int) : Nat → Int × Int
  | 0 => (-1, -1)
  | k + 1 => if (lastF C pen k).2 < stp (C k) pen then ((k : Int), stp (C k) pen) else lastF C pen k
theorem lastF_r {C : Nat → Int} {pen : Int} {k : Nat} (hk : k ≤ 5) (hd : 0 ≤ pen ∧ pen ≤ 66) (hC : ∀ e, e < 5 → 0 ≤ C e ∧ C e ≤ 66) : (-1 ≤ (lastF C pen k).1 ∧ (lastF C pen k).1 ≤ 5) ∧ -1 ≤ (lastF C pen k).2 ∧ (lastF C pen k).2 ≤ 18 := by
  induction k with
  | zero => simp [lastF]
  | succ k ih =>
    have h1 := ih (by omega)
    have h2 := hC k (by omega)
    have h4 := stp_r (c := C k) (d := pen) (by omega) (by omega)
    simp only [lastF]
    split
    · simp only; omega
    · exact h1
def fNear (I : Nat → Nat → Int) (w k : Int) : Int := if (0 ≤ w ∧ w < I 1 6) ∧ 0 ≤ k ∧ k ≤ 12 then 0 else -2
def nearN (I : Nat → Nat → Int) (w k : Int) : Nat := bitsN (fun e => decide (¬ (e : Int) = w) && decide (stp (I 5 e) (I 5 w.toNat) ≤ k)) (I 1 6).toNat
def fEwes (w : Int) : Int := if 0 ≤ w ∧ w ≤ 3 then 0 else -2
def ewesN (I : Nat → Nat → Int) (J : Nat → Nat → Int64) (w : Int) : Int :=
  if w = 0 then apF (I 5) (I 1 1) (I 1 6).toNat (I 1 6).toNat
  else if w = 1 then (bitsN (fun e => !decide (I 5 e = I 1 1) && decide (2 < farF (I 5) (I 1 1) e (I 1 6).toNat)) (I 1 6).toNat : Nat)
  else if w = 2 then (nearF (I 5) (I 1 1) (I 4 0) (I 1 6).toNat).1
  else (movN I J : Nat)
def fDone (I : Nat → Nat → Int) (J : Nat → Nat → Int64) (s n : Int) : Int := if ¬ frowN I s n 40 = 0 then frowN I s n 40 else if wrongN (I 1 0) (J 1 5) (I 1 1) (I 4 0) (J (19 + 2 * s.toNat + 1)) n.toNat = -1 then 0 else -5
def fTurn (I : Nat → Nat → Int) (J : Nat → Nat → Int64) (c : Int) : Int := if ¬ (0 ≤ c ∧ c < 5) then -2 else if canN (I 1 0) (J 1 5) (I 1 1) (I 4 0) c = false then -5 else 0
theorem isCmd_i {c : Int} (h : -2147483648 ≤ c ∧ c ≤ 2147483647) : isCmd (iI c).toInt64 = decide (0 ≤ c ∧ c < 5) := by
  have e : (iI c).toInt64.toInt = c := by
    exact i2l_toInt h
  simp [isCmd, e]
/-- the shelves that show a ewe that is gone show nothing: k of them -/
def dropI (I : Nat → Nat → Int) (c : Int) : Nat → Nat → Nat → Int
  | 0 => I
  | k + 1 => if 10 + c ≤ I (19 + 2 * k) 0 then zu (dropI I c k) (19 + 2 * k) 0 (-1) else dropI I c k
theorem dropI_o {I : Nat → Nat → Int} {c : Int} {i j : Nat} (h : i < 19) (k : Nat) : dropI I c k i j = I i j := by
  induction k with
  | zero => rfl
  | succ k ih => simp only [dropI]; split <;> simp [zu, ih] <;> omega
theorem dropI_s {I : Nat → Nat → Int} {c : Int} {e j : Nat} (k : Nat) (h : k ≤ e) : dropI I c k (19 + 2 * e) j = I (19 + 2 * e) j := by
  induction k with
  | zero => rfl
  | succ k ih => simp only [dropI]; split <;> simp [zu, ih (by omega)] <;> omega
/-- k turns of an evening -/
def eveC (I : Nat → Nat → Int) : Int := if ush16 (seedN (seedN (I 1 4))) % 12 < I 1 2 then I 4 1 else ush16 (seedN (I 1 4)) % 5
def eveI (I : Nat → Nat → Int) (J : Nat → Nat → Int64) : Nat → Nat → Nat → Int
  | 0 => I
  | k + 1 => zu (zSq (zu (zu (eveI I J k) 1 4 (seedN (eveI I J k 1 4))) 1 4 (seedN (seedN (eveI I J k 1 4)))) 4 (turnS (hv (eveI I J k) J 1) (spOf (eveI I J k) 4) (eveC (eveI I J k)))) 1 3 (eveI I J k 1 3 + 1)
theorem gH_z4 {I : Nat → Nat → Int} {v : Int} (h : gH I 1) : gH (zu I 1 4 v) 1 := h
theorem gH_z3 {I : Nat → Nat → Int} {v : Int} (h : gH I 1) : gH (zu I 1 3 v) 1 := h
theorem gS_z1 {I : Nat → Nat → Int} {k : Nat} {v : Int} (h : gS I 4) : gS (zu I 1 k v) 4 := h
theorem gL_zHl {I : Nat → Nat → Int} (h : gL I) : gL (zHl I 1 6) := fun k hk => by
  have e : zHl I 1 6 (19 + 2 * k) = I (19 + 2 * k) := by funext j; simp only [zHl]; rw [if_neg (by omega), if_neg (by omega), if_neg (by omega), if_neg (by omega), if_neg (by omega)]
  rw [e]; exact h k hk
theorem ush5 (s : Int) : 0 ≤ ush16 s % 5 ∧ ush16 s % 5 ≤ 4 := by omega
theorem eve_ok {I : Nat → Nat → Int} {J : Nat → Nat → Int64} (hg : gH I 1) (hq : gS I 4) (k : Nat) : gH (eveI I J k) 1 ∧ gS (eveI I J k) 4 := by
  induction k with
  | zero => exact ⟨hg, hq⟩
  | succ k ih =>
    have hc : 0 ≤ eveC (eveI I J k) ∧ eveC (eveI I J k) ≤ 4 := by
      have h1 := ih.2.2.1
      have h2 := ush5 (seedN (eveI I J k 1 4))
      unfold eveC; split <;> assumption
    refine ⟨gH_z3 (gH_sp isH_1 isS_4 (gH_z4 (gH_z4 ih.1))), gS_z1 (gS_of (gP_turn ih.1 (gP_of ih.2) hc))⟩
def fEve (n : Int) : Int := if 1 ≤ n ∧ n ≤ 60 then 0 else -2
def fJudge (I : Nat → Nat → Int) (s n : Int) : Int := frowN I s n 40
theorem fDone_r (I : Nat → Nat → Int) (J : Nat → Nat → Int64) (s n : Int) : fDone I J s n = 0 ∨ (-5 ≤ fDone I J s n ∧ fDone I J s n ≤ -2) := by
  have := frowN_c I s n 40
  unfold fDone
  (repeat' split) <;> omega
theorem fDone_0 {I : Nat → Nat → Int} {J : Nat → Nat → Int64} {s n : Int} (h : fDone I J s n = 0) : frowN I s n 40 = 0 ∧ ∀ k, k < n.toNat → isCmd (J (19 + 2 * s.toNat + 1) k) = true := by
  unfold fDone at h
  split at h
  · omega
  · next h1 =>
    refine ⟨by omega, fun k hk => ?_⟩
    split at h
    · next h2 =>
      unfold wrongN at h2
      split at h2
      · omega
      · next h3 =>
        have h4 := firstN_none.mp h3 k hk
        simp only [wrongP, Bool.not_eq_false', Bool.and_eq_true] at h4
        exact h4.1
    · omega
