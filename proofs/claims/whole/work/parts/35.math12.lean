/-- the first of the least, with the least; (-1, 0): none -/
def leastF (P : Nat → Bool) (v : Nat → Int) : Nat → Int × Int
  | 0 => (-1, 0)
  | k + 1 => if P k = true ∧ ((leastF P v k).1 = -1 ∨ v k < (leastF P v k).2) then ((k : Int), v k) else leastF P v k
theorem leastF_r {P : Nat → Bool} {v : Nat → Int} {k : Nat} (hk : k ≤ 67) (hv : ∀ e, e < k → P e = true → -1000 ≤ v e ∧ v e ≤ 1000) : (-1 ≤ (leastF P v k).1 ∧ (leastF P v k).1 ≤ 67) ∧ -1000 ≤ (leastF P v k).2 ∧ (leastF P v k).2 ≤ 1000 := by
  induction k with
  | zero => simp [leastF]
  | succ k ih =>
    have h1 := ih (by omega) (fun e he => hv e (by omega))
    simp only [leastF]
    split
    · next h =>
      have := hv k (by omega) h.1
      simp only; omega
    · exact h1
theorem sumN_b {f : Nat → Int} {b : Int} {k : Nat} (h : ∀ e, e < k → 0 ≤ f e ∧ f e ≤ b) : 0 ≤ sumN f k ∧ sumN f k ≤ k * b := by
  induction k with
  | zero => simp [sumN]
  | succ k ih =>
    have h1 := ih (fun e he => h e (by omega))
    have h2 := h k (by omega)
    simp only [sumN]
    have h3 : ((k + 1 : Nat) : Int) * b = k * b + b := by rw [Int.natCast_add, Int.add_mul]; simp
    omega
theorem penN_b {I : Nat → Nat → Int} {J : Nat → Nat → Int64} {h : Nat} {C : Nat → Int} (hg : gH I h) (hC : ∀ e, e < 5 → 0 ≤ C e ∧ C e ≤ 66) : 0 ≤ penN (hv I J h) C ∧ penN (hv I J h) C ≤ 90 := by
  obtain ⟨g1, g2, g3, g4, g5, g6⟩ := hg
  have h1 := sumN_b (f := fun e => stp (C e) (I h 1)) (b := 18) (k := (I h 6).toNat) (fun e he => stp_r (by have := hC e (by omega); omega) (by omega))
  show 0 ≤ sumN (fun e => stp (C e) (I h 1)) (I h 6).toNat ∧ sumN (fun e => stp (C e) (I h 1)) (I h 6).toNat ≤ 90
  omega
/-- how far off THE DOG may be that ewe w would go -/
def shyF (P : Nat → Bool) (v : Nat → Int) : Nat → Int
  | 0 => -1
  | k + 1 => if P k = true then (if shyF P v k ≤ v k then v k else shyF P v k) else shyF P v k
theorem shyF_r {P : Nat → Bool} {v : Nat → Int} {k : Nat} (hv : ∀ e, e < k → 0 ≤ v e ∧ v e ≤ 1000) : -1 ≤ shyF P v k ∧ shyF P v k ≤ 1000 := by
  induction k with
  | zero => simp [shyF]
  | succ k ih =>
    have h1 := ih (fun e he => hv e (by omega))
    have h2 := hv k (by omega)
    simp only [shyF]
    (repeat' split) <;> omega
def fLate (I : Nat → Nat → Int) (J : Nat → Nat → Int64) (s n l : Int) : Int := if 0 ≤ l ∧ l ≤ 3 then fcomN I J s n 40 else -2
def fBehind (I : Nat → Nat → Int) (J : Nat → Nat → Int64) (s n w : Int) : Int := if (0 ≤ w ∧ w ≤ 2) ∨ (10 ≤ w ∧ w < 15 ∧ w - 10 < I 1 6) then fDone I J s n else -2
def behindN (I : Nat → Nat → Int) (J : Nat → Nat → Int64) (s n w : Int) : Int :=
  if w = 0 then inN (hv I J 1) (runS (hv I J 1) (spOf I 4) (fun k => (J (19 + 2 * s.toNat + 1) k).toInt) n.toNat).2.2
  else if w = 1 then (runS (hv I J 1) (spOf I 4) (fun k => (J (19 + 2 * s.toNat + 1) k).toInt) n.toNat).1
  else if w = 2 then apF (runS (hv I J 1) (spOf I 4) (fun k => (J (19 + 2 * s.toNat + 1) k).toInt) n.toNat).2.2 (I 1 1) (I 1 6).toNat (I 1 6).toNat
  else (runS (hv I J 1) (spOf I 4) (fun k => (J (19 + 2 * s.toNat + 1) k).toInt) n.toNat).2.2 (w - 10).toNat
theorem fcomN_0 {I : Nat → Nat → Int} {J : Nat → Nat → Int64} {s n l : Int} (h : fcomN I J s n l = 0) : frowN I s n l = 0 ∧ ∀ k, k < n.toNat → isCmd (J (19 + 2 * s.toNat + 1) k) = true := by
  unfold fcomN at h
  split at h
  · omega
  · next h1 =>
    refine ⟨by omega, fun k hk => ?_⟩
    split at h
    · next h2 =>
      have h4 := firstN_none.mp h2 k hk
      simpa using h4
    · omega
def fShy (I : Nat → Nat → Int) (w : Int) : Int := if 0 ≤ w ∧ w < I 1 6 then 0 else -2
def shyN (I : Nat → Nat → Int) (J : Nat → Nat → Int64) (w : Nat) : Int := shyF (fun (c : Nat) => dogsN (I 1 0) (J 1 5) (I 1 1) (c : Int) && !decide (goalN (hv I J 1) (c : Int) (I 5) w (I 2 w) = I 5 w)) (fun (c : Nat) => stp (c : Int) (I 5 w)) 67
theorem fcomN_c (I : Nat → Nat → Int) (J : Nat → Nat → Int64) (s n l : Int) : fcomN I J s n l = 0 ∨ (-5 ≤ fcomN I J s n l ∧ fcomN I J s n l ≤ -2) := by
  have := frowN_c I s n 0
  unfold fcomN
  have h1 : frowN I s n l = 0 ∨ (-4 ≤ frowN I s n l ∧ frowN I s n l ≤ -2) := by
    unfold frowN
    (repeat' split) <;> omega
  (repeat' split) <;> omega
