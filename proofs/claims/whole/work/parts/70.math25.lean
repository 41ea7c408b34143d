/-! the reference's own ways of counting -/
theorem lastF_i {C : Nat → Int} {pen : Int} (hp : 0 ≤ pen ∧ pen ≤ 66) (hC : ∀ e, e < 5 → 0 ≤ C e ∧ C e ≤ 66) (k : Nat) (hk : k ≤ 5) : (k = 0 ∧ lastF C pen k = (-1, -1)) ∨ (1 ≤ k ∧ 0 ≤ (lastF C pen k).1 ∧ (lastF C pen k).1 < k ∧ (lastF C pen k).2 = stp (C (lastF C pen k).1.toNat) pen) := by
  induction k with
  | zero => exact .inl ⟨rfl, rfl⟩
  | succ k ih =>
    refine .inr ⟨by omega, ?_⟩
    have hk5 := hC k (by omega)
    have hst := stp_r (c := C k) (d := pen) (by omega) (by omega)
    simp only [lastF]
    split
    · dsimp only
      exact ⟨by omega, by omega, rfl⟩
    · next h =>
      rcases ih (by omega) with ⟨h1, h2⟩ | ⟨h1, h2, h3, h4⟩
      · rw [h2] at h
        dsimp only at h
        omega
      · exact ⟨h2, by omega, h4⟩
theorem nearF_i {C : Nat → Int} {pen dog : Int} (k : Nat) : (nearF C pen dog k).1 = -1 ∨ (0 ≤ (nearF C pen dog k).1 ∧ (nearF C pen dog k).1 < k ∧ (nearF C pen dog k).2 = stp (C (nearF C pen dog k).1.toNat) dog) := by
  induction k with
  | zero => exact .inl rfl
  | succ k ih =>
    simp only [nearF]
    split
    · exact .inr ⟨by dsimp only; omega, by dsimp only; omega, rfl⟩
    · rcases ih with h | ⟨h1, h2, h3⟩
      · exact .inl h
      · exact .inr ⟨h1, by omega, h3⟩
def apI (C : Nat → Int) (pen : Int) (e : Nat) (m : Int) : Nat → Int
  | 0 => m
  | f + 1 => if ¬ C e = pen ∧ ¬ C f = pen then max (apI C pen e m f) (stp (C e) (C f)) else apI C pen e m f
def apO (C : Nat → Int) (pen : Int) : Nat → Int
  | 0 => 0
  | e + 1 => apI C pen e (apO C pen e) e
theorem apI_r {C : Nat → Int} {pen m : Int} {e : Nat} (he : e < 5) (hm : 0 ≤ m ∧ m ≤ 18) (hC : ∀ e, e < 5 → 0 ≤ C e ∧ C e ≤ 66) : ∀ f, f ≤ 5 → 0 ≤ apI C pen e m f ∧ apI C pen e m f ≤ 18 := by
  intro f
  induction f with
  | zero => intro _; exact hm
  | succ f ih =>
    intro hf
    have h1 := ih (by omega)
    have h2 := hC e he
    have h3 := hC f (by omega)
    have h4 := stp_r (c := C e) (d := C f) (by omega) (by omega)
    simp only [apI]
    split <;> omega
theorem apO_r {C : Nat → Int} {pen : Int} (hC : ∀ e, e < 5 → 0 ≤ C e ∧ C e ≤ 66) : ∀ e, e ≤ 5 → 0 ≤ apO C pen e ∧ apO C pen e ≤ 18 := by
  intro e
  induction e with
  | zero => intro _; simp [apO]
  | succ e ih =>
    intro he
    exact apI_r (by omega) (ih (by omega)) hC e (by omega)
def fkP (C : Nat → Int) (pen : Int) (e f : Nat) : Bool := !decide (e = f) && (!decide (C e = pen) && (!decide (C f = pen) && decide (2 < stp (C e) (C f))))
def fkQ (C : Nat → Int) (pen : Int) (n e : Nat) : Bool := (firstN (fkP C pen e) n).isSome
def fkV (b e : Nat) (o : Option Nat) : Nat := if o.isSome then b + 2 ^ e else b
theorem fkV_s {b e : Nat} (hb : b < 2 ^ e) (he : e < 30) {P : Nat → Bool} {f : Nat} (h : P f = true) : iI (fkV b e (firstN P f) : Nat) ||| iI ((2 ^ e : Nat) : Int) = iI (fkV b e (firstN P (f + 1)) : Nat) := by
  have h1 : (firstN P (f + 1)).isSome = true := by
    simp only [firstN]
    cases hf : firstN P f with
    | some x => rfl
    | none => simp [h]
  have h2 : fkV b e (firstN P (f + 1)) = b + 2 ^ e := by unfold fkV; rw [if_pos h1]
  rw [h2]
  unfold fkV
  split
  · have hp : 2 ^ e ≤ 2 ^ 29 := Nat.pow_le_pow_right (by decide) (by omega)
    rw [iI_or (by omega) (by omega)]
    congr 2
    have h3 := Nat.two_pow_add_eq_or_of_lt hb 1
    rw [Nat.mul_one] at h3
    rw [Nat.add_comm, h3, Nat.or_assoc, Nat.or_comm b, ← Nat.or_assoc, Nat.or_self]
  · exact iI_bit hb (by omega)
theorem fkV_n {b e : Nat} {P : Nat → Bool} {f : Nat} (h : P f = false) : fkV b e (firstN P (f + 1)) = fkV b e (firstN P f) := by
  have h1 : firstN P (f + 1) = firstN P f := by
    show (match firstN P f with | some e => some e | none => if P f = true then some f else none) = _
    cases hf : firstN P f with
    | some x => rfl
    | none => simp [h]
  rw [h1]
theorem bits_at {P : Nat → Bool} {n e : Nat} (h : e < n) : bitsN P n / 2 ^ e % 2 = if P e = true then 1 else 0 := by
  induction n with
  | zero => omega
  | succ n ih =>
    simp only [bitsN]
    by_cases q : e = n
    · subst q
      have hlt := bitsN_lt P e
      split
      · next hp =>
        rw [Nat.add_div_right _ (Nat.two_pow_pos e), Nat.div_eq_of_lt hlt]
      · rw [Nat.add_zero, Nat.div_eq_of_lt hlt]
    · have h1 := ih (by omega)
      by_cases hp : P n = true
      · rw [if_pos hp]
        have h2 : 2 ^ n = 2 ^ e * (2 * 2 ^ (n - e - 1)) := by
          rw [← Nat.pow_succ', ← Nat.pow_add]
          congr 1
          omega
        rw [h2, Nat.add_mul_div_left _ _ (Nat.two_pow_pos e), Nat.add_mul_mod_self_left]
        exact h1
      · rw [if_neg hp, Nat.add_zero]
        exact h1
/-- which EWES would go, by the reference's own trial -/
def mvP (I : Nat → Nat → Int) (e : Nat) : Bool := !decide ((turnS (hvR I) (spR I) 0).2.2 e = I 62 e)
def mvR (I : Nat → Nat → Int) : Nat := bitsN (mvP I) (I 58 5).toNat
def hdP (I : Nat → Nat → Int) (e : Nat) : Bool := !decide (I 62 e = I 58 2) && (decide (stp (I 62 e) (I 58 3) < 4) && !mvP I e)
def ewesR (I : Nat → Nat → Int) (w : Int) : Int := if w = 0 then apO (I 62) (I 58 2) (I 58 5).toNat else if w = 1 then (bitsN (fkQ (I 62) (I 58 2) (I 58 5).toNat) (I 58 5).toNat : Nat) else if w = 2 then (nearF (I 62) (I 58 2) (I 58 3) (I 58 5).toNat).1 else (mvR I : Nat)
def ntN (I : Nat → Nat → Int) (s : Nat) (n : Int) : Int := if 0 ≤ I 64 s ∧ I 64 s < 5 then (if I 65 s < n then -2 else 0) else noRN I s
theorem ntN_r {I : Nat → Nat → Int} (h : gRL I) {s : Nat} (hs : s < 8) (n : Int) : ntN I s n = 0 ∨ (-4 ≤ ntN I s n ∧ ntN I s n ≤ -2) := by
  have := h s hs
  unfold ntN noRN
  (repeat' split) <;> omega
/-- what a shelf's row asked for comes to -/
theorem frow_V {I : Nat → Nat → Int} (h : gRL I) {s n l : Int} (hs : 0 ≤ s ∧ s < 8) (hn : 0 ≤ n ∧ n ≤ l) : frowN (VI I) s n l = ntN I s.toNat n := by
  have h1 := h s.toNat (by omega)
  unfold frowN ntN noRN
  rw [VI_s0 (by omega), VI_s1 (by omega), if_neg (by omega)]
  (repeat' split) <;> omega
theorem frow_B {I : Nat → Nat → Int} {s n l : Int} (h : ¬ ((0 ≤ s ∧ s < 8) ∧ 0 ≤ n ∧ n ≤ l)) : frowN (VI I) s n l = -2 := by
  unfold frowN
  rw [if_pos (by omega)]
def wcN (I : Nat → Nat → Int) : Int := cnt (fun c => decide (I 59 c = 1)) 67
def flR (I : Nat → Nat → Int) : Nat → Int
  | 0 => 0
  | k + 1 => flR I k + bI (!decide (I 64 k = -1))
def statusR (I : Nat → Nat → Int) (w : Int) : Int :=
  if w = 0 then I 58 5 else if w = 1 then I 58 0 else if w = 2 then I 58 2 else if w = 3 then I 58 3 else if w = 4 then I 58 9 else if w = 5 then I 58 10
  else if w = 6 then inN (hvR I) (I 62) else if w = 7 then wcN I else if w = 8 then I 58 4 else if w = 9 then I 58 12 else if w = 10 then I 58 11 else if w = 11 then flR I 8
  else if 12 ≤ w ∧ w < 17 then I 67 (w - 10).toNat else -1
theorem flR_r {I : Nat → Nat → Int} (k : Nat) : 0 ≤ flR I k ∧ flR I k ≤ k := by
  induction k with
  | zero => simp [flR]
  | succ k ih =>
    simp only [flR]
    rcases bI_01 (!decide (I 64 k = -1)) with h | h <;> rw [h] <;> omega
