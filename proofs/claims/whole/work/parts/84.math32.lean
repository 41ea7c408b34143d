theorem fCp_V {I : Nat → Nat → Int} {p r i j n : Int} : fCopy (VI I) p r i j n = if ¬ ((0 ≤ p ∧ p < 8) ∧ (0 ≤ r ∧ r < 8)) then -2
  else if 10 ≤ I 64 p.toNat ∨ 10 ≤ I 64 r.toNat ∨ ((0 ≤ I 64 p.toNat ∧ I 64 p.toNat < 5) ∧ (0 ≤ I 64 r.toNat ∧ I 64 r.toNat < 5) ∧ ¬ I 64 p.toNat = I 64 r.toNat) then -3
  else if ¬ ((0 ≤ I 64 p.toNat ∧ I 64 p.toNat < 5) ∧ (0 ≤ I 64 r.toNat ∧ I 64 r.toNat < 5)) then -4
  else if ¬ (((0 ≤ n ∧ n ≤ I 65 p.toNat) ∧ 0 ≤ i ∧ i ≤ I 65 p.toNat - n) ∧ ((0 ≤ n ∧ n ≤ I 65 r.toNat) ∧ 0 ≤ j ∧ j ≤ I 65 r.toNat - n)) then -2
  else 0 := by
  unfold fCopy
  by_cases h1 : (0 ≤ p ∧ p < 8) ∧ (0 ≤ r ∧ r < 8)
  · rw [VI_s0 (by omega), VI_s0 (by omega), VI_s1 (by omega), VI_s1 (by omega)]
  · rw [if_pos h1, if_pos h1]
