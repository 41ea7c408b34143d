theorem fCp_V {I : Nat → Nat → Int} {p r i j n : Int} : fCopy (VI I) p r i j n = if ¬ ((0 ≤ p ∧ p < 8) ∧ (0 ≤ r ∧ r < 8)) then -2
  else if 10 ≤ I 64 p.toNat ∨ 10 ≤ I 64 r.toNat ∨ ((0 ≤ I 64 p.toNat ∧ I 64 p.toNat < 5) ∧ (0 ≤ I 64 r.toNat ∧ I 64 r.toNat < 5) ∧ ¬ I 64 p.toNat = I 64 r.toNat) then -3
  else if ¬ ((0 ≤ I 64 p.toNat ∧ I 64 p.toNat < 5) ∧ (0 ≤ I 64 r.toNat ∧ I 64 r.toNat < 5)) then -4
  else if ¬ (((0 ≤ n ∧ n ≤ I 65 p.toNat) ∧ 0 ≤ i ∧ i ≤ I 65 p.toNat - n) ∧ ((0 ≤ n ∧ n ≤ I 65 r.toNat) ∧ 0 ≤ j ∧ j ≤ I 65 r.toNat - n)) then -2
  else 0 := by
  unfold fCopy
  by_cases h1 : (0 ≤ p ∧ p < 8) ∧ (0 ≤ r ∧ r < 8)
  · rw [VI_s0 (by omega), VI_s0 (by omega), VI_s1 (by omega), VI_s1 (by omega)]
  · rw [if_pos h1, if_pos h1]
/-! cells of two worlds: of one where P says so, of the other else -/
def mixP (A B : Nat → Nat → Int) (P : Nat → Nat → Bool) : Nat → Nat → Int := fun i k => if P i k = true then B i k else A i k
theorem mixP_s {A B : Nat → Nat → Int} {P P' : Nat → Nat → Bool} {i m : Nat} {v : Int} (hv : v = B i m) (h : ∀ a b, P' a b = true ↔ (P a b = true ∨ (a = i ∧ b = m))) : zu (mixP A B P) i m v = mixP A B P' := by
  funext a b
  simp only [zu, mixP]
  by_cases h1 : a = i ∧ b = m
  · rw [if_pos h1, if_pos ((h a b).mpr (.inr h1)), h1.1, h1.2]; exact hv
  · rw [if_neg h1]
    by_cases h2 : P a b = true
    · rw [if_pos h2, if_pos ((h a b).mpr (.inl h2))]
    · rw [if_neg h2, if_neg (fun z => ((h a b).mp z).elim h2 h1)]
theorem mixP_n {A B : Nat → Nat → Int} {P : Nat → Nat → Bool} {i k : Nat} (h : P i k = false) : mixP A B P i k = A i k := by
  unfold mixP
  rw [h]
  exact if_neg (by decide)
theorem mixP_0 {A B : Nat → Nat → Int} {P : Nat → Nat → Bool} (h : ∀ a b, P a b = false) : mixP A B P = A := by
  funext a b
  exact mixP_n (h a b)
theorem mixP_c {A B : Nat → Nat → Int} {P P' : Nat → Nat → Bool} (h : ∀ a b, P a b = true ↔ P' a b = true) : mixP A B P = mixP A B P' := by
  funext a b
  unfold mixP
  by_cases h2 : P a b = true
  · rw [if_pos h2, if_pos ((h a b).mp h2)]
  · rw [if_neg h2, if_neg (fun z => h2 ((h a b).mpr z))]
/-- what the reference keeps of the hill -/
def kpF (I : Nat → Nat → Int) (k : Nat) : Int := if k < 67 then I 59 k else if k < 72 then I 60 (k - 67) else if k < 77 then I 61 (k - 72) else if k < 82 then I 62 (k - 77) else if k = 82 then I 58 0 else if k = 83 then I 58 2 else if k = 84 then I 58 3 else if k = 85 then I 58 4 else if k = 86 then I 58 5 else if k = 87 then I 58 9 else if k = 88 then I 58 10 else I 58 11
def kpB (I : Nat → Nat → Int) : Nat → Nat → Int := fun _ k => kpF I k
def kpP (r m : Nat) : Nat → Nat → Bool := fun i k => decide (i = r ∧ k < m)
def kpQ (r m : Nat) : Nat → Nat → Bool := fun i k => decide (i = r ∧ (k < 67 + m ∨ (72 ≤ k ∧ k < 72 + m) ∨ (77 ≤ k ∧ k < 77 + m)))
def kpQ1 (r m : Nat) : Nat → Nat → Bool := fun i k => decide (i = r ∧ (k < 67 + (m + 1) ∨ (72 ≤ k ∧ k < 72 + m) ∨ (77 ≤ k ∧ k < 77 + m)))
def kpQ2 (r m : Nat) : Nat → Nat → Bool := fun i k => decide (i = r ∧ (k < 67 + (m + 1) ∨ (72 ≤ k ∧ k < 72 + (m + 1)) ∨ (77 ≤ k ∧ k < 77 + m)))
/-- what it takes back -/
def kbB (I : Nat → Nat → Int) (r : Nat) : Nat → Nat → Int := fun i k => if i = 59 then (if I r k = 1 then 1 else 0) else if i = 60 then I r (67 + k) else if i = 61 then I r (72 + k) else if i = 62 then I r (77 + k) else if k = 0 then I r 82 else if k = 2 then I r 83 else if k = 3 then I r 84 else if k = 4 then I r 85 else if k = 5 then I r 86 else if k = 9 then I r 87 else if k = 10 then I r 88 else I r 89
def kbP (m : Nat) : Nat → Nat → Bool := fun i k => decide (i = 59 ∧ k < m)
def kbQ (m : Nat) : Nat → Nat → Bool := fun i k => decide ((i = 59 ∧ k < 67) ∨ (i = 60 ∧ k < m) ∨ (i = 61 ∧ k < m) ∨ (i = 62 ∧ k < m))
def kbQ1 (m : Nat) : Nat → Nat → Bool := fun i k => decide ((i = 59 ∧ k < 67) ∨ (i = 60 ∧ k < m + 1) ∨ (i = 61 ∧ k < m) ∨ (i = 62 ∧ k < m))
def kbQ2 (m : Nat) : Nat → Nat → Bool := fun i k => decide ((i = 59 ∧ k < 67) ∨ (i = 60 ∧ k < m + 1) ∨ (i = 61 ∧ k < m + 1) ∨ (i = 62 ∧ k < m))
def kbR (l : List Nat) : Nat → Nat → Bool := fun i k => decide ((i = 59 ∧ k < 67) ∨ (i = 60 ∧ k < 5) ∨ (i = 61 ∧ k < 5) ∨ (i = 62 ∧ k < 5) ∨ (i = 58 ∧ k ∈ l))
theorem kbR_s {l : List Nat} {m : Nat} : ∀ a b, kbR (m :: l) a b = true ↔ (kbR l a b = true ∨ (a = 58 ∧ b = m)) := by
  intro a b
  simp only [kbR, decide_eq_true_eq, List.mem_cons]
  constructor
  · rintro (h | h | h | h | ⟨h1, h2 | h2⟩)
    · exact .inl (.inl h)
    · exact .inl (.inr (.inl h))
    · exact .inl (.inr (.inr (.inl h)))
    · exact .inl (.inr (.inr (.inr (.inl h))))
    · exact .inr ⟨h1, h2⟩
    · exact .inl (.inr (.inr (.inr (.inr ⟨h1, h2⟩))))
  · rintro ((h | h | h | h | ⟨h1, h2⟩) | ⟨h1, h2⟩)
    · exact .inl h
    · exact .inr (.inl h)
    · exact .inr (.inr (.inl h))
    · exact .inr (.inr (.inr (.inl h)))
    · exact .inr (.inr (.inr (.inr ⟨h1, .inr h2⟩)))
    · exact .inr (.inr (.inr (.inr ⟨h1, .inl h2⟩)))
def kpI (I : Nat → Nat → Int) (r : Nat) : Nat → Nat → Int := mixP I (kpB I) (kpP r 90)
def kbI (I : Nat → Nat → Int) (r : Nat) : Nat → Nat → Int := mixP I (kbB I r) (kbR [11, 10, 9, 5, 4, 3, 2, 0])
def dropR (I : Nat → Nat → Int) : Nat → Nat → Nat → Int
  | 0 => I
  | m + 1 => if 10 + I 58 5 ≤ I 64 m then zu (dropR I m) 64 m (-1) else dropR I m
theorem dropR_n {I : Nat → Nat → Int} {m : Nat} {i k : Nat} (h : i ≠ 64 ∨ m ≤ k) : dropR I m i k = I i k := by
  induction m with
  | zero => rfl
  | succ m ih =>
    simp only [dropR]
    have ih2 := ih (by omega)
    split
    · rw [zu_n (by omega)]; exact ih2
    · exact ih2
