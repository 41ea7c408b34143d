/-! the reference's bare rows and columns -/
def rwB (O : Nat → Bool) (n k : Nat) : Bool := decide (firstN (fun j => O (10 * k + j)) n = none)
def clB (O : Nat → Bool) (n k : Nat) : Bool := decide (firstN (fun j => O (10 * j + k)) n = none)
def bareG (O : Nat → Bool) (n : Nat) : Nat → Int
  | 0 => 0
  | k + 1 => if clB O n k = true then orN (if rwB O n k = true then orN (bareG O n k) ((2 ^ k : Nat) : Int) else bareG O n k) ((2 ^ (7 + k) : Nat) : Int) else (if rwB O n k = true then orN (bareG O n k) ((2 ^ k : Nat) : Int) else bareG O n k)
theorem okV_r {P : Nat → Bool} {n : Nat} : 0 ≤ okV 1 P n ∧ okV 1 P n ≤ 1 := by unfold okV; split <;> decide
theorem rw_n {O : Nat → Bool} {n k : Nat} (h : okV 1 (fun j => O (10 * k + j)) n = 0) : ¬ rwB O n k = true := by
  intro z
  unfold okV at h
  rw [if_pos (of_decide_eq_true z)] at h
  cases h
theorem rw_p {O : Nat → Bool} {n k : Nat} (h : ¬ okV 1 (fun j => O (10 * k + j)) n = 0) : rwB O n k = true := by
  unfold okV at h
  by_cases z : firstN (fun j => O (10 * k + j)) n = none
  · exact decide_eq_true z
  · rw [if_neg z] at h; exact absurd rfl h
theorem cl_n {O : Nat → Bool} {n k : Nat} (h : okV 1 (fun j => O (10 * j + k)) n = 0) : ¬ clB O n k = true := by
  intro z
  unfold okV at h
  rw [if_pos (of_decide_eq_true z)] at h
  cases h
theorem cl_p {O : Nat → Bool} {n k : Nat} (h : ¬ okV 1 (fun j => O (10 * j + k)) n = 0) : clB O n k = true := by
  unfold okV at h
  by_cases z : firstN (fun j => O (10 * j + k)) n = none
  · exact decide_eq_true z
  · rw [if_neg z] at h; exact absurd rfl h
def occ (I : Nat → Nat → Int) (c : Nat) : Bool := decide (I 59 c = 1) || eweAtN (I 62) (c : Int) (I 58 5).toNat
theorem occ_w {I : Nat → Nat → Int} {c : Nat} (h : I 59 c = 1) : occ I c = true := by
  unfold occ
  rw [decide_eq_true h]
  rfl
theorem occ_e {I : Nat → Nat → Int} {c : Nat} {x : Int} (hx : x = (c : Int)) {b : Bool} (hw : ¬ I 59 c = 1) (h : eweAtN (I 62) x (I 58 5).toNat = b) : occ I c = b := by
  unfold occ
  rw [decide_eq_false hw, ← hx, h]
  rfl
