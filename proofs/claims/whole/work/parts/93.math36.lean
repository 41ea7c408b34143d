def numR (f : Nat → Int) (n p : Nat) (lo hi : Int) : Int := if lo ≤ nmN f n p ∧ nmN f n p ≤ hi then nmN f n p else -1
def plR (f : Nat → Int) (n p : Nat) (m : Int) : Int := if isCellN m (nmN f n p) = true then nmN f n p else -1
theorem rtk_48 {T : Int} {len : Nat} : rtkN T len = 48 ↔ (T = 2 ∧ len ≤ 2) := by
  unfold rtkN
  constructor
  · (repeat' split) <;> intro h <;> omega
  · intro h; rw [if_neg (by omega), if_neg (by omega), if_pos h.1, if_neg (by omega)]
theorem rtk_r {T : Int} {len : Nat} : 48 ≤ rtkN T len ∧ rtkN T len ≤ 120 := by
  unfold rtkN
  (repeat' split) <;> omega
theorem nm_48 {f : Nat → Int} {n p : Nat} (hf : ∀ k, k < n → 0 ≤ f k) (hp : p ≤ n) (h : rtkN (tokT f n p) (tokE f n p - skN f n p) = 48) (v : Int) : rvlN f (tokT f n p) (skN f n p) (tokE f n p - skN f n p) v = nmN f n p := by
  have h2 := rtk_48.mp h
  have h3 := tok_r hf hp
  unfold rvlN nmN
  rw [if_pos h2.1, if_pos ⟨h2.1, by omega⟩, show min 2 (tokE f n p - skN f n p) = tokE f n p - skN f n p by omega]
theorem nm_no {f : Nat → Int} {n p : Nat} (hf : ∀ k, k < n → 0 ≤ f k) (hp : p ≤ n) (h : ¬ rtkN (tokT f n p) (tokE f n p - skN f n p) = 48) : nmN f n p = -1 := by
  have h3 := tok_r hf hp
  unfold nmN
  exact if_neg (fun z => h (rtk_48.mpr ⟨z.1, by omega⟩))
