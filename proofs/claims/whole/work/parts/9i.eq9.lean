/-! walls: how many -/
theorem by_d : ∀ b, b < 256 → by3 b = (b.testBit 0).toNat + (b.testBit 1).toNat + (b.testBit 2).toNat + (b.testBit 3).toNat + (b.testBit 4).toNat + (b.testBit 5).toNat + (b.testBit 6).toNat + (b.testBit 7).toNat := by decide +kernel
theorem lby_b {x : Int64} {i j : Nat} (hj : j < 8) : (lby x i).testBit j = x.toBitVec.getLsbD (8 * i + j) := by
  unfold lby
  rw [show (256 : Nat) = 2 ^ 8 from rfl, ← Nat.pow_mul, Nat.testBit_mod_two_pow, decide_eq_true hj, Bool.true_and, Nat.testBit_div_two_pow, BitVec.getLsbD]
  rw [Nat.add_comm]
def tW (f : Nat → Int) (c : Nat) : Nat := (decide (f c = 1)).toNat
def rowN (f : Nat → Int) (r : Nat) : Nat := tW f (10 * r) + tW f (10 * r + 1) + tW f (10 * r + 2) + tW f (10 * r + 3) + tW f (10 * r + 4) + tW f (10 * r + 5) + tW f (10 * r + 6)
theorem mask_by (f : Nat → Int) : ∀ i, i < 7 → by3 (lby (maskW f) i) = rowN f i := by
  intro i hi
  have hb : ∀ j, j < 8 → (lby (maskW f) i).testBit j = (decide (j < 7) && decide (f (10 * i + j) = 1)) := fun j hj => by
    rw [lby_b hj, maskW_b]
    unfold vb vc
    rw [show (8 * i + j) / 8 = i by omega, show (8 * i + j) % 8 = j by omega, decide_eq_true hi, Bool.true_and, show i * 10 + j = 10 * i + j by omega]
  rw [by_d _ (by unfold lby; omega), hb 0 (by decide), hb 1 (by decide), hb 2 (by decide), hb 3 (by decide), hb 4 (by decide), hb 5 (by decide), hb 6 (by decide), hb 7 (by decide)]
  rfl
theorem mask_b7 (f : Nat → Int) : by3 (lby (maskW f) 7) = 0 := by
  have hb : ∀ j, j < 8 → (lby (maskW f) 7).testBit j = false := fun j hj => by
    rw [lby_b hj, maskW_b]
    unfold vb
    rw [show (8 * 7 + j) / 8 = 7 by omega]
    rfl
  rw [by_d _ (by unfold lby; omega), hb 0 (by decide), hb 1 (by decide), hb 2 (by decide), hb 3 (by decide), hb 4 (by decide), hb 5 (by decide), hb 6 (by decide), hb 7 (by decide)]
  rfl
theorem tW_i (f : Nat → Int) (c : Nat) : bI (decide (f c = 1)) = (tW f c : Int) := by
  unfold tW
  cases decide (f c = 1) <;> rfl
theorem tW_0 {f : Nat → Int} (h : ∀ c, c < 67 → f c = 1 → c % 10 < 7) {c : Nat} (hc : c < 67) (h2 : 7 ≤ c % 10) : tW f c = 0 := by
  unfold tW
  rw [decide_eq_false (fun z => by have := h c hc z; omega)]
  rfl
theorem cnt_row {f : Nat → Int} (h : ∀ c, c < 67 → f c = 1 → c % 10 < 7) : ∀ r, r < 6 → cnt (fun c => decide (f c = 1)) (10 * r + 10) = cnt (fun c => decide (f c = 1)) (10 * r) + (rowN f r : Nat) := by
  intro r hr
  have z7 := tW_0 h (c := 10 * r + 7) (by omega) (by omega)
  have z8 := tW_0 h (c := 10 * r + 8) (by omega) (by omega)
  have z9 := tW_0 h (c := 10 * r + 9) (by omega) (by omega)
  simp only [cnt, tW_i]
  unfold rowN
  rw [z7, z8, z9]
  omega
theorem wc_eq {f : Nat → Int} (h : ∀ c, c < 67 → f c = 1 → c % 10 < 7) : bcL (maskW f) = cnt (fun c => decide (f c = 1)) 67 := by
  rw [bcL_eq, mask_b7, mask_by f 0 (by decide), mask_by f 1 (by decide), mask_by f 2 (by decide), mask_by f 3 (by decide), mask_by f 4 (by decide), mask_by f 5 (by decide), mask_by f 6 (by decide)]
  obtain ⟨P, hP⟩ : ∃ P, P = fun c => decide (f c = 1) := ⟨_, rfl⟩
  have r0 : cnt (fun c => decide (f c = 1)) 10 = 0 + (rowN f 0 : Nat) := cnt_row h 0 (by decide)
  have r1 : cnt (fun c => decide (f c = 1)) 20 = cnt (fun c => decide (f c = 1)) 10 + (rowN f 1 : Nat) := cnt_row h 1 (by decide)
  have r2 : cnt (fun c => decide (f c = 1)) 30 = cnt (fun c => decide (f c = 1)) 20 + (rowN f 2 : Nat) := cnt_row h 2 (by decide)
  have r3 : cnt (fun c => decide (f c = 1)) 40 = cnt (fun c => decide (f c = 1)) 30 + (rowN f 3 : Nat) := cnt_row h 3 (by decide)
  have r4 : cnt (fun c => decide (f c = 1)) 50 = cnt (fun c => decide (f c = 1)) 40 + (rowN f 4 : Nat) := cnt_row h 4 (by decide)
  have r5 : cnt (fun c => decide (f c = 1)) 60 = cnt (fun c => decide (f c = 1)) 50 + (rowN f 5 : Nat) := cnt_row h 5 (by decide)
  have r6 : cnt (fun c => decide (f c = 1)) 67 = cnt (fun c => decide (f c = 1)) 60 + bI (decide (f 60 = 1)) + bI (decide (f 61 = 1)) + bI (decide (f 62 = 1)) + bI (decide (f 63 = 1)) + bI (decide (f 64 = 1)) + bI (decide (f 65 = 1)) + bI (decide (f 66 = 1)) := rfl
  rw [tW_i, tW_i, tW_i, tW_i, tW_i, tW_i, tW_i] at r6
  have r7 : rowN f 6 = tW f 60 + tW f 61 + tW f 62 + tW f 63 + tW f 64 + tW f 65 + tW f 66 := rfl
  rw [r6, r5, r4, r3, r2, r1, r0]
  omega
