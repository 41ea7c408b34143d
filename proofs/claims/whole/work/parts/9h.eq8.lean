/-! the count of a long's bits is the class's -/
theorem lus_1 (x : Int64) : (lus x 1).toBitVec.toNat = x.toBitVec.toNat / 2 := by
  rw [show (lus x 1).toBitVec = x.toBitVec >>> 1 from rfl, BitVec.toNat_ushiftRight, Nat.shiftRight_eq_div_pow]
theorem lus_2 (x : Int64) : (lus x 2).toBitVec.toNat = x.toBitVec.toNat / 4 := by
  rw [show (lus x 2).toBitVec = x.toBitVec >>> 2 from rfl, BitVec.toNat_ushiftRight, Nat.shiftRight_eq_div_pow]
theorem lus_4 (x : Int64) : (lus x 4).toBitVec.toNat = x.toBitVec.toNat / 16 := by
  rw [show (lus x 4).toBitVec = x.toBitVec >>> 4 from rfl, BitVec.toNat_ushiftRight, Nat.shiftRight_eq_div_pow]
theorem lus_8 (x : Int64) : (lus x 8).toBitVec.toNat = x.toBitVec.toNat / 256 := by
  rw [show (lus x 8).toBitVec = x.toBitVec >>> 8 from rfl, BitVec.toNat_ushiftRight, Nat.shiftRight_eq_div_pow]
theorem lus_16 (x : Int64) : (lus x 16).toBitVec.toNat = x.toBitVec.toNat / 65536 := by
  rw [show (lus x 16).toBitVec = x.toBitVec >>> 16 from rfl, BitVec.toNat_ushiftRight, Nat.shiftRight_eq_div_pow]
theorem lus_32 (x : Int64) : (lus x 32).toBitVec.toNat = x.toBitVec.toNat / 4294967296 := by
  rw [show (lus x 32).toBitVec = x.toBitVec >>> 32 from rfl, BitVec.toNat_ushiftRight, Nat.shiftRight_eq_div_pow]
theorem ladd_n {x y : Int64} (h : x.toBitVec.toNat + y.toBitVec.toNat < 2 ^ 64) : (x + y).toBitVec.toNat = x.toBitVec.toNat + y.toBitVec.toNat := by
  rw [Int64.toBitVec_add, BitVec.toNat_add]
  omega
theorem lsub_n {x y : Int64} (h : y.toBitVec.toNat ≤ x.toBitVec.toNat) : (x - y).toBitVec.toNat = x.toBitVec.toNat - y.toBitVec.toNat := by
  rw [Int64.toBitVec_sub, BitVec.toNat_sub]
  have := x.toBitVec.isLt
  omega
theorem land_n {x y : Int64} : (x &&& y).toBitVec.toNat = x.toBitVec.toNat &&& y.toBitVec.toNat := by
  rw [Int64.toBitVec_and, BitVec.toNat_and]
theorem an_127 (n : Nat) : anN (n : Int) 127 = ((n % 128 : Nat) : Int) := by
  have h : iI (n : Int) &&& iI 127 = iI ((n % 128 : Nat) : Int) := by
    refine Int32.toBitVec_inj.mp (BitVec.eq_of_getLsbD_eq (fun i hi => ?_))
    rw [Int32.toBitVec_and, BitVec.getLsbD_and, iI_b _ _ hi, show (127 : Int) = ((127 : Nat) : Int) from rfl, iI_b _ _ hi, iI_b _ _ hi, show (128 : Nat) = 2 ^ 7 from rfl, Nat.testBit_mod_two_pow, show (127 : Nat) = 2 ^ 7 - 1 from rfl, Nat.testBit_two_pow_sub_one, Bool.and_comm]
  unfold anN
  rw [h]
  exact iI_toInt (by omega) (by omega)
/-- the bits of a long's i-th byte -/
def lby (x : Int64) (i : Nat) : Nat := x.toBitVec.toNat / 256 ^ i % 256
theorem bcL_eq (x : Int64) : bcL x = ((by3 (lby x 0) + by3 (lby x 1) + by3 (lby x 2) + by3 (lby x 3) + by3 (lby x 4) + by3 (lby x 5) + by3 (lby x 6) + by3 (lby x 7) : Nat) : Int) := by
  obtain ⟨X, hX⟩ : ∃ X, X = x.toBitVec.toNat := ⟨_, rfl⟩
  have hlt : X < 2 ^ 64 := by rw [hX]; exact x.toBitVec.isLt
  unfold bcL
  obtain ⟨a1, h1⟩ : ∃ a, a = x - (lus x 1 &&& 6148914691236517205) := ⟨_, rfl⟩
  obtain ⟨a2, h2⟩ : ∃ a, a = (a1 &&& 3689348814741910323) + (lus a1 2 &&& 3689348814741910323) := ⟨_, rfl⟩
  obtain ⟨a3, h3⟩ : ∃ a, a = (a2 + lus a2 4) &&& 1085102592571150095 := ⟨_, rfl⟩
  obtain ⟨a4, h4⟩ : ∃ a, a = a3 + lus a3 8 := ⟨_, rfl⟩
  obtain ⟨a5, h5⟩ : ∃ a, a = a4 + lus a4 16 := ⟨_, rfl⟩
  obtain ⟨a6, h6⟩ : ∃ a, a = a5 + lus a5 32 := ⟨_, rfl⟩
  dsimp only
  rw [← h1, ← h2, ← h3, ← h4, ← h5, ← h6]
  have n1 : a1.toBitVec.toNat = sw1 8 X := by
    have e : (lus x 1 &&& 6148914691236517205).toBitVec.toNat = X / 2 &&& repN 85 8 := by
      rw [land_n, lus_1, ← hX, show (6148914691236517205 : Int64).toBitVec.toNat = repN 85 8 by decide +kernel]
    have h := Nat.and_le_left (n := X / 2) (m := repN 85 8)
    rw [h1, lsub_n (by rw [e, ← hX]; omega), e, ← hX]
    rfl
  have n2 : a2.toBitVec.toNat = sw2 8 X := by
    have e1 : (a1 &&& 3689348814741910323).toBitVec.toNat = sw1 8 X &&& repN 51 8 := by
      rw [land_n, n1, show (3689348814741910323 : Int64).toBitVec.toNat = repN 51 8 by decide +kernel]
    have e2 : (lus a1 2 &&& 3689348814741910323).toBitVec.toNat = sw1 8 X / 4 &&& repN 51 8 := by
      rw [land_n, lus_2, n1, show (3689348814741910323 : Int64).toBitVec.toNat = repN 51 8 by decide +kernel]
    have b1 := Nat.and_le_right (n := sw1 8 X) (m := repN 51 8)
    have b2 := Nat.and_le_right (n := sw1 8 X / 4) (m := repN 51 8)
    have b3 : repN 51 8 < 2 ^ 62 := by decide +kernel
    rw [h2, ladd_n (by rw [e1, e2]; omega), e1, e2]
    rfl
  have b2 : sw2 8 X < 2 ^ 63 := by
    have b1 := Nat.and_le_right (n := sw1 8 X) (m := repN 51 8)
    have b2 := Nat.and_le_right (n := sw1 8 X / 4) (m := repN 51 8)
    have b3 : repN 51 8 < 2 ^ 62 := by decide +kernel
    unfold sw2
    omega
  have n3 : a3.toBitVec.toNat = sw3 8 X := by
    have e1 : (lus a2 4).toBitVec.toNat = sw2 8 X / 16 := by rw [lus_4, n2]
    rw [h3, land_n, ladd_n (by rw [n2, e1]; omega), n2, e1, show (1085102592571150095 : Int64).toBitVec.toNat = repN 15 8 by decide +kernel]
    rfl
  have hb : ∀ i, lby x i = X / 256 ^ i % 256 := fun i => by unfold lby; rw [hX]
  have hr : ∀ i, lby x i < 256 := fun i => by rw [hb]; omega
  have hd : X = 256 * (256 * (256 * (256 * (256 * (256 * (256 * lby x 7 + lby x 6) + lby x 5) + lby x 4) + lby x 3) + lby x 2) + lby x 1) + lby x 0 := by
    have s : ∀ i, X / 256 ^ i = 256 * (X / 256 ^ (i + 1)) + lby x i := fun i => by
      rw [hb, Nat.pow_succ, ← Nat.div_div_eq_div_mul]
      omega
    have s8 : X / 256 ^ 8 = 0 := Nat.div_eq_of_lt hlt
    have s0 : X = X / 256 ^ 0 := by rw [Nat.pow_zero, Nat.div_one]
    rw [s0, s 0, s 1, s 2, s 3, s 4, s 5, s 6, s 7, s8, Nat.mul_zero, Nat.zero_add]
  have n3' : a3.toBitVec.toNat = 256 * (256 * (256 * (256 * (256 * (256 * (256 * by3 (lby x 7) + by3 (lby x 6)) + by3 (lby x 5)) + by3 (lby x 4)) + by3 (lby x 3)) + by3 (lby x 2)) + by3 (lby x 1)) + by3 (lby x 0) := by
    rw [n3]
    have h := sw3_8 (lby x 0) (lby x 1) (lby x 2) (lby x 3) (lby x 4) (lby x 5) (lby x 6) (lby x 7) (hr 0) (hr 1) (hr 2) (hr 3) (hr 4) (hr 5) (hr 6) (hr 7)
    rw [← hd] at h
    exact h
  have q := fun i => (by_r (lby x i) (hr i)).2.2.2
  have z := sw_end (a4 := a3.toBitVec.toNat + a3.toBitVec.toNat / 256) (a5 := (a3.toBitVec.toNat + a3.toBitVec.toNat / 256) + (a3.toBitVec.toNat + a3.toBitVec.toNat / 256) / 65536) (q 0) (q 1) (q 2) (q 3) (q 4) (q 5) (q 6) (q 7) rfl rfl rfl rfl rfl rfl n3' rfl rfl
  have n4 : a4.toBitVec.toNat = a3.toBitVec.toNat + a3.toBitVec.toNat / 256 := by
    rw [h4, ladd_n (by rw [lus_8]; have := z.2.1; omega), lus_8]
  rw [← n4] at z
  have n5 : a5.toBitVec.toNat = a4.toBitVec.toNat + a4.toBitVec.toNat / 65536 := by
    rw [h5, ladd_n (by rw [lus_16]; have := z.2.2.1; omega), lus_16]
  rw [← n5] at z
  have n6 : a6.toBitVec.toNat = a5.toBitVec.toNat + a5.toBitVec.toNat / 4294967296 := by
    rw [h6, ladd_n (by rw [lus_32]; have := z.2.2.2; omega), lus_32]
  rw [← n6] at z
  have hi : a6.toInt = (a6.toBitVec.toNat : Int) := by
    have h := z.2.2.2
    show a6.toBitVec.toInt = _
    exact BitVec.toInt_eq_toNat_of_lt (by omega)
  rw [hi, an_127, z.1]
