/-! class and reference: bits -/
theorem iI_bv (n : Nat) : (iI (n : Int)).toBitVec = BitVec.ofNat 32 n := by
  show BitVec.ofInt 32 (n : Int) = _
  exact BitVec.ofInt_natCast 32 n
theorem iI_b (n i : Nat) (hi : i < 32) : (iI (n : Int)).toBitVec.getLsbD i = n.testBit i := by
  rw [iI_bv, BitVec.getLsbD_ofNat]
  simp [hi]
theorem iI_m1 (i : Nat) (hi : i < 32) : (iI (-1)).toBitVec.getLsbD i = true := by
  rw [show (iI (-1)).toBitVec = BitVec.allOnes 32 from by decide +kernel, BitVec.getLsbD_allOnes]
  simp [hi]
theorem bitsN_tb {P : Nat → Bool} {n i : Nat} : (bitsN P n).testBit i = (decide (i < n) && P i) := by
  rw [Nat.testBit_eq_decide_div_mod_eq]
  by_cases h : i < n
  · rw [bits_at h, decide_eq_true h, Bool.true_and]
    cases P i <;> decide
  · rw [Nat.div_eq_of_lt (Nat.lt_of_lt_of_le (bitsN_lt P n) (Nat.pow_le_pow_right (by decide) (by omega))), decide_eq_false h]
    rfl
theorem held_eq {I : Nat → Nat → Int} {J : Nat → Nat → Int64} (hg : gR I) : heldN (VI I) (VJ I J) = (bitsN (hdP I) (I 58 5).toNat : Nat) := by
  have hn : (I 58 5).toNat ≤ 5 := by have := hg.2.2.2.1; omega
  have e : ((iI (outN (VI I) : Nat) &&& (iI (grazN (VI I) : Nat) ^^^ iI (-1))) &&& (iI (movN (VI I) (VJ I J) : Nat) ^^^ iI (-1))) = iI ((bitsN (hdP I) (I 58 5).toNat : Nat) : Int) := by
    refine Int32.toBitVec_inj.mp (BitVec.eq_of_getLsbD_eq (fun i hi => ?_))
    rw [Int32.toBitVec_and, BitVec.getLsbD_and, Int32.toBitVec_and, BitVec.getLsbD_and, Int32.toBitVec_xor, BitVec.getLsbD_xor, Int32.toBitVec_xor, BitVec.getLsbD_xor, iI_b _ _ hi, iI_b _ _ hi, iI_b _ _ hi, iI_b _ _ hi, iI_m1 _ hi, mv_eq hg]
    unfold outN grazN mvR
    rw [bitsN_tb, bitsN_tb, bitsN_tb, bitsN_tb]
    show (((decide (i < (I 58 5).toNat) && !decide (I 62 i = I 58 2)) && ((decide (i < (I 58 5).toNat) && (!decide (I 62 i = I 58 2) && decide (3 < stp (I 62 i) (I 58 3)))) ^^ true)) && ((decide (i < (I 58 5).toNat) && mvP I i) ^^ true)) = (decide (i < (I 58 5).toNat) && (!decide (I 62 i = I 58 2) && (decide (stp (I 62 i) (I 58 3) < 4) && !mvP I i)))
    rw [show decide (stp (I 62 i) (I 58 3) < 4) = !decide (3 < stp (I 62 i) (I 58 3)) from by by_cases z : 3 < stp (I 62 i) (I 58 3) <;> simp [z] <;> omega]
    cases decide (i < (I 58 5).toNat) <;> cases decide (I 62 i = I 58 2) <;> cases decide (3 < stp (I 62 i) (I 58 3)) <;> cases mvP I i <;> rfl
  unfold heldN
  rw [e]
  refine iI_toInt ?_ ?_
  · omega
  · have h1 := bitsN_lt (hdP I) (I 58 5).toNat
    have h2 : 2 ^ (I 58 5).toNat ≤ 2 ^ 5 := Nat.pow_le_pow_right (by decide) hn
    omega
