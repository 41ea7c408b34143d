set_option maxHeartbeats 4000000 in
set_option maxRecDepth 100000 in
theorem c_X4_readEwe {g : zG} {I : Nat → Nat → Int} {J : Nat → Nat → Int64} {q : Nat × Nat} {n p : Nat} {R : HR} (hT : gT I) (hn : I 11 1 = (n : Nat)) (hp : p ≤ n) (hRR : gHR R) : zRun g mX4_readEwe 5 [.ref 11] (zst (drI (tkI I (I 12) n (p)) (R)) (drJ J (R)) q) (some (.int (iI (bI (stEwe (I 12) n p R).1)))) (zst (drI (tkI I (I 12) n ((stEwe (I 12) n p R).2.1)) ((stEwe (I 12) n p R).2.2)) (drJ J ((stEwe (I 12) n p R).2.2)) q) := by
  have hf : ∀ k, k < n → 0 ≤ I 12 k := fun k hk => (hT.2 k (by have := hT.1; omega)).1
  obtain ⟨d01, d02, d03, d04, d05, d06⟩ := dr_nx (R := R) hn hT (show p ≤ n by omega)
  have hle0 := tokE_n hn hT (show p ≤ n by omega)
  obtain ⟨d11, d12, d13, d14, d15, d16⟩ := dr_nx (R := R) hn hT (show (tokE (I 12) n p) ≤ n by omega)
  have hle1 := tokE_n hn hT (show (tokE (I 12) n p) ≤ n by omega)
  obtain ⟨d21, d22, d23, d24, d25, d26⟩ := dr_nx (R := R) hn hT (show (tokE (I 12) n (tokE (I 12) n p)) ≤ n by omega)
  have hle2 := tokE_n hn hT (show (tokE (I 12) n (tokE (I 12) n p)) ≤ n by omega)
  obtain ⟨⟨r1, r2, r3, r4, r5, r6⟩, r7, r8, r9⟩ := id hRR
  refine zRuns_intro rfl (Nat.le_of_ble_eq_true rfl) (fun X C hR => ?_)
  show zZ g X 0 0 _ 0 [(0, .ref 11)] []
  refine z_aload_n C 0 rfl dX4_readEwe_0 rfl ?_
  refine y_getR C zCl4 2 flX4_22 rfl rfl rfl dX4_readEwe_1 ?_
  refine y_getI C zCl0 6 flX4_118 rfl rfl dX4_readEwe_4 ?_
  refine z_top C (R.1 6) (rfl) ?_
  refine z_iconst C dX4_readEwe_7 ?_
  refine z_icmp_lt C 13 dX4_readEwe_8 (by decide) (by omega) (by omega) (fun h8 => ?_) (fun h8 => ?_)
  · refine z_aload_n C 0 rfl dX4_readEwe_13 rfl ?_
    refine y_callV0 C oX4_nextNumber iX4_nextNumber eX4_nextNumber lkX4_85 (c_X4_nextNumber d04 d05) rfl (by decide) rfl rfl (by decide) (Nat.le_refl _) (Nat.le_refl _) (Nat.le_of_ble_eq_true rfl) dX4_readEwe_14 ?_
    refine zZ_cast (S' := .int (iI (nmN (I 12) n (tokE (I 12) n p))) :: []) (σ' := zst (drI (tkI I (I 12) n ((tokE (I 12) n p))) (R)) (drJ J (R)) q) (by rw [d01, d02, d03, d06]) rfl (by rw [d01, d02, d03]; rfl) ?_
    refine z_topI C (fun v1 ev1 => ?_)
    have ev1 : v1 = nmN (I 12) n (tokE (I 12) n p) := ev1
    have hvr1 := nm_ok (p := (tokE (I 12) n p)) hn hT
    rw [← ev1] at hvr1
    refine z_istore_n C [(1, .int (iI v1)), (0, .ref 11)] dX4_readEwe_17 rfl (by decide) rfl ?_
    refine z_iload_n C 0 rfl dX4_readEwe_18 rfl ?_
    refine y_callN1 C (host := RX5) oX5_isKind sX5_isKind (List.mem_of_getElem? (i := 7) rfl) (c_X5_isKind (by first | assumption | omega)) (by decide) (Nat.le_refl _) (Nat.le_refl _) (Nat.le_of_ble_eq_true rfl) dX4_readEwe_19 ?_
    refine y_if_neB C 27 dX4_readEwe_22 (by decide) (fun h22 => ?_) (fun h22 => ?_)
    · have k22 : 0 ≤ v1 ∧ v1 < 6 := by simpa using h22
      refine z_aload_n C 1 rfl dX4_readEwe_27 rfl ?_
      refine y_callV0 C oX4_nextNumber iX4_nextNumber eX4_nextNumber lkX4_85 (c_X4_nextNumber d14 d15) rfl (by decide) rfl rfl (by decide) (Nat.le_refl _) (Nat.le_refl _) (Nat.le_of_ble_eq_true rfl) dX4_readEwe_28 ?_
      refine zZ_cast (S' := .int (iI (nmN (I 12) n (tokE (I 12) n (tokE (I 12) n p)))) :: []) (σ' := zst (drI (tkI I (I 12) n ((tokE (I 12) n (tokE (I 12) n p)))) (R)) (drJ J (R)) q) (by rw [d11, d12, d13, d16]) rfl (by rw [d11, d12, d13]; rfl) ?_
      refine z_topI C (fun v2 ev2 => ?_)
      have ev2 : v2 = nmN (I 12) n (tokE (I 12) n (tokE (I 12) n p)) := ev2
      have hvr2 := nm_ok (p := (tokE (I 12) n (tokE (I 12) n p))) hn hT
      rw [← ev2] at hvr2
      refine z_istore_n C [(2, .int (iI v2)), (1, .int (iI v1)), (0, .ref 11)] dX4_readEwe_31 rfl (by decide) rfl ?_
      refine z_iload_n C 0 rfl dX4_readEwe_32 rfl ?_
      refine z_if_lt C 42 dX4_readEwe_33 (by decide) (by omega) (fun h33 => ?_) (fun h33 => ?_)
      · refine z_iconst C dX4_readEwe_42 ?_
        exact zZ_zret C hR (Nat.le_refl _) (Nat.le_refl _) dX4_readEwe_43 rfl (Or.inl rfl) (zIs_I (by unfold stEwe; rw [← ev1, ← ev2, if_neg (by omega), if_neg (fun z => z k22), if_pos (by omega)] <;> rfl) (by unfold stEwe; rw [← ev1, ← ev2, if_neg (by omega), if_neg (fun z => z k22), if_pos (by omega)]))
      · refine z_iload_n C 0 rfl dX4_readEwe_36 rfl ?_
        refine z_bipush C dX4_readEwe_37 (by decide) ?_
        refine z_icmp_le C 44 dX4_readEwe_39 (by decide) (by omega) (by omega) (fun h39 => ?_) (fun h39 => ?_)
        · refine z_aload_n C 2 rfl dX4_readEwe_44 rfl ?_
          refine y_callV0 C oX4_nextNumber iX4_nextNumber eX4_nextNumber lkX4_85 (c_X4_nextNumber d24 d25) rfl (by decide) rfl rfl (by decide) (Nat.le_refl _) (Nat.le_refl _) (Nat.le_of_ble_eq_true rfl) dX4_readEwe_45 ?_
          refine zZ_cast (S' := .int (iI (nmN (I 12) n (tokE (I 12) n (tokE (I 12) n (tokE (I 12) n p))))) :: []) (σ' := zst (drI (tkI I (I 12) n ((tokE (I 12) n (tokE (I 12) n (tokE (I 12) n p))))) (R)) (drJ J (R)) q) (by rw [d21, d22, d23, d26]) rfl (by rw [d21, d22, d23]; rfl) ?_
          refine z_topI C (fun v3 ev3 => ?_)
          have ev3 : v3 = nmN (I 12) n (tokE (I 12) n (tokE (I 12) n (tokE (I 12) n p))) := ev3
          have hvr3 := nm_ok (p := (tokE (I 12) n (tokE (I 12) n (tokE (I 12) n p)))) hn hT
          rw [← ev3] at hvr3
          refine z_istore_n C [(3, .int (iI v3)), (2, .int (iI v2)), (1, .int (iI v1)), (0, .ref 11)] dX4_readEwe_48 rfl (by decide) rfl ?_
          refine z_aload_n C 3 rfl dX4_readEwe_49 rfl ?_
          refine y_getR C zCl4 2 flX4_22 rfl rfl rfl dX4_readEwe_50 ?_
          refine z_iload_n C 0 rfl dX4_readEwe_53 rfl ?_
          refine y_callV1 C oX0_isOpen iX0_isOpen eX0_isOpen lkX4_124 (c_X0_isOpen isH_13 (dr_g hRR) (by first | assumption | omega)) rfl (by decide) rfl rfl (by decide) (Nat.le_refl _) (Nat.le_refl _) (Nat.le_of_ble_eq_true rfl) dX4_readEwe_54 ?_
          refine y_if_neB C 62 dX4_readEwe_57 (by decide) (fun h57 => ?_) (fun h57 => ?_)
          · have m57 : openN (R.1 0) R.2.1 v3 = true := by rw [drJ_5] at h57; exact h57
            have g6 : drI (tkI I (I 12) n (tokE (I 12) n (tokE (I 12) n (tokE (I 12) n p)))) R 13 6 = R.1 6 := rfl
            refine z_aload_n C 3 rfl dX4_readEwe_62 rfl ?_
            refine y_getR C zCl4 2 flX4_22 rfl rfl rfl dX4_readEwe_63 ?_
            refine z_iload_n C 2 rfl dX4_readEwe_66 rfl ?_
            refine z_iload_n C 1 rfl dX4_readEwe_67 rfl ?_
            refine z_iload_n C 0 rfl dX4_readEwe_68 rfl ?_
            refine y_callV3 C oX0_addEwe iX0_addEwe eX0_addEwe lkX4_127 (c_X0_addEwe isH_13 (show 0 ≤ R.1 6 ∧ R.1 6 < 5 by omega)) rfl (by decide) rfl rfl (by decide) (Nat.le_refl _) (Nat.le_refl _) (Nat.le_of_ble_eq_true rfl) dX4_readEwe_69 ?_
            refine z_pop C dX4_readEwe_72 rfl ?_
            refine z_iconst C dX4_readEwe_73 ?_
            exact zZ_zret C hR (Nat.le_refl _) (Nat.le_refl _) dX4_readEwe_74 rfl (Or.inr rfl) (zIs_I (by unfold stEwe; rw [← ev1, ← ev2, ← ev3, if_neg (by omega), if_neg (fun z => z k22), if_neg (by omega), if_pos m57] <;> rfl) (by unfold stEwe; rw [← ev1, ← ev2, ← ev3, if_neg (by omega), if_neg (fun z => z k22), if_neg (by omega), if_pos m57]; exact congrArg (fun I' => zst I' (drJ J R) q) dr_ewe))
          · have m57 : openN (R.1 0) R.2.1 v3 = false := by rw [drJ_5] at h57; exact h57
            refine z_iconst C dX4_readEwe_60 ?_
            exact zZ_zret C hR (Nat.le_refl _) (Nat.le_refl _) dX4_readEwe_61 rfl (Or.inl rfl) (zIs_I (by unfold stEwe; rw [← ev1, ← ev2, ← ev3, if_neg (by omega), if_neg (fun z => z k22), if_neg (by omega), if_neg (fun z => absurd (z.symm.trans m57) (by decide))] <;> rfl) (by unfold stEwe; rw [← ev1, ← ev2, ← ev3, if_neg (by omega), if_neg (fun z => z k22), if_neg (by omega), if_neg (fun z => absurd (z.symm.trans m57) (by decide))]))
        · refine z_iconst C dX4_readEwe_42 ?_
          exact zZ_zret C hR (Nat.le_refl _) (Nat.le_refl _) dX4_readEwe_43 rfl (Or.inl rfl) (zIs_I (by unfold stEwe; rw [← ev1, ← ev2, if_neg (by omega), if_neg (fun z => z k22), if_pos (by omega)] <;> rfl) (by unfold stEwe; rw [← ev1, ← ev2, if_neg (by omega), if_neg (fun z => z k22), if_pos (by omega)]))
    · refine z_iconst C dX4_readEwe_25 ?_
      exact zZ_zret C hR (Nat.le_refl _) (Nat.le_refl _) dX4_readEwe_26 rfl (Or.inl rfl) (zIs_I (by unfold stEwe; rw [← ev1, if_neg (by omega), if_pos (fun z => by simp at h22; omega)] <;> rfl) (by unfold stEwe; rw [← ev1, if_neg (by omega), if_pos (fun z => by simp at h22; omega)]))
  · refine z_iconst C dX4_readEwe_11 ?_
    exact zZ_zret C hR (Nat.le_refl _) (Nat.le_refl _) dX4_readEwe_12 rfl (Or.inl rfl) (zIs_I (by unfold stEwe; rw [if_pos (by omega)] <;> rfl) (by unfold stEwe; rw [if_pos (by omega)]))
