set_option maxHeartbeats 4000000 in
set_option maxRecDepth 100000 in
theorem c_X4_readStatement {g : zG} {I : Nat → Nat → Int} {J : Nat → Nat → Int64} {q : Nat × Nat} {n p : Nat} {R : HR} (hT : gT I) (hn : I 11 1 = (n : Nat)) (hp : p ≤ n) (hRR : gHR R) : zRun g mX4_readStatement 6 [.ref 11] (zst (drI (tkI I (I 12) n (p)) (R)) (drJ J (R)) q) (some (.int (iI (bI (stF (I 12) n p R).1)))) (zst (drI (tkI I (I 12) n ((stF (I 12) n p R).2.1)) ((stF (I 12) n p R).2.2)) (drJ J ((stF (I 12) n p R).2.2)) q) := by
  have hf : ∀ k, k < n → 0 ≤ I 12 k := fun k hk => (hT.2 k (by have := hT.1; omega)).1
  obtain ⟨d01, d02, d03, d04, d05, d06⟩ := dr_nx (R := R) hn hT (show p ≤ n by omega)
  have hle0 := tokE_n hn hT (show p ≤ n by omega)
  obtain ⟨⟨r1, r2, r3, r4, r5, r6⟩, r7, r8, r9⟩ := id hRR
  have hTr := tokT_r (I 12) n p
  have e12 := d01
  have e3 : drI (tkI I (I 12) n p) R 11 3 = tokT (I 12) n p := by rw [drI_n (by omega)]; rfl
  have e4 : (drI (tkI I (I 12) n p) R 11 4).toNat = skN (I 12) n p := by rw [drI_n (by omega)]; exact Int.toNat_natCast _
  have e5 := d03
  have e45 : 0 ≤ drI (tkI I (I 12) n p) R 11 4 ∧ drI (tkI I (I 12) n p) R 11 4 ≤ drI (tkI I (I 12) n p) R 11 5 ∧ drI (tkI I (I 12) n p) R 11 5 ≤ drI (tkI I (I 12) n p) R 11 1 := by
    have h := tok_r (p := p) hf hp
    rw [drI_n (by omega)]
    show 0 ≤ ((skN (I 12) n p : Nat) : Int) ∧ ((skN (I 12) n p : Nat) : Int) ≤ ((tokE (I 12) n p : Nat) : Int) ∧ ((tokE (I 12) n p : Nat) : Int) ≤ I 11 1
    omega
  refine zRuns_intro rfl (Nat.le_of_ble_eq_true rfl) (fun X C hR => ?_)
  show zZ g X 0 0 _ 0 [(0, .ref 11)] []
  refine z_aload_n C 0 rfl dX4_readStatement_0 rfl ?_
  refine y_getI C zCl4 3 flX4_26 rfl rfl dX4_readStatement_1 ?_
  rw [e3]
  refine z_iconst C dX4_readStatement_4 ?_
  refine z_icmp_eq C 10 dX4_readStatement_5 (by decide) (by omega) (by omega) (fun h5 => ?_) (fun h5 => ?_)
  · refine z_aload_n C 0 rfl dX4_readStatement_10 rfl ?_
    refine z_ldcS C (q := 0) "side" (by decide) dX4_readStatement_11 ?_
    refine y_callV1 C oX4_isWord iX4_isWord eX4_isWord lkX4_48 (c_X4_isWord (by decide) d04 e45) rfl (by decide) rfl rfl (by decide) (Nat.le_refl _) (Nat.le_refl _) (Nat.le_of_ble_eq_true rfl) dX4_readStatement_13 ?_
    refine z_top C (bI (wordN (I 12) (skN (I 12) n p) (tokE (I 12) n p) 0)) (by rw [e12, e4, e5]) ?_
    refine y_if_eqB C 24 dX4_readStatement_16 (by decide) (fun h16 => ?_) (fun h16 => ?_)
    · refine z_aload_n C 0 rfl dX4_readStatement_24 rfl ?_
      refine z_ldcS C (q := 1) "wall" (by decide) dX4_readStatement_25 ?_
      refine y_callV1 C oX4_isWord iX4_isWord eX4_isWord lkX4_48 (c_X4_isWord (by decide) d04 e45) rfl (by decide) rfl rfl (by decide) (Nat.le_refl _) (Nat.le_refl _) (Nat.le_of_ble_eq_true rfl) dX4_readStatement_27 ?_
      refine z_top C (bI (wordN (I 12) (skN (I 12) n p) (tokE (I 12) n p) 1)) (by rw [e12, e4, e5]) ?_
      refine y_if_eqB C 38 dX4_readStatement_30 (by decide) (fun h30 => ?_) (fun h30 => ?_)
      · refine z_aload_n C 0 rfl dX4_readStatement_38 rfl ?_
        refine z_ldcS C (q := 2) "gap" (by decide) dX4_readStatement_39 ?_
        refine y_callV1 C oX4_isWord iX4_isWord eX4_isWord lkX4_48 (c_X4_isWord (by decide) d04 e45) rfl (by decide) rfl rfl (by decide) (Nat.le_refl _) (Nat.le_refl _) (Nat.le_of_ble_eq_true rfl) dX4_readStatement_41 ?_
        refine z_top C (bI (wordN (I 12) (skN (I 12) n p) (tokE (I 12) n p) 2)) (by rw [e12, e4, e5]) ?_
        refine y_if_eqB C 52 dX4_readStatement_44 (by decide) (fun h44 => ?_) (fun h44 => ?_)
        · refine z_aload_n C 0 rfl dX4_readStatement_52 rfl ?_
          refine z_ldcS C (q := 3) "pen" (by decide) dX4_readStatement_53 ?_
          refine y_callV1 C oX4_isWord iX4_isWord eX4_isWord lkX4_48 (c_X4_isWord (by decide) d04 e45) rfl (by decide) rfl rfl (by decide) (Nat.le_refl _) (Nat.le_refl _) (Nat.le_of_ble_eq_true rfl) dX4_readStatement_55 ?_
          refine z_top C (bI (wordN (I 12) (skN (I 12) n p) (tokE (I 12) n p) 3)) (by rw [e12, e4, e5]) ?_
          refine y_if_eqB C 66 dX4_readStatement_58 (by decide) (fun h58 => ?_) (fun h58 => ?_)
          · refine z_aload_n C 0 rfl dX4_readStatement_66 rfl ?_
            refine z_ldcS C (q := 4) "dog" (by decide) dX4_readStatement_67 ?_
            refine y_callV1 C oX4_isWord iX4_isWord eX4_isWord lkX4_48 (c_X4_isWord (by decide) d04 e45) rfl (by decide) rfl rfl (by decide) (Nat.le_refl _) (Nat.le_refl _) (Nat.le_of_ble_eq_true rfl) dX4_readStatement_69 ?_
            refine z_top C (bI (wordN (I 12) (skN (I 12) n p) (tokE (I 12) n p) 4)) (by rw [e12, e4, e5]) ?_
            refine y_if_eqB C 80 dX4_readStatement_72 (by decide) (fun h72 => ?_) (fun h72 => ?_)
            · refine z_aload_n C 0 rfl dX4_readStatement_80 rfl ?_
              refine z_ldcS C (q := 5) "ewe" (by decide) dX4_readStatement_81 ?_
              refine y_callV1 C oX4_isWord iX4_isWord eX4_isWord lkX4_48 (c_X4_isWord (by decide) d04 e45) rfl (by decide) rfl rfl (by decide) (Nat.le_refl _) (Nat.le_refl _) (Nat.le_of_ble_eq_true rfl) dX4_readStatement_83 ?_
              refine z_top C (bI (wordN (I 12) (skN (I 12) n p) (tokE (I 12) n p) 5)) (by rw [e12, e4, e5]) ?_
              refine y_if_eqB C 94 dX4_readStatement_86 (by decide) (fun h86 => ?_) (fun h86 => ?_)
              · refine z_aload_n C 0 rfl dX4_readStatement_94 rfl ?_
                refine z_ldcS C (q := 6) "wind" (by decide) dX4_readStatement_95 ?_
                refine y_callV1 C oX4_isWord iX4_isWord eX4_isWord lkX4_48 (c_X4_isWord (by decide) d04 e45) rfl (by decide) rfl rfl (by decide) (Nat.le_refl _) (Nat.le_refl _) (Nat.le_of_ble_eq_true rfl) dX4_readStatement_97 ?_
                refine z_top C (bI (wordN (I 12) (skN (I 12) n p) (tokE (I 12) n p) 6)) (by rw [e12, e4, e5]) ?_
                refine y_if_eqB C 114 dX4_readStatement_100 (by decide) (fun h100 => ?_) (fun h100 => ?_)
                · refine z_iconst C dX4_readStatement_114 ?_
                  exact zZ_zret C hR (Nat.le_refl _) (Nat.le_refl _) dX4_readStatement_115 rfl (Or.inl rfl) (zIs_I (by rw [show stF (I 12) n p R = (false, p, R) from (by unfold stF; rw [if_neg (show ¬ ¬ tokT (I 12) n p = 1 by omega), if_neg (fun z => absurd (z.symm.trans h16) (by decide)), if_neg (fun z => absurd (z.symm.trans h30) (by decide)), if_neg (fun z => absurd (z.symm.trans h44) (by decide)), if_neg (fun z => absurd (z.symm.trans h58) (by decide)), if_neg (fun z => absurd (z.symm.trans h72) (by decide)), if_neg (fun z => absurd (z.symm.trans h86) (by decide)), if_neg (fun z => absurd (z.symm.trans h100) (by decide))])]; rfl) (by rw [show stF (I 12) n p R = (false, p, R) from (by unfold stF; rw [if_neg (show ¬ ¬ tokT (I 12) n p = 1 by omega), if_neg (fun z => absurd (z.symm.trans h16) (by decide)), if_neg (fun z => absurd (z.symm.trans h30) (by decide)), if_neg (fun z => absurd (z.symm.trans h44) (by decide)), if_neg (fun z => absurd (z.symm.trans h58) (by decide)), if_neg (fun z => absurd (z.symm.trans h72) (by decide)), if_neg (fun z => absurd (z.symm.trans h86) (by decide)), if_neg (fun z => absurd (z.symm.trans h100) (by decide))])]))
                · refine z_aload_n C 0 rfl dX4_readStatement_103 rfl ?_
                  refine y_callV0 C oX4_readWind iX4_readWind eX4_readWind lkX4_82 (c_X4_readWind hT hn (by first | assumption | omega) hRR) rfl (by decide) rfl rfl (by decide) (Nat.le_refl _) (Nat.le_refl _) (Nat.le_of_ble_eq_true rfl) dX4_readStatement_104 ?_
                  refine y_if_eqB C 114 dX4_readStatement_107 (by decide) (fun h107 => ?_) (fun h107 => ?_)
                  · refine z_iconst C dX4_readStatement_114 ?_
                    exact zZ_zret C hR (Nat.le_refl _) (Nat.le_refl _) dX4_readStatement_115 rfl (Or.inl rfl) (zIs_I (by rw [show stF (I 12) n p R = stWind (I 12) n (tokE (I 12) n p) R from (by unfold stF; rw [if_neg (show ¬ ¬ tokT (I 12) n p = 1 by omega), if_neg (fun z => absurd (z.symm.trans h16) (by decide)), if_neg (fun z => absurd (z.symm.trans h30) (by decide)), if_neg (fun z => absurd (z.symm.trans h44) (by decide)), if_neg (fun z => absurd (z.symm.trans h58) (by decide)), if_neg (fun z => absurd (z.symm.trans h72) (by decide)), if_neg (fun z => absurd (z.symm.trans h86) (by decide)), if_pos h100]), h107]; rfl) (by rw [show stF (I 12) n p R = stWind (I 12) n (tokE (I 12) n p) R from (by unfold stF; rw [if_neg (show ¬ ¬ tokT (I 12) n p = 1 by omega), if_neg (fun z => absurd (z.symm.trans h16) (by decide)), if_neg (fun z => absurd (z.symm.trans h30) (by decide)), if_neg (fun z => absurd (z.symm.trans h44) (by decide)), if_neg (fun z => absurd (z.symm.trans h58) (by decide)), if_neg (fun z => absurd (z.symm.trans h72) (by decide)), if_neg (fun z => absurd (z.symm.trans h86) (by decide)), if_pos h100])]))
                  · refine z_iconst C dX4_readStatement_110 ?_
                    refine z_goto C 115 dX4_readStatement_111 (by decide) ?_
                    exact zZ_zret C hR (Nat.le_refl _) (Nat.le_refl _) dX4_readStatement_115 rfl (Or.inr rfl) (zIs_I (by rw [show stF (I 12) n p R = stWind (I 12) n (tokE (I 12) n p) R from (by unfold stF; rw [if_neg (show ¬ ¬ tokT (I 12) n p = 1 by omega), if_neg (fun z => absurd (z.symm.trans h16) (by decide)), if_neg (fun z => absurd (z.symm.trans h30) (by decide)), if_neg (fun z => absurd (z.symm.trans h44) (by decide)), if_neg (fun z => absurd (z.symm.trans h58) (by decide)), if_neg (fun z => absurd (z.symm.trans h72) (by decide)), if_neg (fun z => absurd (z.symm.trans h86) (by decide)), if_pos h100]), h107]; rfl) (by rw [show stF (I 12) n p R = stWind (I 12) n (tokE (I 12) n p) R from (by unfold stF; rw [if_neg (show ¬ ¬ tokT (I 12) n p = 1 by omega), if_neg (fun z => absurd (z.symm.trans h16) (by decide)), if_neg (fun z => absurd (z.symm.trans h30) (by decide)), if_neg (fun z => absurd (z.symm.trans h44) (by decide)), if_neg (fun z => absurd (z.symm.trans h58) (by decide)), if_neg (fun z => absurd (z.symm.trans h72) (by decide)), if_neg (fun z => absurd (z.symm.trans h86) (by decide)), if_pos h100])]))
              · refine z_aload_n C 0 rfl dX4_readStatement_89 rfl ?_
                refine y_callV0 C oX4_readEwe iX4_readEwe eX4_readEwe lkX4_77 (c_X4_readEwe hT hn (by first | assumption | omega) hRR) rfl (by decide) rfl rfl (by decide) (Nat.le_refl _) (Nat.le_refl _) (Nat.le_of_ble_eq_true rfl) dX4_readStatement_90 ?_
                exact zZ_zret C hR (Nat.le_refl _) (Nat.le_refl _) dX4_readStatement_93 rfl (by rcases bI_01 _ with h | h <;> rw [h] <;> decide) (zIs_I (by rw [show stF (I 12) n p R = stEwe (I 12) n p R from (by unfold stF; rw [if_neg (show ¬ ¬ tokT (I 12) n p = 1 by omega), if_neg (fun z => absurd (z.symm.trans h16) (by decide)), if_neg (fun z => absurd (z.symm.trans h30) (by decide)), if_neg (fun z => absurd (z.symm.trans h44) (by decide)), if_neg (fun z => absurd (z.symm.trans h58) (by decide)), if_neg (fun z => absurd (z.symm.trans h72) (by decide)), if_pos h86])]) (by rw [show stF (I 12) n p R = stEwe (I 12) n p R from (by unfold stF; rw [if_neg (show ¬ ¬ tokT (I 12) n p = 1 by omega), if_neg (fun z => absurd (z.symm.trans h16) (by decide)), if_neg (fun z => absurd (z.symm.trans h30) (by decide)), if_neg (fun z => absurd (z.symm.trans h44) (by decide)), if_neg (fun z => absurd (z.symm.trans h58) (by decide)), if_neg (fun z => absurd (z.symm.trans h72) (by decide)), if_pos h86])]))
            · refine z_aload_n C 0 rfl dX4_readStatement_75 rfl ?_
              refine y_callV0 C oX4_readDog iX4_readDog eX4_readDog lkX4_72 (c_X4_readDog hT hn (by first | assumption | omega) hRR) rfl (by decide) rfl rfl (by decide) (Nat.le_refl _) (Nat.le_refl _) (Nat.le_of_ble_eq_true rfl) dX4_readStatement_76 ?_
              exact zZ_zret C hR (Nat.le_refl _) (Nat.le_refl _) dX4_readStatement_79 rfl (by rcases bI_01 _ with h | h <;> rw [h] <;> decide) (zIs_I (by rw [show stF (I 12) n p R = stDog (I 12) n (tokE (I 12) n p) R from (by unfold stF; rw [if_neg (show ¬ ¬ tokT (I 12) n p = 1 by omega), if_neg (fun z => absurd (z.symm.trans h16) (by decide)), if_neg (fun z => absurd (z.symm.trans h30) (by decide)), if_neg (fun z => absurd (z.symm.trans h44) (by decide)), if_neg (fun z => absurd (z.symm.trans h58) (by decide)), if_pos h72])]) (by rw [show stF (I 12) n p R = stDog (I 12) n (tokE (I 12) n p) R from (by unfold stF; rw [if_neg (show ¬ ¬ tokT (I 12) n p = 1 by omega), if_neg (fun z => absurd (z.symm.trans h16) (by decide)), if_neg (fun z => absurd (z.symm.trans h30) (by decide)), if_neg (fun z => absurd (z.symm.trans h44) (by decide)), if_neg (fun z => absurd (z.symm.trans h58) (by decide)), if_pos h72])]))
          · refine z_aload_n C 0 rfl dX4_readStatement_61 rfl ?_
            refine y_callV0 C oX4_readPen iX4_readPen eX4_readPen lkX4_67 (c_X4_readPen hT hn (by first | assumption | omega) hRR) rfl (by decide) rfl rfl (by decide) (Nat.le_refl _) (Nat.le_refl _) (Nat.le_of_ble_eq_true rfl) dX4_readStatement_62 ?_
            exact zZ_zret C hR (Nat.le_refl _) (Nat.le_refl _) dX4_readStatement_65 rfl (by rcases bI_01 _ with h | h <;> rw [h] <;> decide) (zIs_I (by rw [show stF (I 12) n p R = stPen (I 12) n (tokE (I 12) n p) R from (by unfold stF; rw [if_neg (show ¬ ¬ tokT (I 12) n p = 1 by omega), if_neg (fun z => absurd (z.symm.trans h16) (by decide)), if_neg (fun z => absurd (z.symm.trans h30) (by decide)), if_neg (fun z => absurd (z.symm.trans h44) (by decide)), if_pos h58])]) (by rw [show stF (I 12) n p R = stPen (I 12) n (tokE (I 12) n p) R from (by unfold stF; rw [if_neg (show ¬ ¬ tokT (I 12) n p = 1 by omega), if_neg (fun z => absurd (z.symm.trans h16) (by decide)), if_neg (fun z => absurd (z.symm.trans h30) (by decide)), if_neg (fun z => absurd (z.symm.trans h44) (by decide)), if_pos h58])]))
        · refine z_aload_n C 0 rfl dX4_readStatement_47 rfl ?_
          refine y_callV0 C oX4_readGap iX4_readGap eX4_readGap lkX4_62 (c_X4_readGap hT hn (by first | assumption | omega) hRR) rfl (by decide) rfl rfl (by decide) (Nat.le_refl _) (Nat.le_refl _) (Nat.le_of_ble_eq_true rfl) dX4_readStatement_48 ?_
          exact zZ_zret C hR (Nat.le_refl _) (Nat.le_refl _) dX4_readStatement_51 rfl (by rcases bI_01 _ with h | h <;> rw [h] <;> decide) (zIs_I (by rw [show stF (I 12) n p R = stGap (I 12) n (tokE (I 12) n p) R from (by unfold stF; rw [if_neg (show ¬ ¬ tokT (I 12) n p = 1 by omega), if_neg (fun z => absurd (z.symm.trans h16) (by decide)), if_neg (fun z => absurd (z.symm.trans h30) (by decide)), if_pos h44])]) (by rw [show stF (I 12) n p R = stGap (I 12) n (tokE (I 12) n p) R from (by unfold stF; rw [if_neg (show ¬ ¬ tokT (I 12) n p = 1 by omega), if_neg (fun z => absurd (z.symm.trans h16) (by decide)), if_neg (fun z => absurd (z.symm.trans h30) (by decide)), if_pos h44])]))
      · refine z_aload_n C 0 rfl dX4_readStatement_33 rfl ?_
        refine y_callV0 C oX4_readWall iX4_readWall eX4_readWall lkX4_57 (c_X4_readWall hT hn (by first | assumption | omega) hRR) rfl (by decide) rfl rfl (by decide) (Nat.le_refl _) (Nat.le_refl _) (Nat.le_of_ble_eq_true rfl) dX4_readStatement_34 ?_
        exact zZ_zret C hR (Nat.le_refl _) (Nat.le_refl _) dX4_readStatement_37 rfl (by rcases bI_01 _ with h | h <;> rw [h] <;> decide) (zIs_I (by rw [show stF (I 12) n p R = stWall (I 12) n (tokE (I 12) n p) R from (by unfold stF; rw [if_neg (show ¬ ¬ tokT (I 12) n p = 1 by omega), if_neg (fun z => absurd (z.symm.trans h16) (by decide)), if_pos h30])]) (by rw [show stF (I 12) n p R = stWall (I 12) n (tokE (I 12) n p) R from (by unfold stF; rw [if_neg (show ¬ ¬ tokT (I 12) n p = 1 by omega), if_neg (fun z => absurd (z.symm.trans h16) (by decide)), if_pos h30])]))
    · refine z_aload_n C 0 rfl dX4_readStatement_19 rfl ?_
      refine y_callV0 C oX4_readSide iX4_readSide eX4_readSide lkX4_52 (c_X4_readSide hT hn (by first | assumption | omega) hRR) rfl (by decide) rfl rfl (by decide) (Nat.le_refl _) (Nat.le_refl _) (Nat.le_of_ble_eq_true rfl) dX4_readStatement_20 ?_
      exact zZ_zret C hR (Nat.le_refl _) (Nat.le_refl _) dX4_readStatement_23 rfl (by rcases bI_01 _ with h | h <;> rw [h] <;> decide) (zIs_I (by rw [show stF (I 12) n p R = stSide (I 12) n (tokE (I 12) n p) R from (by unfold stF; rw [if_neg (show ¬ ¬ tokT (I 12) n p = 1 by omega), if_pos h16])]) (by rw [show stF (I 12) n p R = stSide (I 12) n (tokE (I 12) n p) R from (by unfold stF; rw [if_neg (show ¬ ¬ tokT (I 12) n p = 1 by omega), if_pos h16])]))
  · refine z_iconst C dX4_readStatement_8 ?_
    exact zZ_zret C hR (Nat.le_refl _) (Nat.le_refl _) dX4_readStatement_9 rfl (Or.inl rfl) (zIs_I (by unfold stF; rw [if_pos (by omega)]; rfl) (by unfold stF; rw [if_pos (by omega)]))
