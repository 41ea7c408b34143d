set_option maxHeartbeats 4000000 in
set_option maxRecDepth 100000 in
theorem c_X6_goes {g : zG} {I : Nat → Nat → Int} {J : Nat → Nat → Int64} {q : Nat × Nat} {k : Nat} (hgr : gR I) (hrs : gRS (spR I)) (hdo : openN (I 58 0) (maskW (I 59)) (I 58 3) = true) (hk : k < 5) : zRun g mX6_goes 5 [.ref 58, .int (iI ((k : Int)))] (zst I J q) (none) (zst (zRq I (turnS (hvR I) (spR I) (k : Int))) J q) := by
  obtain ⟨b1, b2, b3, b4, b5, b6, b7⟩ := id hgr
  obtain ⟨k1, k2, k3⟩ := id hrs
  have k1 : gC7 (I 58 3) := k1
  have k2 : 0 ≤ I 58 4 ∧ I 58 4 ≤ 4 := k2
  have k3 : ∀ e, e < 5 → gC7 (I 62 e) := k3
  have k1' := k1.1
  have b2' := b2.1
  obtain ⟨n, hn⟩ : ∃ n : Nat, I 58 5 = n := ⟨(I 58 5).toNat, by omega⟩
  have hn2 : (I 58 5).toNat = n := by omega
  obtain ⟨D, hD⟩ : ∃ D, D = dogN (hvR I) (I 58 3) (k : Int) := ⟨_, rfl⟩
  have hfin : turnS (hvR I) (spR I) (k : Int) = (D, (k : Int), turnC (hvR I) D (I 62) n) := by
    unfold turnS goneC
    rw [hD, ← hn2]
    rfl
  rw [hfin]
  have hD7 : gC7 D := by rw [hD]; exact dogN_7 (H := hvR I) b1.2 k1
  have hT7 := turnC_7 (H := hvR I) (dog := D) b1.2 k3
  have h7 := bsN_7 (w := maskW (I 59)) (c := I 58 3) (k := k) b1.2
  refine zRuns_intro rfl (Nat.le_of_ble_eq_true rfl) (fun X C hR => ?_)
  show zZ g X 0 0 _ 0 [(0, .ref 58), (1, .int (iI ((k : Int))))] []
  refine z_aload_n C 0 rfl dX6_goes_0 rfl ?_
  refine z_iload_n C 1 rfl dX6_goes_1 rfl ?_
  refine y_callV1 C oX6_can iX6_can eX6_can lkX6_232 (c_X6_can hgr hrs (by first | assumption | omega)) rfl (by decide) rfl rfl (by decide) (Nat.le_refl _) (Nat.le_refl _) (Nat.le_of_ble_eq_true rfl) dX6_goes_2 ?_
  refine y_if_eqB C 21 dX6_goes_5 (by decide) (fun h5 => ?_) (fun h5 => ?_)
  · refine z_aload_n C 0 rfl dX6_goes_21 rfl ?_
    refine z_iload_n C 1 rfl dX6_goes_22 rfl ?_
    refine y_putI C zCl6 4 flX6_235 rfl rfl rfl rfl dX6_goes_23 ?_
    refine z_iconst C dX6_goes_26 ?_
    refine z_istore_n C [(2, .int (iI 0)), (0, .ref 58), (1, .int (iI ((k : Int))))] dX6_goes_27 rfl (by decide) rfl ?_
    refine zZ_sub [1, 2, 0] rfl ?_
    refine zZ_cast (σ' := (fun e : Nat => zst (zRq I (D, (k : Int), turnC (hvR I) D (I 62) e)) J q) 0) (L' := (fun e : Nat => [(0, .ref 58), (1, .int (iI ((k : Int)))), (2, .int (iI (e : Int)))]) 0) (by refine congrArg (fun I' => zst I' J q) ?_; rw [zu584, show D = I 58 3 by rw [hD]; unfold dogN; exact if_neg (fun z => absurd (z.symm.trans h5) (by decide))]; rfl) rfl rfl ?_
    refine zfor (n) (fun _ => True) (fun e : Nat => zst (zRq I (D, (k : Int), turnC (hvR I) D (I 62) e)) J q) (fun e : Nat => [(0, .ref 58), (1, .int (iI ((k : Int)))), (2, .int (iI (e : Int)))]) trivial ?_ ?_
    · intro e hee hpe kke
      have hrz : gRS (spR (zRq I (D, (k : Int), turnC (hvR I) D (I 62) e))) := ⟨hD7, ⟨by show 0 ≤ (k : Int); omega, by show (k : Int) ≤ 4; omega⟩, hT7 e (by omega)⟩
      refine z_iload_n C 2 rfl dX6_goes_28 rfl ?_
      refine z_aload_n C 0 rfl dX6_goes_29 rfl ?_
      refine y_getI C zCl6 5 flX6_72 rfl rfl dX6_goes_30 ?_
      refine z_top C (I 58 5) (rfl) ?_
      refine z_icmp_ge C 47 dX6_goes_33 (by decide) (by omega) (by omega) (fun h33 => ?_) (fun h33 => ?_)
      · omega
      · refine z_aload_n C 0 rfl dX6_goes_36 rfl ?_
        refine z_iload_n C 2 rfl dX6_goes_37 rfl ?_
        refine y_callV1 C oX6_eweGoes iX6_eweGoes eX6_eweGoes lkX6_108 (c_X6_eweGoes (gR_q hgr) hrz (by first | assumption | omega)) rfl (by decide) rfl rfl (by decide) (Nat.le_refl _) (Nat.le_refl _) (Nat.le_of_ble_eq_true rfl) dX6_goes_38 ?_
        obtain ⟨v1, ev1⟩ : ∃ y : Int, y = (e : Int) + 1 := ⟨_, rfl⟩
        refine z_iinc C 2 v1 [(2, .int (iI v1)), (0, .ref 58), (1, .int (iI ((k : Int))))] dX6_goes_41 rfl ev1.symm (by decide) rfl ?_
        refine z_goto C 28 dX6_goes_44 (by decide) ?_
        refine zZ_sub [1, 2, 0] rfl ?_
        refine zZ_cast (by refine congrArg (fun I' => zst I' J q) ?_; rw [zRq_zRq]; rfl) (zLk (zLk (zLc (by omega) rfl))) rfl (kke trivial)
    · intro hpe
      refine z_iload_n C 2 rfl dX6_goes_28 rfl ?_
      refine z_aload_n C 0 rfl dX6_goes_29 rfl ?_
      refine y_getI C zCl6 5 flX6_72 rfl rfl dX6_goes_30 ?_
      refine z_top C (I 58 5) (rfl) ?_
      refine z_icmp_ge C 47 dX6_goes_33 (by decide) (by omega) (by omega) (fun h33 => ?_) (fun h33 => ?_)
      · exact zZ_vret C hR (Nat.le_refl _) (Nat.le_refl _) dX6_goes_47 rfl (zIs_V rfl)
      · omega
  · have hop : (if openN (I 58 0) (maskW (I 59)) (I 58 3 + shN k) = true then I 58 3 + shN k else -1) = I 58 3 + shN k := by
      have h5' := h5
      simp only [canN, Bool.or_eq_true, decide_eq_true_eq] at h5'
      rcases h5' with z | z
      · rw [show k = 0 by omega, show shN 0 = 0 from rfl, Int.add_zero]
        by_cases ho : openN (I 58 0) (maskW (I 59)) (I 58 3) = true
        · rw [if_pos ho]
        · exact absurd hdo ho
      · rw [Int.toNat_natCast] at z
        simp only [dogsN, Bool.and_eq_true] at z
        rw [if_pos z.2]
    refine z_aload_n C 0 rfl dX6_goes_8 rfl ?_
    refine z_aload_n C 0 rfl dX6_goes_9 rfl ?_
    refine z_aload_n C 0 rfl dX6_goes_10 rfl ?_
    refine y_getI C zCl6 3 flX6_61 rfl rfl dX6_goes_11 ?_
    refine z_iload_n C 1 rfl dX6_goes_14 rfl ?_
    refine y_callV2 C oX6_beside iX6_beside eX6_beside lkX6_218 (c_X6_beside hgr k1 (by first | assumption | omega)) rfl (by decide) rfl rfl (by decide) (Nat.le_refl _) (Nat.le_refl _) (Nat.le_of_ble_eq_true rfl) dX6_goes_15 ?_
    refine y_putI C zCl6 3 flX6_61 rfl rfl rfl rfl dX6_goes_18 ?_
    refine z_aload_n C 0 rfl dX6_goes_21 rfl ?_
    refine z_iload_n C 1 rfl dX6_goes_22 rfl ?_
    refine y_putI C zCl6 4 flX6_235 rfl rfl rfl rfl dX6_goes_23 ?_
    refine z_iconst C dX6_goes_26 ?_
    refine z_istore_n C [(2, .int (iI 0)), (0, .ref 58), (1, .int (iI ((k : Int))))] dX6_goes_27 rfl (by decide) rfl ?_
    refine zZ_sub [1, 2, 0] rfl ?_
    refine zZ_cast (σ' := (fun e : Nat => zst (zRq I (D, (k : Int), turnC (hvR I) D (I 62) e)) J q) 0) (L' := (fun e : Nat => [(0, .ref 58), (1, .int (iI ((k : Int)))), (2, .int (iI (e : Int)))]) 0) (by refine congrArg (fun I' => zst I' J q) ?_; rw [zu583, zRq_p4, show bsN (I 58 0) (maskW (I 59)) (I 58 3) k = D by rw [hD]; exact Eq.trans (b := I 58 3 + shN k) hop (if_pos h5).symm]; rfl) rfl rfl ?_
    refine zfor (n) (fun _ => True) (fun e : Nat => zst (zRq I (D, (k : Int), turnC (hvR I) D (I 62) e)) J q) (fun e : Nat => [(0, .ref 58), (1, .int (iI ((k : Int)))), (2, .int (iI (e : Int)))]) trivial ?_ ?_
    · intro e hee hpe kke
      have hrz : gRS (spR (zRq I (D, (k : Int), turnC (hvR I) D (I 62) e))) := ⟨hD7, ⟨by show 0 ≤ (k : Int); omega, by show (k : Int) ≤ 4; omega⟩, hT7 e (by omega)⟩
      refine z_iload_n C 2 rfl dX6_goes_28 rfl ?_
      refine z_aload_n C 0 rfl dX6_goes_29 rfl ?_
      refine y_getI C zCl6 5 flX6_72 rfl rfl dX6_goes_30 ?_
      refine z_top C (I 58 5) (rfl) ?_
      refine z_icmp_ge C 47 dX6_goes_33 (by decide) (by omega) (by omega) (fun h33 => ?_) (fun h33 => ?_)
      · omega
      · refine z_aload_n C 0 rfl dX6_goes_36 rfl ?_
        refine z_iload_n C 2 rfl dX6_goes_37 rfl ?_
        refine y_callV1 C oX6_eweGoes iX6_eweGoes eX6_eweGoes lkX6_108 (c_X6_eweGoes (gR_q hgr) hrz (by first | assumption | omega)) rfl (by decide) rfl rfl (by decide) (Nat.le_refl _) (Nat.le_refl _) (Nat.le_of_ble_eq_true rfl) dX6_goes_38 ?_
        obtain ⟨v2, ev2⟩ : ∃ y : Int, y = (e : Int) + 1 := ⟨_, rfl⟩
        refine z_iinc C 2 v2 [(2, .int (iI v2)), (0, .ref 58), (1, .int (iI ((k : Int))))] dX6_goes_41 rfl ev2.symm (by decide) rfl ?_
        refine z_goto C 28 dX6_goes_44 (by decide) ?_
        refine zZ_sub [1, 2, 0] rfl ?_
        refine zZ_cast (by refine congrArg (fun I' => zst I' J q) ?_; rw [zRq_zRq]; rfl) (zLk (zLk (zLc (by omega) rfl))) rfl (kke trivial)
    · intro hpe
      refine z_iload_n C 2 rfl dX6_goes_28 rfl ?_
      refine z_aload_n C 0 rfl dX6_goes_29 rfl ?_
      refine y_getI C zCl6 5 flX6_72 rfl rfl dX6_goes_30 ?_
      refine z_top C (I 58 5) (rfl) ?_
      refine z_icmp_ge C 47 dX6_goes_33 (by decide) (by omega) (by omega) (fun h33 => ?_) (fun h33 => ?_)
      · exact zZ_vret C hR (Nat.le_refl _) (Nat.le_refl _) dX6_goes_47 rfl (zIs_V rfl)
      · omega
