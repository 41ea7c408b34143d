set_option maxHeartbeats 4000000 in
set_option maxRecDepth 100000 in
theorem c_X6_image {g : zG} {I : Nat → Nat → Int} {J : Nat → Nat → Int64} {q : Nat × Nat}  (hgr : gR I) : zRun g mX6_image 1 [.ref 58] (zst I J q) (some (.int (iI (1)))) (zst (kpI (zu I 58 22 1) 68) J q) := by
  refine zRuns_intro rfl (Nat.le_of_ble_eq_true rfl) (fun X C hR => ?_)
  show zZ g X 0 0 _ 0 [(0, .ref 58)] []
  refine z_aload_n C 0 rfl dX6_image_0 rfl ?_
  refine z_iconst C dX6_image_1 ?_
  refine y_putZ C zCl6 22 flX6_306 rfl rfl rfl rfl (by decide) dX6_image_2 ?_
  refine z_aload_n C 0 rfl dX6_image_5 rfl ?_
  refine z_aload_n C 0 rfl dX6_image_6 rfl ?_
  refine y_getR C zCl6 23 flX6_39 rfl rfl rfl dX6_image_7 ?_
  refine y_callV1 C oX6_keep iX6_keep eX6_keep lkX6_204 (c_X6_keep_68 (gR_im hgr)) rfl (by decide) rfl rfl (by decide) (Nat.le_refl _) (Nat.le_refl _) (Nat.le_of_ble_eq_true rfl) dX6_image_10 ?_
  refine z_iconst C dX6_image_13 ?_
  exact zZ_iret C hR (Nat.le_refl _) (Nat.le_refl _) dX6_image_14 rfl (zIs_I rfl rfl)
set_option maxHeartbeats 4000000 in
set_option maxRecDepth 100000 in
theorem c_X6_back {g : zG} {I : Nat → Nat → Int} {J : Nat → Nat → Int64} {q : Nat × Nat}  (hgr : gR I) (hrl : gRL I) (hwk : ∀ k, k < 67 → I 68 k = 0 ∨ I 68 k = 1) (hkn : 0 ≤ I 68 86 ∧ I 68 86 ≤ 5) (him : I 58 22 = 0 ∨ I 58 22 = 1) : zRun g mX6_back 1 [.ref 58] (zst I J q) (some (.int (iI (if I 58 22 = 0 then -5 else 1)))) (zst (if I 58 22 = 0 then refR I (-5) else dropR (kbI I 68) 8) J q) := by
  have hB64 : kbI I 68 64 = I 64 := by funext k; exact mixP_n (by simp [kbR])
  have hB5 : kbI I 68 58 5 = I 68 86 := congrArg (fun x => x) rfl
  refine zRuns_intro rfl (Nat.le_of_ble_eq_true rfl) (fun X C hR => ?_)
  show zZ g X 0 0 _ 0 [(0, .ref 58)] []
  refine z_aload_n C 0 rfl dX6_back_0 rfl ?_
  refine y_getI C zCl6 22 flX6_306 rfl rfl dX6_back_1 ?_
  refine z_if_ne C 14 dX6_back_4 (by decide) (by omega) (fun h4 => ?_) (fun h4 => ?_)
  · refine z_aload_n C 0 rfl dX6_back_14 rfl ?_
    refine z_aload_n C 0 rfl dX6_back_15 rfl ?_
    refine y_getR C zCl6 23 flX6_39 rfl rfl rfl dX6_back_16 ?_
    refine y_callV1 C oX6_keepBack iX6_keepBack eX6_keepBack lkX6_212 (c_X6_keepBack_68 hwk) rfl (by decide) rfl rfl (by decide) (Nat.le_refl _) (Nat.le_refl _) (Nat.le_of_ble_eq_true rfl) dX6_back_19 ?_
    refine z_iconst C dX6_back_22 ?_
    refine z_istore_n C [(1, .int (iI 0)), (0, .ref 58)] dX6_back_23 rfl (by decide) rfl ?_
    refine zZ_sub [1, 0] rfl ?_
    refine zZ_cast (σ' := (fun e : Nat => zst (dropR (kbI I 68) e) J q) 0) (L' := (fun e : Nat => [(0, .ref 58), (1, .int (iI (e : Int)))]) 0) rfl rfl rfl ?_
    refine zfor (8) (fun _ => True) (fun e : Nat => zst (dropR (kbI I 68) e) J q) (fun e : Nat => [(0, .ref 58), (1, .int (iI (e : Int)))]) trivial ?_ ?_
    · intro e hee hpe kke
      have hle := hrl e hee
      have hd64 : dropR (kbI I 68) e 64 e = I 64 e := by rw [dropR_n (.inr (Nat.le_refl e)), hB64]
      have hd5 : dropR (kbI I 68) e 58 5 = I 68 86 := by rw [dropR_n (.inl (by decide)), hB5]
      refine z_iload_n C 1 rfl dX6_back_24 rfl ?_
      refine z_bipush C dX6_back_25 (by decide) ?_
      refine z_icmp_ge C 59 dX6_back_27 (by decide) (by omega) (by omega) (fun h27 => ?_) (fun h27 => ?_)
      · omega
      · refine z_aload_n C 0 rfl dX6_back_30 rfl ?_
        refine y_getR C zCl6 18 flX6_26 rfl rfl rfl dX6_back_31 ?_
        refine z_iload_n C 1 rfl dX6_back_34 rfl ?_
        refine y_iald C e (by omega) rfl (by omega) (by decide) dX6_back_35 ?_
        refine z_top C (I 64 e) (hd64) ?_
        refine z_bipush C dX6_back_36 (by decide) ?_
        refine z_aload_n C 0 rfl dX6_back_38 rfl ?_
        refine y_getI C zCl6 5 flX6_72 rfl rfl dX6_back_39 ?_
        refine z_top C (I 68 86) (hd5) ?_
        refine z_iadd C dX6_back_42 ?_
        refine z_icmp_lt C 53 dX6_back_43 (by decide) (by omega) (by omega) (fun h43 => ?_) (fun h43 => ?_)
        · obtain ⟨v1, ev1⟩ : ∃ y : Int, y = (e : Int) + 1 := ⟨_, rfl⟩
          refine z_iinc C 1 v1 [(1, .int (iI v1)), (0, .ref 58)] dX6_back_53 rfl ev1.symm (by decide) rfl ?_
          refine z_goto C 24 dX6_back_56 (by decide) ?_
          refine zZ_sub [1, 0] rfl ?_
          refine zZ_cast (by refine congrArg (fun I' => zst I' J q) ?_; simp only [dropR]; rw [if_neg (by rw [hB5, hB64]; omega)]) (zLk (zLc (by omega) rfl)) rfl (kke trivial)
        · refine z_aload_n C 0 rfl dX6_back_46 rfl ?_
          refine y_getR C zCl6 18 flX6_26 rfl rfl rfl dX6_back_47 ?_
          refine z_iload_n C 1 rfl dX6_back_50 rfl ?_
          refine z_iconst C dX6_back_51 ?_
          refine y_iast C e (by omega) rfl (by omega) (by decide) dX6_back_52 ?_
          obtain ⟨v2, ev2⟩ : ∃ y : Int, y = (e : Int) + 1 := ⟨_, rfl⟩
          refine z_iinc C 1 v2 [(1, .int (iI v2)), (0, .ref 58)] dX6_back_53 rfl ev2.symm (by decide) rfl ?_
          refine z_goto C 24 dX6_back_56 (by decide) ?_
          refine zZ_sub [1, 0] rfl ?_
          refine zZ_cast (by refine congrArg (fun I' => zst I' J q) ?_; simp only [dropR]; rw [if_pos (by rw [hB5, hB64]; omega)]) (zLk (zLc (by omega) rfl)) rfl (kke trivial)
    · intro hpe
      refine z_iload_n C 1 rfl dX6_back_24 rfl ?_
      refine z_bipush C dX6_back_25 (by decide) ?_
      refine z_icmp_ge C 59 dX6_back_27 (by decide) (by omega) (by omega) (fun h27 => ?_) (fun h27 => ?_)
      · refine z_iconst C dX6_back_59 ?_
        exact zZ_iret C hR (Nat.le_refl _) (Nat.le_refl _) dX6_back_60 rfl (zIs_I (if_neg (by omega)).symm (by refine congrArg (fun I' => zst I' J q) ?_; exact (if_neg (by omega)).symm))
      · omega
  · refine z_aload_n C 0 rfl dX6_back_7 rfl ?_
    refine z_bipush C dX6_back_8 (by decide) ?_
    refine y_callV1 C oX6_no iX6_no eX6_no lkX6_83 (c_X6_no (by first | assumption | omega)) rfl (by decide) rfl rfl (by decide) (Nat.le_refl _) (Nat.le_refl _) (Nat.le_of_ble_eq_true rfl) dX6_back_10 ?_
    exact zZ_iret C hR (Nat.le_refl _) (Nat.le_refl _) dX6_back_13 rfl (zIs_I (if_pos (by omega)).symm (by refine congrArg (fun I' => zst I' J q) ?_; exact (if_pos (by omega)).symm))
