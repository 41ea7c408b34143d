set_option maxHeartbeats 4000000 in
set_option maxRecDepth 100000 in
theorem c_X6_eweGoes {g : zG} {I : Nat → Nat → Int} {J : Nat → Nat → Int64} {q : Nat × Nat} {w : Nat} (hgr : gR I) (hrs : gRS (spR I)) (hw : w < 5) : zRun g mX6_eweGoes 4 [.ref 58, .int (iI ((w : Int)))] (zst I J q) (none) (zst (zRq I (I 58 3, I 58 4, up1 (I 62) w (goalN (hvR I) (I 58 3) (I 62) w (I 60 w)))) J q) := by
  obtain ⟨b1, b2, b3, b4, b5, b6, b7⟩ := id hgr
  obtain ⟨k1, k2, k3⟩ := id hrs
  have k1 : gC7 (I 58 3) := k1
  have k2 : 0 ≤ I 58 4 ∧ I 58 4 ≤ 4 := k2
  have k3 : ∀ e, e < 5 → gC7 (I 62 e) := k3
  have k1' := k1.1
  have b2' := b2.1
  have hcw := k3 w hw
  have hcw' := hcw.1
  have hkw := b5 w hw
  have how := b6 w hw
  have hst := stp_r (c := I 62 w) (d := I 58 3) (by omega) (by omega)
  refine zRuns_intro rfl (Nat.le_of_ble_eq_true rfl) (fun X C hR => ?_)
  show zZ g X 0 0 _ 0 [(0, .ref 58), (1, .int (iI ((w : Int))))] []
  refine z_aload_n C 0 rfl dX6_eweGoes_0 rfl ?_
  refine z_iload_n C 1 rfl dX6_eweGoes_1 rfl ?_
  refine y_callV1 C oX6_isIn iX6_isIn eX6_isIn lkX6_122 (c_X6_isIn hgr hrs (by first | assumption | omega)) rfl (by decide) rfl rfl (by decide) (Nat.le_refl _) (Nat.le_refl _) (Nat.le_of_ble_eq_true rfl) dX6_eweGoes_2 ?_
  refine y_if_eqB C 9 dX6_eweGoes_5 (by decide) (fun h5 => ?_) (fun h5 => ?_)
  · refine z_aload_n C 0 rfl dX6_eweGoes_9 rfl ?_
    refine y_getR C zCl6 8 flX6_20 rfl rfl rfl dX6_eweGoes_10 ?_
    refine z_iload_n C 1 rfl dX6_eweGoes_13 rfl ?_
    refine y_iald C w (by omega) rfl (by omega) (by decide) dX6_eweGoes_14 ?_
    refine z_aload_n C 0 rfl dX6_eweGoes_15 rfl ?_
    refine y_getI C zCl6 3 flX6_61 rfl rfl dX6_eweGoes_16 ?_
    refine y_callS2 C oX6_steps sX6_steps lkX6_215 (c_X6_steps (by first | assumption | omega) (by first | assumption | omega)) (by decide) (Nat.le_refl _) (Nat.le_refl _) (Nat.le_of_ble_eq_true rfl) dX6_eweGoes_19 ?_
    refine z_topI C (fun fr efr => ?_)
    have efr : fr = stp (I 62 w) (I 58 3) := efr
    refine z_istore_n C [(2, .int (iI fr)), (0, .ref 58), (1, .int (iI ((w : Int))))] dX6_eweGoes_22 rfl (by decide) rfl ?_
    refine z_aload_n C 1 rfl dX6_eweGoes_23 rfl ?_
    refine y_getR C zCl6 6 flX6_13 rfl rfl rfl dX6_eweGoes_24 ?_
    refine z_iload_n C 2 rfl dX6_eweGoes_27 rfl ?_
    refine y_iald C w (by omega) rfl (by omega) (by decide) dX6_eweGoes_28 ?_
    rcases (show I 60 w = 1 ∨ I 60 w = 2 ∨ I 60 w = 3 ∨ I 60 w = 4 ∨ I 60 w = 5 ∨ (I 60 w < 1 ∨ 5 < I 60 w) by omega) with hsw | hsw | hsw | hsw | hsw | hsw
    · rw [hsw]
      refine z_tabIn C 64 dX6_eweGoes_29 (by decide) (by decide) (by decide) rfl (by decide) ?_
      have hkd : I 60 w = 1 := hsw
      refine z_aload_n C 1 rfl dX6_eweGoes_64 rfl ?_
      refine z_iload_n C 2 rfl dX6_eweGoes_65 rfl ?_
      refine z_iconst C dX6_eweGoes_66 ?_
      refine z_top C (((2 : Nat) : Int)) (rfl) ?_
      refine z_iconst C dX6_eweGoes_67 ?_
      refine y_callV3 C oX6_runs iX6_runs eX6_runs lkX6_228 (c_X6_runs hgr hrs (by first | assumption | omega) (by decide) (by first | assumption | omega)) rfl (by decide) rfl rfl (by decide) (Nat.le_refl _) (Nat.le_refl _) (Nat.le_of_ble_eq_true rfl) dX6_eweGoes_68 ?_
      exact zZ_vret C hR (Nat.le_refl _) (Nat.le_refl _) dX6_eweGoes_71 rfl (zIs_V (by refine congrArg (fun I' => zst I' J q) ?_; rw [show goalN (hvR I) (I 58 3) (I 62) w (I 60 w) = git (I 58 0) (maskW (I 59)) (I 58 2) (I 58 3) 3 (-1) (leadN (I 60) (I 62) (I 58 2) w (I 58 5).toNat) (I 62 w) 2 from by unfold goalN fearN markN; rw [hkd, if_neg (by decide), if_neg (by decide)]; rfl]))
    · rw [hsw]
      refine z_tabIn C 72 dX6_eweGoes_29 (by decide) (by decide) (by decide) rfl (by decide) ?_
      have hkd : I 60 w = 2 := hsw
      refine z_iload_n C 0 rfl dX6_eweGoes_72 rfl ?_
      refine z_iconst C dX6_eweGoes_73 ?_
      refine z_icmp_le C 84 dX6_eweGoes_74 (by decide) (by omega) (by omega) (fun h74 => ?_) (fun h74 => ?_)
      · exact zZ_vret C hR (Nat.le_refl _) (Nat.le_refl _) dX6_eweGoes_84 rfl (zIs_V (by refine congrArg (fun I' => zst I' J q) ?_; rw [show goalN (hvR I) (I 58 3) (I 62) w (I 60 w) = git (I 58 0) (maskW (I 59)) (I 58 2) (I 58 3) 3 1 (leadN (I 60) (I 62) (I 58 2) w (I 58 5).toNat) (I 62 w) 1 from by unfold goalN fearN markN; rw [hkd, if_neg (by decide), if_neg (by decide)]; rfl, git_1 (of_decide_eq_false h5), if_neg (fun z => absurd z.2 (by omega)), zRq_s0]))
      · refine z_aload_n C 1 rfl dX6_eweGoes_77 rfl ?_
        refine z_iload_n C 2 rfl dX6_eweGoes_78 rfl ?_
        refine z_iconst C dX6_eweGoes_79 ?_
        refine z_top C (((1 : Nat) : Int)) (rfl) ?_
        refine z_iconst C dX6_eweGoes_80 ?_
        refine y_callV3 C oX6_runs iX6_runs eX6_runs lkX6_228 (c_X6_runs hgr hrs (by first | assumption | omega) (by first | assumption | omega) (by first | assumption | omega)) rfl (by decide) rfl rfl (by decide) (Nat.le_refl _) (Nat.le_refl _) (Nat.le_of_ble_eq_true rfl) dX6_eweGoes_81 ?_
        exact zZ_vret C hR (Nat.le_refl _) (Nat.le_refl _) dX6_eweGoes_84 rfl (zIs_V (by refine congrArg (fun I' => zst I' J q) ?_; rw [show goalN (hvR I) (I 58 3) (I 62) w (I 60 w) = git (I 58 0) (maskW (I 59)) (I 58 2) (I 58 3) 3 1 (leadN (I 60) (I 62) (I 58 2) w (I 58 5).toNat) (I 62 w) 1 from by unfold goalN fearN markN; rw [hkd, if_neg (by decide), if_neg (by decide)]; rfl, git_1 (of_decide_eq_false h5), git_1 (of_decide_eq_false h5)]; (repeat' split) <;> first | rfl | omega))
    · rw [hsw]
      refine z_tabIn C 85 dX6_eweGoes_29 (by decide) (by decide) (by decide) rfl (by decide) ?_
      have hkd : I 60 w = 3 := hsw
      refine z_aload_n C 1 rfl dX6_eweGoes_85 rfl ?_
      refine z_iload_n C 2 rfl dX6_eweGoes_86 rfl ?_
      refine z_iconst C dX6_eweGoes_87 ?_
      refine z_top C (((3 : Nat) : Int)) (rfl) ?_
      refine z_iconst C dX6_eweGoes_88 ?_
      refine y_callV3 C oX6_runs iX6_runs eX6_runs lkX6_228 (c_X6_runs hgr hrs (by first | assumption | omega) (by first | assumption | omega) (by first | assumption | omega)) rfl (by decide) rfl rfl (by decide) (Nat.le_refl _) (Nat.le_refl _) (Nat.le_of_ble_eq_true rfl) dX6_eweGoes_89 ?_
      exact zZ_vret C hR (Nat.le_refl _) (Nat.le_refl _) dX6_eweGoes_92 rfl (zIs_V (by refine congrArg (fun I' => zst I' J q) ?_; rw [show goalN (hvR I) (I 58 3) (I 62) w (I 60 w) = git (I 58 0) (maskW (I 59)) (I 58 2) (I 58 3) 5 (-1) (leadN (I 60) (I 62) (I 58 2) w (I 58 5).toNat) (I 62 w) 3 from by unfold goalN fearN markN; rw [hkd, if_neg (by decide), if_neg (by decide)]; rfl]))
    · rw [hsw]
      refine z_tabIn C 93 dX6_eweGoes_29 (by decide) (by decide) (by decide) rfl (by decide) ?_
      have hkd : I 60 w = 4 := hsw
      refine z_iload_n C 0 rfl dX6_eweGoes_93 rfl ?_
      refine z_iconst C dX6_eweGoes_94 ?_
      refine z_icmp_le C 105 dX6_eweGoes_95 (by decide) (by omega) (by omega) (fun h95 => ?_) (fun h95 => ?_)
      · exact zZ_vret C hR (Nat.le_refl _) (Nat.le_refl _) dX6_eweGoes_105 rfl (zIs_V (by refine congrArg (fun I' => zst I' J q) ?_; rw [show goalN (hvR I) (I 58 3) (I 62) w (I 60 w) = git (I 58 0) (maskW (I 59)) (I 58 2) (I 58 3) 3 2 (leadN (I 60) (I 62) (I 58 2) w (I 58 5).toNat) (I 62 w) 1 from by unfold goalN fearN markN; rw [hkd, if_neg (by decide), if_neg (by decide)]; rfl, git_1 (of_decide_eq_false h5), if_neg (fun z => absurd z.2 (by omega)), zRq_s0]))
      · refine z_aload_n C 1 rfl dX6_eweGoes_98 rfl ?_
        refine z_iload_n C 2 rfl dX6_eweGoes_99 rfl ?_
        refine z_iconst C dX6_eweGoes_100 ?_
        refine z_top C (((1 : Nat) : Int)) (rfl) ?_
        refine z_iconst C dX6_eweGoes_101 ?_
        refine y_callV3 C oX6_runs iX6_runs eX6_runs lkX6_228 (c_X6_runs hgr hrs (by first | assumption | omega) (by first | assumption | omega) (by first | assumption | omega)) rfl (by decide) rfl rfl (by decide) (Nat.le_refl _) (Nat.le_refl _) (Nat.le_of_ble_eq_true rfl) dX6_eweGoes_102 ?_
        exact zZ_vret C hR (Nat.le_refl _) (Nat.le_refl _) dX6_eweGoes_105 rfl (zIs_V (by refine congrArg (fun I' => zst I' J q) ?_; rw [show goalN (hvR I) (I 58 3) (I 62) w (I 60 w) = git (I 58 0) (maskW (I 59)) (I 58 2) (I 58 3) 3 2 (leadN (I 60) (I 62) (I 58 2) w (I 58 5).toNat) (I 62 w) 1 from by unfold goalN fearN markN; rw [hkd, if_neg (by decide), if_neg (by decide)]; rfl, git_1 (of_decide_eq_false h5), git_1 (of_decide_eq_false h5)]; (repeat' split) <;> first | rfl | omega))
    · rw [hsw]
      refine z_tabIn C 106 dX6_eweGoes_29 (by decide) (by decide) (by decide) rfl (by decide) ?_
      have hkd : I 60 w = 5 := hsw
      refine z_iload_n C 0 rfl dX6_eweGoes_106 rfl ?_
      refine z_aload_n C 1 rfl dX6_eweGoes_107 rfl ?_
      refine y_getR C zCl6 7 flX6_17 rfl rfl rfl dX6_eweGoes_108 ?_
      refine z_iload_n C 2 rfl dX6_eweGoes_111 rfl ?_
      refine y_iald C w (by omega) rfl (by omega) (by decide) dX6_eweGoes_112 ?_
      refine z_icmp_gt C 125 dX6_eweGoes_113 (by decide) (by omega) (by omega) (fun h113 => ?_) (fun h113 => ?_)
      · exact zZ_vret C hR (Nat.le_refl _) (Nat.le_refl _) dX6_eweGoes_125 rfl (zIs_V (by refine congrArg (fun I' => zst I' J q) ?_; rw [show goalN (hvR I) (I 58 3) (I 62) w (I 60 w) = git (I 58 0) (maskW (I 59)) (I 58 2) (I 58 3) (I 61 w) (-1) (I 58 2) (I 62 w) 1 from by unfold goalN fearN markN; rw [hkd, if_pos rfl, if_pos rfl]; rfl, git_1 (of_decide_eq_false h5), if_neg (fun z => absurd z.1 (by omega)), zRq_s0]))
      · refine z_aload_n C 1 rfl dX6_eweGoes_116 rfl ?_
        refine z_iload_n C 2 rfl dX6_eweGoes_117 rfl ?_
        refine z_aload_n C 1 rfl dX6_eweGoes_118 rfl ?_
        refine y_getI C zCl6 2 flX6_119 rfl rfl dX6_eweGoes_119 ?_
        refine y_callV2 C oX6_flees iX6_flees eX6_flees lkX6_224 (c_X6_flees hgr hrs (by first | assumption | omega) (Or.inr b2)) rfl (by decide) rfl rfl (by decide) (Nat.le_refl _) (Nat.le_refl _) (Nat.le_of_ble_eq_true rfl) dX6_eweGoes_122 ?_
        exact zZ_vret C hR (Nat.le_refl _) (Nat.le_refl _) dX6_eweGoes_125 rfl (zIs_V (by refine congrArg (fun I' => zst I' J q) ?_; rw [show goalN (hvR I) (I 58 3) (I 62) w (I 60 w) = git (I 58 0) (maskW (I 59)) (I 58 2) (I 58 3) (I 61 w) (-1) (I 58 2) (I 62 w) 1 from by unfold goalN fearN markN; rw [hkd, if_pos rfl, if_pos rfl]; rfl, git_1 (of_decide_eq_false h5), if_pos ⟨by omega, by omega⟩]))
    · refine z_tabOut C 126 dX6_eweGoes_29 (by omega) hsw (by decide) ?_
      have hkd : I 60 w = 0 := by omega
      refine z_aload_n C 1 rfl dX6_eweGoes_126 rfl ?_
      refine z_iload_n C 2 rfl dX6_eweGoes_127 rfl ?_
      refine z_iconst C dX6_eweGoes_128 ?_
      refine z_top C (((1 : Nat) : Int)) (rfl) ?_
      refine z_iconst C dX6_eweGoes_129 ?_
      refine y_callV3 C oX6_runs iX6_runs eX6_runs lkX6_228 (c_X6_runs hgr hrs (by first | assumption | omega) (by first | assumption | omega) (by first | assumption | omega)) rfl (by decide) rfl rfl (by decide) (Nat.le_refl _) (Nat.le_refl _) (Nat.le_of_ble_eq_true rfl) dX6_eweGoes_130 ?_
      exact zZ_vret C hR (Nat.le_refl _) (Nat.le_refl _) dX6_eweGoes_133 rfl (zIs_V (by refine congrArg (fun I' => zst I' J q) ?_; rw [show goalN (hvR I) (I 58 3) (I 62) w (I 60 w) = git (I 58 0) (maskW (I 59)) (I 58 2) (I 58 3) 3 (-1) (leadN (I 60) (I 62) (I 58 2) w (I 58 5).toNat) (I 62 w) 1 from by unfold goalN fearN markN; rw [hkd, if_neg (by decide), if_neg (by decide)]; rfl]))
  · exact zZ_vret C hR (Nat.le_refl _) (Nat.le_refl _) dX6_eweGoes_8 rfl (zIs_V (by refine congrArg (fun I' => zst I' J q) ?_; rw [show goalN (hvR I) (I 58 3) (I 62) w (I 60 w) = I 62 w from (git_pen (t := 0) (show git _ _ _ _ _ _ _ (I 62 w) 0 = _ from of_decide_eq_true h5) _ (Nat.zero_le _)).trans (of_decide_eq_true h5).symm, zRq_s0]))
