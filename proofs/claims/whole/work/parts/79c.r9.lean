set_option maxHeartbeats 4000000 in
set_option maxRecDepth 100000 in
theorem c_X6_seeks {g : zG} {J : Nat → Nat → Int64} {q : Nat × Nat} : ∀ (k dd : Nat) (I : Nat → Nat → Int) (path : List Int) (acc : Int × List Int), dd + k ≤ 6 → gR I → gRS (spR I) → openN (I 58 0) (maskW (I 59)) (I 58 3) = true → skTR I dd path → skAR I acc → zRuns g mX6_seeks (8 + k) 0 0 [.ref 58, .int (iI (dd : Int)), .int (iI ((dd + k : Nat) : Int))] (zst I J q) (skPostR I J q dd (skR (hvR I) k (spR I) path acc)) := by
  intro k
  induction k with
  | zero =>
    intro dd I path acc hdk hgr hrs hdo hpath hacc
    obtain ⟨b1, b2, b3, b4, b5, b6, b7⟩ := id hgr
    obtain ⟨k1, k2, k3⟩ := id hrs
    have k1 : gC7 (I 58 3) := k1
    have k2 : 0 ≤ I 58 4 ∧ I 58 4 ≤ 4 := k2
    have k3 : ∀ e, e < 5 → gC7 (I 62 e) := k3
    have k1' := k1.1
    refine zRuns_intro rfl (Nat.le_of_ble_eq_true rfl) (fun X C hR => ?_)
    show zZ g X 0 0 _ 0 [(0, .ref 58), (1, .int (iI ((dd : Int)))), (2, .int (iI (((dd + 0 : Nat) : Int))))] []
    refine z_iload_n C 1 rfl dX6_seeks_0 rfl ?_
    refine z_iload_n C 2 rfl dX6_seeks_1 rfl ?_
    refine z_icmp_ne C 51 dX6_seeks_2 (by decide) (by omega) (by omega) (fun h2 => ?_) (fun h2 => ?_)
    · omega
    · refine z_aload_n C 0 rfl dX6_seeks_5 rfl ?_
      refine y_callV0 C oX6_in iX6_in eX6_in lkX6_135 (c_X6_in hgr hrs) rfl (by decide) rfl rfl (by decide) (Nat.le_refl _) (Nat.le_refl _) (Nat.le_of_ble_eq_true rfl) dX6_seeks_6 ?_
      refine z_aload_n C 0 rfl dX6_seeks_9 rfl ?_
      refine y_getI C zCl6 28 flX6_244 rfl rfl dX6_seeks_10 ?_
      refine z_icmp_gt C 17 dX6_seeks_13 (by decide) (by have := in_r hgr; omega) (by have := hacc.1; have := hacc.2.1; omega) (fun h13 => ?_) (fun h13 => ?_)
      · have hin := in_r hgr
        have hdm : ((dd + 0 : Nat) : Int) = (dd : Int) := by omega
        refine z_aload_n C 0 rfl dX6_seeks_17 rfl ?_
        refine z_aload_n C 0 rfl dX6_seeks_18 rfl ?_
        refine y_callV0 C oX6_in iX6_in eX6_in lkX6_135 (c_X6_in hgr hrs) rfl (by decide) rfl rfl (by decide) (Nat.le_refl _) (Nat.le_refl _) (Nat.le_of_ble_eq_true rfl) dX6_seeks_19 ?_
        refine y_putI C zCl6 28 flX6_244 rfl rfl rfl rfl dX6_seeks_22 ?_
        refine z_iconst C dX6_seeks_25 ?_
        refine z_istore_n C [(3, .int (iI 0)), (0, .ref 58), (1, .int (iI ((dd : Int)))), (2, .int (iI (((dd + 0 : Nat) : Int))))] dX6_seeks_26 rfl (by decide) rfl ?_
        refine zZ_sub [1, 2, 3, 0] rfl ?_
        refine zZ_cast (σ' := (fun e : Nat => zst (stB I (inN (hvR I) (I 62)) (cpK (I 72) (I 71) e)) J q) 0) (L' := (fun e : Nat => [(0, .ref 58), (1, .int (iI ((dd : Int)))), (2, .int (iI (((dd + 0 : Nat) : Int)))), (3, .int (iI (e : Int)))]) 0) (by refine congrArg (fun I' => zst I' J q) ?_; exact stB_0.symm) rfl rfl ?_
        refine zfor (dd) (fun _ => True) (fun e : Nat => zst (stB I (inN (hvR I) (I 62)) (cpK (I 72) (I 71) e)) J q) (fun e : Nat => [(0, .ref 58), (1, .int (iI ((dd : Int)))), (2, .int (iI (((dd + 0 : Nat) : Int)))), (3, .int (iI (e : Int)))]) trivial ?_ ?_
        · intro e hee hpe kke
          refine z_iload_n C 3 rfl dX6_seeks_27 rfl ?_
          refine z_iload_n C 2 rfl dX6_seeks_28 rfl ?_
          refine z_icmp_ge C 50 dX6_seeks_29 (by decide) (by omega) (by omega) (fun h29 => ?_) (fun h29 => ?_)
          · omega
          · refine z_aload_n C 0 rfl dX6_seeks_32 rfl ?_
            refine y_getR C zCl6 27 flX6_51 rfl rfl rfl dX6_seeks_33 ?_
            refine z_iload_n C 3 rfl dX6_seeks_36 rfl ?_
            refine z_aload_n C 0 rfl dX6_seeks_37 rfl ?_
            refine y_getR C zCl6 26 flX6_48 rfl rfl rfl dX6_seeks_38 ?_
            refine z_iload_n C 3 rfl dX6_seeks_41 rfl ?_
            refine y_iald C e (by omega) rfl (by omega) (by decide) dX6_seeks_42 ?_
            refine z_top C (I 71 e) (by rw [stB_n (by decide), zu_ne (by decide)]) ?_
            refine y_iast C e (by omega) rfl (by omega) (by decide) dX6_seeks_43 ?_
            obtain ⟨v1, ev1⟩ : ∃ y : Int, y = (e : Int) + 1 := ⟨_, rfl⟩
            refine z_iinc C 3 v1 [(3, .int (iI v1)), (0, .ref 58), (1, .int (iI ((dd : Int)))), (2, .int (iI (((dd + 0 : Nat) : Int))))] dX6_seeks_44 rfl ev1.symm (by decide) rfl ?_
            refine z_goto C 27 dX6_seeks_47 (by decide) ?_
            refine zZ_sub [1, 2, 3, 0] rfl ?_
            refine zZ_cast (by refine congrArg (fun I' => zst I' J q) ?_; rw [stB_p, cpK_s]) (zLk (zLk (zLk (zLc (by omega) rfl)))) rfl (kke trivial)
        · intro hpe
          refine z_iload_n C 3 rfl dX6_seeks_27 rfl ?_
          refine z_iload_n C 2 rfl dX6_seeks_28 rfl ?_
          refine z_icmp_ge C 50 dX6_seeks_29 (by decide) (by omega) (by omega) (fun h29 => ?_) (fun h29 => ?_)
          · refine zZ_vret C hR (Nat.le_refl _) (Nat.le_refl _) dX6_seeks_50 rfl ?_
            have hk := stB_k (I := I) (x := inN (hvR I) (I 62)) (by omega) hpath
            exact ⟨_, rfl, rfl, hk.1, by unfold skR; rw [if_neg (by have z := hacc.1; have hs : inN (hvR I) (spR I).2.2 = inN (hvR I) (I 62) := rfl; omega)]; exact hk.2⟩
          · omega
      · refine zZ_vret C hR (Nat.le_refl _) (Nat.le_refl _) dX6_seeks_16 rfl ?_
        exact ⟨I, rfl, rfl, frK_rf, by unfold skR; rw [if_pos (by have z := hacc.1; have hs : inN (hvR I) (spR I).2.2 = inN (hvR I) (I 62) := rfl; omega)]; exact hacc⟩
  | succ k ih =>
    intro dd I path acc hdk hgr hrs hdo hpath hacc
    obtain ⟨b1, b2, b3, b4, b5, b6, b7⟩ := id hgr
    obtain ⟨k1, k2, k3⟩ := id hrs
    have k1 : gC7 (I 58 3) := k1
    have k2 : 0 ≤ I 58 4 ∧ I 58 4 ≤ 4 := k2
    have k3 : ∀ e, e < 5 → gC7 (I 62 e) := k3
    have k1' := k1.1
    refine zRuns_intro rfl (Nat.le_of_ble_eq_true rfl) (fun X C hR => ?_)
    show zZ g X 0 0 _ 0 [(0, .ref 58), (1, .int (iI ((dd : Int)))), (2, .int (iI (((dd + (k + 1) : Nat) : Int))))] []
    refine z_iload_n C 1 rfl dX6_seeks_0 rfl ?_
    refine z_iload_n C 2 rfl dX6_seeks_1 rfl ?_
    refine z_icmp_ne C 51 dX6_seeks_2 (by decide) (by omega) (by omega) (fun h2 => ?_) (fun h2 => ?_)
    · refine z_aload_n C 0 rfl dX6_seeks_51 rfl ?_
      refine z_iload_n C 1 rfl dX6_seeks_52 rfl ?_
      refine y_callV1 C oX6_saves iX6_saves eX6_saves lkX6_104 (c_X6_saves (by first | assumption | omega)) rfl (by decide) rfl rfl (by omega) (Nat.le_refl _) (Nat.le_refl _) (Nat.le_of_ble_eq_true rfl) dX6_seeks_53 ?_
      refine z_iconst C dX6_seeks_56 ?_
      refine z_istore_n C [(3, .int (iI 0)), (0, .ref 58), (1, .int (iI ((dd : Int)))), (2, .int (iI (((dd + (k + 1) : Nat) : Int))))] dX6_seeks_57 rfl (by decide) rfl ?_
      refine zZ_sub [1, 2, 3, 0] rfl ?_
      refine zZ_cast (σ' := (fun (_ : Nat) (I' : Nat → Nat → Int) => zst I' J q) 0 (svI I dd (spR I))) (L' := (fun (e : Nat) (I' : Nat → Nat → Int) => [(0, .ref 58), (1, .int (iI ((dd : Int)))), (2, .int (iI (((dd + (k + 1) : Nat) : Int)))), (3, .int (iI (e : Int)))]) 0 (svI I dd (spR I))) rfl rfl rfl ?_
      refine zforE (5) (fun e I' => frK I I' dd ∧ svAt I' dd (spR I) ∧ skAR I' (foldN (fun c a => if canN (hvR I).1 (hvR I).2.1 (hvR I).2.2.1 (spR I).1 (c : Int) = true then skR (hvR I) k (turnS (hvR I) (spR I) (c : Int)) (path ++ [(c : Int)]) a else a) acc e)) (fun (_ : Nat) (I' : Nat → Nat → Int) => zst I' J q) (fun (e : Nat) (I' : Nat → Nat → Int) => [(0, .ref 58), (1, .int (iI ((dd : Int)))), (2, .int (iI (((dd + (k + 1) : Nat) : Int)))), (3, .int (iI (e : Int)))]) (svI I dd (spR I)) ⟨frK_sv, svAt_sv, skAR_sv hacc⟩ ?_ ?_
      · intro e I' hee hpe kke
        have hcn : canN (I' 58 0) (maskW (I' 59)) (I' 58 2) (I' 58 3) (e : Int) = canN (I 58 0) (maskW (I 59)) (I 58 2) (I 58 3) (e : Int) := by rw [frK_k hpe.1 (by decide), frK_k hpe.1 (by decide), frK_k hpe.1 (by decide), hpe.1.1 59 (by decide) (by decide) (by decide) (by decide)]
        have hg' := frK_gR hpe.1 hgr
        have hs' := frK_sp hpe.1
        have hrt := gRS_turn hgr hrs (c := (e : Int)) (by omega)
        have hdt : openN (tryR I' dd (e : Int) (turnS (hvR I) (spR I) (e : Int)) 58 0) (maskW (tryR I' dd (e : Int) (turnS (hvR I) (spR I) (e : Int)) 59)) (tryR I' dd (e : Int) (turnS (hvR I) (spR I) (e : Int)) 58 3) = true := by
          unfold tryR
          rw [zRq_k (by decide) (by decide), zRq_n (by decide) (by decide), zRq_3, zu_ne (by decide), zu_ne (by decide), frK_k hpe.1 (by decide), hpe.1.1 59 (by decide) (by decide) (by decide) (by decide)]
          exact gDO_c (H := hvR I) (p := spR I) hdo (by omega)
        refine z_iload_n C 3 rfl dX6_seeks_58 rfl ?_
        refine z_iconst C dX6_seeks_59 ?_
        refine z_icmp_ge C 105 dX6_seeks_60 (by decide) (by omega) (by omega) (fun h60 => ?_) (fun h60 => ?_)
        · omega
        · refine z_aload_n C 0 rfl dX6_seeks_63 rfl ?_
          refine z_iload_n C 3 rfl dX6_seeks_64 rfl ?_
          refine y_callV1 C oX6_can iX6_can eX6_can lkX6_232 (c_X6_can hg' (by rw [hs']; exact hrs) (by first | assumption | omega)) rfl (by decide) rfl rfl (by omega) (Nat.le_refl _) (Nat.le_refl _) (Nat.le_of_ble_eq_true rfl) dX6_seeks_65 ?_
          refine z_top C (bI (canN (I 58 0) (maskW (I 59)) (I 58 2) (I 58 3) (e : Int))) (by rw [hcn]) ?_
          refine y_if_neB C 74 dX6_seeks_68 (by decide) (fun h68 => ?_) (fun h68 => ?_)
          · refine z_aload_n C 0 rfl dX6_seeks_74 rfl ?_
            refine y_getR C zCl6 26 flX6_48 rfl rfl rfl dX6_seeks_75 ?_
            refine z_iload_n C 1 rfl dX6_seeks_78 rfl ?_
            refine z_iload_n C 3 rfl dX6_seeks_79 rfl ?_
            refine y_iast C dd (by omega) rfl (by omega) (by decide) dX6_seeks_80 ?_
            refine z_aload_n C 0 rfl dX6_seeks_81 rfl ?_
            refine z_iload_n C 3 rfl dX6_seeks_82 rfl ?_
            refine y_callV1 C oX6_goes iX6_goes eX6_goes lkX6_238 (c_X6_goes (show gR (zu I' 71 dd (e : Int)) from hg') (by rw [show spR (zu I' 71 dd (e : Int)) = spR I' from rfl, hs']; exact hrs) (by rw [zu_ne (by decide), zu_ne (by decide)]; exact frK_o hpe.1 hdo) (by first | assumption | omega)) rfl (by decide) rfl rfl (by omega) (Nat.le_refl _) (Nat.le_refl _) (Nat.le_of_ble_eq_true rfl) dX6_seeks_83 ?_
            refine zZ_cast (σ' := zst (tryR I' dd (e : Int) (turnS (hvR I) (spR I) (e : Int))) J q)  (by refine congrArg (fun I' => zst I' J q) ?_; rw [show hvR (zu I' 71 dd (e : Int)) = hvR I' from rfl, show spR (zu I' 71 dd (e : Int)) = spR I' from rfl, hs', frK_hv hpe.1]; rfl) rfl rfl ?_
            refine z_aload_n C 0 rfl dX6_seeks_86 rfl ?_
            refine z_iload_n C 1 rfl dX6_seeks_87 rfl ?_
            refine z_iconst C dX6_seeks_88 ?_
            refine z_iadd C dX6_seeks_89 ?_
            refine z_iload_n C 2 rfl dX6_seeks_90 rfl ?_
            have hi := ih (dd + 1) (tryR I' dd (e : Int) (turnS (hvR I) (spR I) (e : Int))) (path ++ [(e : Int)]) (foldN (fun c a => if canN (hvR I).1 (hvR I).2.1 (hvR I).2.2.1 (spR I).1 (c : Int) = true then skR (hvR I) k (turnS (hvR I) (spR I) (c : Int)) (path ++ [(c : Int)]) a else a) acc e) (by omega) (tryR_g (frK_gR hpe.1 hgr)) hrt hdt (skTR_try (skTR_fr hpe.1 hpath)) (skAR_try hpe.2.2)
            rw [tryR_hv, frK_hv hpe.1, show spR (tryR I' dd (e : Int) (turnS (hvR I) (spR I) (e : Int))) = turnS (hvR I) (spR I) (e : Int) from rfl, show dd + 1 + k = dd + (k + 1) by omega, show ((dd + 1 : Nat) : Int) = (dd : Int) + 1 by omega] at hi
            refine zZ_callV (as := [.int (iI ((dd : Int) + 1)), .int (iI ((dd + (k + 1) : Nat) : Int))]) C oX6_seeks iX6_seeks eX6_seeks lkX6_247 rfl (by decide) rfl rfl hi rfl (by omega) (Nat.le_refl _) (Nat.le_refl _) (Nat.le_of_ble_eq_true rfl) dX6_seeks_91 (fun r1 σ1 h => ?_)
            obtain ⟨I2, rfl, rfl, hf2, hl2⟩ := h
            have hbk := frK_back hpe.1 hpe.2.1 hf2
            show zZ g X 0 0 (zst I2 J q) _ _ []
            refine z_aload_n C 0 rfl dX6_seeks_94 rfl ?_
            refine z_iload_n C 1 rfl dX6_seeks_95 rfl ?_
            refine y_callV1 C oX6_again iX6_again eX6_again lkX6_111 (c_X6_again (by first | assumption | omega) hbk.2) rfl (by decide) rfl rfl (by omega) (Nat.le_refl _) (Nat.le_refl _) (Nat.le_of_ble_eq_true rfl) dX6_seeks_96 ?_
            obtain ⟨v1, ev1⟩ : ∃ y : Int, y = (e : Int) + 1 := ⟨_, rfl⟩
            refine z_iinc C 3 v1 [(3, .int (iI v1)), (0, .ref 58), (1, .int (iI ((dd : Int)))), (2, .int (iI (((dd + (k + 1) : Nat) : Int))))] dX6_seeks_99 rfl ev1.symm (by decide) rfl ?_
            refine z_goto C 58 dX6_seeks_102 (by decide) ?_
            refine zZ_sub [1, 2, 3, 0] rfl ?_
            refine zZ_cast rfl (zLk (zLk (zLk (zLc (by omega) rfl)))) rfl (kke (zRq I2 (spR I)) ⟨hbk.1, svAt_q hbk.2, by simp only [foldN]; rw [show canN (hvR I).1 (hvR I).2.1 (hvR I).2.2.1 (spR I).1 (e : Int) = true from h68, if_pos rfl]; exact skAR_q hl2⟩)
          · refine z_goto C 99 dX6_seeks_71 (by decide) ?_
            obtain ⟨v2, ev2⟩ : ∃ y : Int, y = (e : Int) + 1 := ⟨_, rfl⟩
            refine z_iinc C 3 v2 [(3, .int (iI v2)), (0, .ref 58), (1, .int (iI ((dd : Int)))), (2, .int (iI (((dd + (k + 1) : Nat) : Int))))] dX6_seeks_99 rfl ev2.symm (by decide) rfl ?_
            refine z_goto C 58 dX6_seeks_102 (by decide) ?_
            refine zZ_sub [1, 2, 3, 0] rfl ?_
            refine zZ_cast rfl (zLk (zLk (zLk (zLc (by omega) rfl)))) rfl (kke I' ⟨hpe.1, hpe.2.1, by simp only [foldN]; rw [if_neg (fun z => absurd (z.symm.trans (show canN (hvR I).1 (hvR I).2.1 (hvR I).2.2.1 (spR I).1 (e : Int) = false from h68)) (by decide))]; exact hpe.2.2⟩)
      · intro I' hpe
        refine z_iload_n C 3 rfl dX6_seeks_58 rfl ?_
        refine z_iconst C dX6_seeks_59 ?_
        refine z_icmp_ge C 105 dX6_seeks_60 (by decide) (by omega) (by omega) (fun h60 => ?_) (fun h60 => ?_)
        · refine zZ_vret C hR (Nat.le_refl _) (Nat.le_refl _) dX6_seeks_105 rfl ?_
          exact ⟨I', rfl, rfl, hpe.1, by unfold skR; exact hpe.2.2⟩
        · omega
    · omega
