set_option maxHeartbeats 4000000 in
set_option maxRecDepth 100000 in
theorem c_X1_seekMost {g : zG} {J : Nat → Nat → Int64} {q : Nat × Nat} : ∀ (k dd : Nat) (I : Nat → Nat → Int) (path : List Int) (acc : Int × List Int), dd + k ≤ 6 → gH I 1 → gS I (40 + 2 * dd) → skT I dd path → skA I acc → zRuns g mX1_seekMost (8 + k) 0 0 [.ref 38, .ref 1, .int (iI (dd : Int)), .int (iI ((dd + k : Nat) : Int))] (zst I J q) (skPost I J q dd (skP (hv I J 1) k (spOf I (40 + 2 * dd)) path acc)) := by
  intro k
  induction k with
  | zero =>
    intro dd I path acc hdk hg hs hpath hacc
    obtain ⟨g1, g2, g3, g4, g5, g6⟩ := id hg
    refine zRuns_intro rfl (Nat.le_of_ble_eq_true rfl) (fun X C hR => ?_)
    show zZ g X 0 0 _ 0 [(0, .ref 38), (1, .ref 1), (2, .int (iI ((dd : Int)))), (3, .int (iI (((dd + 0 : Nat) : Int))))] []
    refine z_iload_n C 2 rfl dX1_seekMost_0 rfl ?_
    refine z_bipush C dX1_seekMost_1 (by decide) ?_
    refine z_icmp_gt C 26 dX1_seekMost_3 (by decide) (by omega) (by omega) (fun h3 => ?_) (fun h3 => ?_)
    · omega
    · refine z_aload_n C 1 rfl dX1_seekMost_6 rfl ?_
      refine z_aload_n C 0 rfl dX1_seekMost_7 rfl ?_
      refine y_getR C zCl1 0 flX1_11 rfl rfl rfl dX1_seekMost_8 ?_
      refine z_iload_n C 2 rfl dX1_seekMost_11 rfl ?_
      refine y_aald C dd 11 (by decide) (by omega) rfl (by omega) (by decide) (rt_39 (by omega)) dX1_seekMost_12 ?_
      refine z_iload_n C 3 rfl dX1_seekMost_13 rfl ?_
      refine z_iload_n C 2 rfl dX1_seekMost_14 rfl ?_
      refine z_isub C dX1_seekMost_15 ?_
      refine y_callV2 C oX0_countWithin iX0_countWithin eX0_countWithin lkX1_52 (c_X0_countWithin isH_1 (isS_of (by omega)) hg hs (by first | assumption | omega)) rfl (by decide) rfl rfl (by decide) (Nat.le_refl _) (Nat.le_refl _) (Nat.le_of_ble_eq_true rfl) dX1_seekMost_16 ?_
      refine z_aload_n C 0 rfl dX1_seekMost_19 rfl ?_
      refine y_getI C zCl1 3 flX1_25 rfl rfl dX1_seekMost_20 ?_
      refine z_icmp_gt C 27 dX1_seekMost_23 (by decide) (by have := withinN_r (J := J) (C := I (40 + 2 * dd + 1)) (l := ((dd + 0 : Nat) : Int) - (dd : Int)) hg; omega) (by rw [hacc.1]; have := hacc.2.1; omega) (fun h23 => ?_) (fun h23 => ?_)
      · refine z_iload_n C 2 rfl dX1_seekMost_27 rfl ?_
        refine z_iload_n C 3 rfl dX1_seekMost_28 rfl ?_
        refine z_icmp_lt C 62 dX1_seekMost_29 (by decide) (by omega) (by omega) (fun h29 => ?_) (fun h29 => ?_)
        · omega
        · refine z_aload_n C 0 rfl dX1_seekMost_32 rfl ?_
          refine z_aload_n C 1 rfl dX1_seekMost_33 rfl ?_
          refine z_aload_n C 0 rfl dX1_seekMost_34 rfl ?_
          refine y_getR C zCl1 0 flX1_11 rfl rfl rfl dX1_seekMost_35 ?_
          refine z_iload_n C 2 rfl dX1_seekMost_38 rfl ?_
          refine y_aald C dd 11 (by decide) (by omega) rfl (by omega) (by decide) (rt_39 (by omega)) dX1_seekMost_39 ?_
          refine y_callV1 C oX0_countIn iX0_countIn eX0_countIn lkX1_67 (c_X0_countIn isH_1 (isS_of (by omega)) hg hs) rfl (by decide) rfl rfl (by decide) (Nat.le_refl _) (Nat.le_refl _) (Nat.le_of_ble_eq_true rfl) dX1_seekMost_40 ?_
          refine y_putI C zCl1 3 flX1_25 rfl rfl rfl rfl dX1_seekMost_43 ?_
          refine z_aload_n C 0 rfl dX1_seekMost_46 rfl ?_
          refine y_getR C zCl1 1 flX1_18 rfl rfl rfl dX1_seekMost_47 ?_
          refine z_iconst C dX1_seekMost_50 ?_
          refine z_aload_n C 0 rfl dX1_seekMost_51 rfl ?_
          refine y_getR C zCl1 2 flX1_22 rfl rfl rfl dX1_seekMost_52 ?_
          refine z_iconst C dX1_seekMost_55 ?_
          refine z_bipush C dX1_seekMost_56 (by decide) ?_
          refine y_cpI C lkX1_71 0 0 6 (by omega) (by omega) (by omega) rfl rfl (by omega) (by omega) (by decide) (by decide) (by decide) (Nat.le_of_ble_eq_true rfl) dX1_seekMost_58 ?_
          refine zZ_vret C hR (Nat.le_refl _) (Nat.le_refl _) dX1_seekMost_61 rfl ?_
          have hw : ¬ withinN (hv I J 1) (spOf I (40 + 2 * dd)).2.2 0 ≤ acc.1 := by have z := Int.not_le.mpr h23; rw [show ((dd + 0 : Nat) : Int) - (dd : Int) = 0 by omega, hacc.1] at z; exact z
          refine ⟨_, rfl, rfl, ⟨fun i h1 h2 h3 h4 => ?_, fun j hj => ?_, fun k hk => ?_⟩, ?_⟩
          · rw [zcp_ne h3, zu_ne h1]
          · rw [zcp_ne (by decide), zu_ne (by decide)]
          · rw [zcp_ne (by decide)]; exact zu_n (by omega)
          · unfold skP
            rw [if_neg hw]
            refine ⟨by rw [zcp_ne (by decide)]; exact zu_s, ?_, fun j hj => ?_⟩
            · have := inN_r (J := J) (C := (spOf I (40 + 2 * dd)).2.2) hg
              simp only
              omega
            · have hj' : j < dd := by rw [← hpath.1]; exact hj
              rw [zcp_b, zu_ne (show (54 : Nat) ≠ 38 by decide)]
              simp only [va_cpy]
              rw [if_pos (by omega), show 0 + (j - 0) = j by omega]
              exact hpath.2 j hj'
      · refine zZ_vret C hR (Nat.le_refl _) (Nat.le_refl _) dX1_seekMost_26 rfl ?_
        have hw : withinN (hv I J 1) (spOf I (40 + 2 * dd)).2.2 0 ≤ acc.1 := by have z := Int.not_lt.mp h23; rw [show ((dd + 0 : Nat) : Int) - (dd : Int) = 0 by omega, hacc.1] at z; exact z
        exact ⟨I, rfl, rfl, frM_rf, by unfold skP; rw [if_pos hw]; exact hacc⟩
  | succ k ih =>
    intro dd I path acc hdk hg hs hpath hacc
    obtain ⟨g1, g2, g3, g4, g5, g6⟩ := id hg
    refine zRuns_intro rfl (Nat.le_of_ble_eq_true rfl) (fun X C hR => ?_)
    show zZ g X 0 0 _ 0 [(0, .ref 38), (1, .ref 1), (2, .int (iI ((dd : Int)))), (3, .int (iI (((dd + (k + 1) : Nat) : Int))))] []
    refine z_iload_n C 2 rfl dX1_seekMost_0 rfl ?_
    refine z_bipush C dX1_seekMost_1 (by decide) ?_
    refine z_icmp_gt C 26 dX1_seekMost_3 (by decide) (by omega) (by omega) (fun h3 => ?_) (fun h3 => ?_)
    · omega
    · refine z_aload_n C 1 rfl dX1_seekMost_6 rfl ?_
      refine z_aload_n C 0 rfl dX1_seekMost_7 rfl ?_
      refine y_getR C zCl1 0 flX1_11 rfl rfl rfl dX1_seekMost_8 ?_
      refine z_iload_n C 2 rfl dX1_seekMost_11 rfl ?_
      refine y_aald C dd 11 (by decide) (by omega) rfl (by omega) (by decide) (rt_39 (by omega)) dX1_seekMost_12 ?_
      refine z_iload_n C 3 rfl dX1_seekMost_13 rfl ?_
      refine z_iload_n C 2 rfl dX1_seekMost_14 rfl ?_
      refine z_isub C dX1_seekMost_15 ?_
      refine y_callV2 C oX0_countWithin iX0_countWithin eX0_countWithin lkX1_52 (c_X0_countWithin isH_1 (isS_of (by omega)) hg hs (by first | assumption | omega)) rfl (by decide) rfl rfl (by omega) (Nat.le_refl _) (Nat.le_refl _) (Nat.le_of_ble_eq_true rfl) dX1_seekMost_16 ?_
      refine z_aload_n C 0 rfl dX1_seekMost_19 rfl ?_
      refine y_getI C zCl1 3 flX1_25 rfl rfl dX1_seekMost_20 ?_
      refine z_icmp_gt C 27 dX1_seekMost_23 (by decide) (by have := withinN_r (J := J) (C := I (40 + 2 * dd + 1)) (l := ((dd + (k + 1) : Nat) : Int) - (dd : Int)) hg; omega) (by rw [hacc.1]; have := hacc.2.1; omega) (fun h23 => ?_) (fun h23 => ?_)
      · refine z_iload_n C 2 rfl dX1_seekMost_27 rfl ?_
        refine z_iload_n C 3 rfl dX1_seekMost_28 rfl ?_
        refine z_icmp_lt C 62 dX1_seekMost_29 (by decide) (by omega) (by omega) (fun h29 => ?_) (fun h29 => ?_)
        · refine z_iconst C dX1_seekMost_62 ?_
          refine z_istore C [(4, .int (iI 0)), (0, .ref 38), (1, .ref 1), (2, .int (iI ((dd : Int)))), (3, .int (iI (((dd + (k + 1) : Nat) : Int))))] dX1_seekMost_63 (by decide) rfl ?_
          have hw : ¬ withinN (hv I J 1) (spOf I (40 + 2 * dd)).2.2 ((k + 1 : Nat) : Int) ≤ acc.1 := by have z := Int.not_le.mpr h23; rw [show ((dd + (k + 1) : Nat) : Int) - (dd : Int) = ((k + 1 : Nat) : Int) by omega, hacc.1] at z; exact z
          refine zZ_sub [1, 2, 3, 4, 0] rfl ?_
          refine zZ_cast (σ' := (fun (_ : Nat) (I' : Nat → Nat → Int) => zst I' J q) 0 I) (L' := (fun (e : Nat) (I' : Nat → Nat → Int) => [(0, .ref 38), (1, .ref 1), (2, .int (iI ((dd : Int)))), (3, .int (iI (((dd + (k + 1) : Nat) : Int)))), (4, .int (iI (e : Int)))]) 0 I) rfl rfl rfl ?_
          refine zforE (5) (fun e I' => frM I I' dd ∧ skA I' (foldN (fun c a => if canN (hv I J 1).1 (hv I J 1).2.1 (hv I J 1).2.2.1 (spOf I (40 + 2 * dd)).1 (c : Int) = true then skP (hv I J 1) k (turnS (hv I J 1) (spOf I (40 + 2 * dd)) (c : Int)) (path ++ [(c : Int)]) a else a) acc e)) (fun (_ : Nat) (I' : Nat → Nat → Int) => zst I' J q) (fun (e : Nat) (I' : Nat → Nat → Int) => [(0, .ref 38), (1, .ref 1), (2, .int (iI ((dd : Int)))), (3, .int (iI (((dd + (k + 1) : Nat) : Int)))), (4, .int (iI (e : Int)))]) I ⟨frM_rf, hacc⟩ ?_ ?_
          · intro e I' hee hpe kke
            have hcn : canN (I' 1 0) (J 1 5) (I' 1 1) (I' (40 + 2 * dd) 0) (e : Int) = canN (hv I J 1).1 (hv I J 1).2.1 (hv I J 1).2.2.1 (spOf I (40 + 2 * dd)).1 (e : Int) := by
              rw [hpe.1.1 1 (by decide) (by decide) (by decide) (by omega), hpe.1.1 (40 + 2 * dd) (by omega) (by omega) (by omega) (by omega)]; rfl
            refine z_iload C 4 rfl dX1_seekMost_65 ?_
            refine z_iconst C dX1_seekMost_67 ?_
            refine z_icmp_ge C 97 dX1_seekMost_68 (by decide) (by omega) (by omega) (fun h68 => ?_) (fun h68 => ?_)
            · omega
            · refine z_aload_n C 0 rfl dX1_seekMost_71 rfl ?_
              refine z_aload_n C 1 rfl dX1_seekMost_72 rfl ?_
              refine z_iload_n C 2 rfl dX1_seekMost_73 rfl ?_
              refine z_iload C 4 rfl dX1_seekMost_74 ?_
              refine y_callV3 C oX1_tryCommand iX1_tryCommand eX1_tryCommand lkX1_59 (c_X1_tryCommand (by first | assumption | omega) (frM_gH hpe.1 hg) (frM_gS hpe.1 (by omega) hs) (by first | assumption | omega)) rfl (by decide) rfl rfl (by omega) (Nat.le_refl _) (Nat.le_refl _) (Nat.le_of_ble_eq_true rfl) dX1_seekMost_76 ?_
              refine y_if_eqB C 91 dX1_seekMost_79 (by decide) (fun h79 => ?_) (fun h79 => ?_)
              · rw [h79, if_neg (by decide)]
                obtain ⟨v1, ev1⟩ : ∃ y : Int, y = (e : Int) + 1 := ⟨_, rfl⟩
                refine z_iinc C 4 v1 [(4, .int (iI v1)), (0, .ref 38), (1, .ref 1), (2, .int (iI ((dd : Int)))), (3, .int (iI (((dd + (k + 1) : Nat) : Int))))] dX1_seekMost_91 rfl ev1.symm (by decide) rfl ?_
                refine z_goto C 65 dX1_seekMost_94 (by decide) ?_
                refine zZ_sub [1, 2, 3, 4, 0] rfl ?_
                refine zZ_cast rfl (zLk (zLk (zLk (zLk (zLc (by omega) rfl))))) rfl (kke I' ⟨hpe.1, by simp only [foldN]; rw [← hcn, h79]; exact hpe.2⟩)
              · rw [if_pos h79]
                refine z_aload_n C 0 rfl dX1_seekMost_82 rfl ?_
                refine z_aload_n C 1 rfl dX1_seekMost_83 rfl ?_
                refine z_iload_n C 2 rfl dX1_seekMost_84 rfl ?_
                refine z_iconst C dX1_seekMost_85 ?_
                refine z_iadd C dX1_seekMost_86 ?_
                refine z_iload_n C 3 rfl dX1_seekMost_87 rfl ?_
                have hfr := hpe.1
                have hft := frB_try (I := I') (J := J) (c := (e : Int)) (show dd < 6 by omega)
                refine zZ_callS (as := [.ref 38, .ref 1, .int (iI ((dd : Int) + 1)), .int (iI ((dd + (k + 1) : Nat) : Int))]) C oX1_seekMost sX1_seekMost lkX1_77 (by
                  have hi := ih (dd + 1) (tryI I' J dd (e : Int)) (path ++ [(e : Int)]) (foldN (fun c a => if canN (hv I J 1).1 (hv I J 1).2.1 (hv I J 1).2.2.1 (spOf I (40 + 2 * dd)).1 (c : Int) = true then skP (hv I J 1) k (turnS (hv I J 1) (spOf I (40 + 2 * dd)) (c : Int)) (path ++ [(c : Int)]) a else a) acc e) (by omega) (frB_gH hft (frM_gH hfr hg)) (gS_sp_of (by rw [try_sp]; exact gP_turn (frM_gH hfr hg) (gP_of (frM_gS hfr (by omega) hs)) (by omega))) (skT_try (by omega) (skT_fr hfr hpath)) (skA_try (by omega) hpe.2)
                  rw [try_sp, frB_hv (J := J) hft, frM_hv hfr, frM_sp hfr (by omega), show dd + 1 + k = dd + (k + 1) by omega, show ((dd + 1 : Nat) : Int) = (dd : Int) + 1 by omega] at hi
                  exact hi) rfl (by omega) (Nat.le_refl _) (Nat.le_refl _) (Nat.le_of_ble_eq_true rfl) dX1_seekMost_88 (fun r1 σ1 hq => ?_)
                obtain ⟨I2, rfl, rfl, hf2, hl2⟩ := hq
                have hf3 : frM I I2 dd := frM_tr (Nat.le_succ dd) (frM_tr (Nat.le_refl dd) hfr (frM_of hft (by omega))) hf2
                show zZ g X 0 0 (zst I2 J q) _ _ []
                obtain ⟨v2, ev2⟩ : ∃ y : Int, y = (e : Int) + 1 := ⟨_, rfl⟩
                refine z_iinc C 4 v2 [(4, .int (iI v2)), (0, .ref 38), (1, .ref 1), (2, .int (iI ((dd : Int)))), (3, .int (iI (((dd + (k + 1) : Nat) : Int))))] dX1_seekMost_91 rfl ev2.symm (by decide) rfl ?_
                refine z_goto C 65 dX1_seekMost_94 (by decide) ?_
                refine zZ_sub [1, 2, 3, 4, 0] rfl ?_
                refine zZ_cast rfl (zLk (zLk (zLk (zLk (zLc (by omega) rfl))))) rfl (kke I2 ⟨hf3, by simp only [foldN]; rw [← hcn, h79, if_pos rfl]; exact hl2⟩)
          · intro I' hpe
            refine z_iload C 4 rfl dX1_seekMost_65 ?_
            refine z_iconst C dX1_seekMost_67 ?_
            refine z_icmp_ge C 97 dX1_seekMost_68 (by decide) (by omega) (by omega) (fun h68 => ?_) (fun h68 => ?_)
            · refine zZ_vret C hR (Nat.le_refl _) (Nat.le_refl _) dX1_seekMost_97 rfl ?_
              exact ⟨I', rfl, rfl, hpe.1, by unfold skP; rw [if_neg hw]; exact hpe.2⟩
            · omega
        · omega
      · refine zZ_vret C hR (Nat.le_refl _) (Nat.le_refl _) dX1_seekMost_26 rfl ?_
        have hw : withinN (hv I J 1) (spOf I (40 + 2 * dd)).2.2 ((k + 1 : Nat) : Int) ≤ acc.1 := by have z := Int.not_lt.mp h23; rw [show ((dd + (k + 1) : Nat) : Int) - (dd : Int) = ((k + 1 : Nat) : Int) by omega, hacc.1] at z; exact z
        exact ⟨I, rfl, rfl, frM_rf, by unfold skP; rw [if_pos hw]; exact hacc⟩
