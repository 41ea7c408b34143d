set_option maxHeartbeats 4000000 in
set_option maxRecDepth 100000 in
theorem c_X5_fewest {g : zG} {I : Nat → Nat → Int} {J : Nat → Nat → Int64} {q : Nat × Nat} {m i : Int} (hg : gH I 1) (hq : gS I 4) (hl : gL I) (hm : -2147483648 ≤ m ∧ m ≤ 2147483647) (hi : -2147483648 ≤ i ∧ i ≤ 2147483647) : zRuns g mX5_fewest 15 0 0 [.ref 0, .int (iI m), .int (iI i)] (zst I J q) (zEx (some (.int (iI (uR (fFewest I J m i) (fewestN I J m i))))) (fun I2 : {I2 // frS I I2} => zst (uI I2.1 (fFewest I J m i) I2.1) J q)) := by
  obtain ⟨g1, g2, g3, g4, g5, g6⟩ := id hg
  obtain ⟨k1, k2, k3⟩ := id hq
  have k3 : ∀ e, e < 5 → 0 ≤ I 5 e ∧ I 5 e ≤ 66 := k3
  refine zRuns_intro rfl (Nat.le_of_ble_eq_true rfl) (fun X C hR => ?_)
  show zZ g X 0 0 _ 0 [(0, .ref 0), (1, .int (iI m)), (2, .int (iI i))] []
  refine z_iload_n C 1 rfl dX5_fewest_0 rfl ?_
  refine z_if_lt C 15 dX5_fewest_1 (by decide) (by omega) (fun h1 => ?_) (fun h1 => ?_)
  · refine z_aload_n C 0 rfl dX5_fewest_15 rfl ?_
    refine z_bipush C dX5_fewest_16 (by decide) ?_
    refine y_callV1 C oX5_refuse iX5_refuse eX5_refuse lkX5_59 (c_X5_refuse (by first | assumption | omega)) rfl (by decide) rfl rfl (by decide) (Nat.le_refl _) (Nat.le_refl _) (Nat.le_of_ble_eq_true rfl) dX5_fewest_18 ?_
    exact zZ_iret C hR (Nat.le_refl _) (Nat.le_refl _) dX5_fewest_21 rfl (zEx_I (uRc (show fFewest I J m i = -2 by unfold fFewest; rw [if_pos (by omega)]) (by decide)).symm ⟨I, frS_rf⟩ (by rw [uIc (show fFewest I J m i = -2 by unfold fFewest; rw [if_pos (by omega)]) (by decide)]))
  · refine z_iload_n C 1 rfl dX5_fewest_4 rfl ?_
    refine z_bipush C dX5_fewest_5 (by decide) ?_
    refine z_icmp_gt C 15 dX5_fewest_7 (by decide) (by omega) (by omega) (fun h7 => ?_) (fun h7 => ?_)
    · refine z_aload_n C 0 rfl dX5_fewest_15 rfl ?_
      refine z_bipush C dX5_fewest_16 (by decide) ?_
      refine y_callV1 C oX5_refuse iX5_refuse eX5_refuse lkX5_59 (c_X5_refuse (by first | assumption | omega)) rfl (by decide) rfl rfl (by decide) (Nat.le_refl _) (Nat.le_refl _) (Nat.le_of_ble_eq_true rfl) dX5_fewest_18 ?_
      exact zZ_iret C hR (Nat.le_refl _) (Nat.le_refl _) dX5_fewest_21 rfl (zEx_I (uRc (show fFewest I J m i = -2 by unfold fFewest; rw [if_pos (by omega)]) (by decide)).symm ⟨I, frS_rf⟩ (by rw [uIc (show fFewest I J m i = -2 by unfold fFewest; rw [if_pos (by omega)]) (by decide)]))
    · refine z_iload_n C 2 rfl dX5_fewest_10 rfl ?_
      refine z_iconst C dX5_fewest_11 ?_
      refine z_icmp_ge C 22 dX5_fewest_12 (by decide) (by omega) (by omega) (fun h12 => ?_) (fun h12 => ?_)
      · refine z_iconst C dX5_fewest_22 ?_
        refine z_istore_n C [(3, .int (iI 0)), (0, .ref 0), (1, .int (iI m)), (2, .int (iI i))] dX5_fewest_23 rfl (by decide) rfl ?_
        refine z_aload_n C 1 rfl dX5_fewest_24 rfl ?_
        refine y_getR C zCl5 7 flX5_51 rfl rfl rfl dX5_fewest_25 ?_
        refine y_getR C zCl1 0 flX5_187 rfl rfl rfl dX5_fewest_28 ?_
        refine z_iconst C dX5_fewest_31 ?_
        refine y_aald C 0 11 (by decide) rfl rfl (by decide) (by decide) rfl dX5_fewest_32 ?_
        refine z_aload_n C 1 rfl dX5_fewest_33 rfl ?_
        refine y_getR C zCl5 0 flX5_10 rfl rfl rfl dX5_fewest_34 ?_
        refine y_getR C zCl0 9 flX5_118 rfl rfl rfl dX5_fewest_37 ?_
        refine y_callV1 C oX3_setTo iX3_setTo eX3_setTo lkX5_191 (c_X3_setTo isS_40 isS_4) rfl (by decide) rfl rfl (by decide) (Nat.le_refl _) (Nat.le_refl _) (Nat.le_of_ble_eq_true rfl) dX5_fewest_40 ?_
        refine zZ_cast (σ' := zst (zSq I 40 (spOf I 4)) J q) rfl rfl rfl ?_
        have hm2 : m.toNat + 1 = m.toNat + 1 := rfl
        refine zZ_sub [1, 2, 3, 0] rfl ?_
        refine zZ_cast (σ' := (fun (_ : Nat) (I' : Nat → Nat → Int) => zst I' J q) 0 (zSq I 40 (spOf I 4))) (L' := (fun (e : Nat) (I' : Nat → Nat → Int) => [(0, .ref 0), (1, .int (iI m)), (2, .int (iI i)), (3, .int (iI (e : Int)))]) 0 (zSq I 40 (spOf I 4))) rfl rfl rfl ?_
        refine zforE ((m.toNat + 1)) (fun e I' => frB (zSq I 40 (spOf I 4)) I' 0 ∧ firstN (fewP (hv I J 1) (spOf I 4)) e = none) (fun (_ : Nat) (I' : Nat → Nat → Int) => zst I' J q) (fun (e : Nat) (I' : Nat → Nat → Int) => [(0, .ref 0), (1, .int (iI m)), (2, .int (iI i)), (3, .int (iI (e : Int)))]) (zSq I 40 (spOf I 4)) ⟨frB_rf, rfl⟩ ?_ ?_
        · intro e I' hee hpe kke
          refine z_iload_n C 3 rfl dX5_fewest_43 rfl ?_
          refine z_iload_n C 1 rfl dX5_fewest_44 rfl ?_
          refine z_icmp_gt C 70 dX5_fewest_45 (by decide) (by omega) (by omega) (fun h45 => ?_) (fun h45 => ?_)
          · omega
          · refine z_aload_n C 0 rfl dX5_fewest_48 rfl ?_
            refine y_getR C zCl5 7 flX5_51 rfl rfl rfl dX5_fewest_49 ?_
            refine z_aload_n C 0 rfl dX5_fewest_52 rfl ?_
            refine y_getR C zCl5 0 flX5_10 rfl rfl rfl dX5_fewest_53 ?_
            refine z_iconst C dX5_fewest_56 ?_
            refine z_iload_n C 3 rfl dX5_fewest_57 rfl ?_
            have hfr := hpe.1
            have hK := c_X1_bringsAll (g := g) (J := J) (q := q) e 0 I' (by omega) (frB_gH hfr (gH_sp isH_1 isS_40 hg)) (frB_gS hfr (by omega) (gS_of (gP_of hq)))
            rw [frB_hv (J := J) hfr, show hv (zSq I 40 (spOf I 4)) J 1 = hv I J 1 from hv_sp isH_1 isS_40, frB_sp hfr (by omega), show spOf (zSq I 40 (spOf I 4)) (40 + 2 * 0) = spOf I 4 from spOf_sq, show ((0 + e : Nat) : Int) = (e : Int) by omega] at hK
            refine zZ_callN (host := RX5) (as := [.ref 38, .ref 1, .int (iI 0), .int (iI (e : Int))]) C oX1_bringsAll sX1_bringsAll (List.mem_of_getElem? (i := 8) rfl) hK rfl (by omega) (Nat.le_refl _) (Nat.le_refl _) (Nat.le_of_ble_eq_true rfl) dX5_fewest_58 (fun r1 σ1 h => ?_)
            obtain ⟨I2, rfl, rfl, hf2, hl2⟩ := h
            have hf3 : frB (zSq I 40 (spOf I 4)) I2 0 := frB_tr (Nat.le_refl 0) hfr hf2
            refine y_if_neB C 70 dX5_fewest_61 (by decide) (fun h61 => ?_) (fun h61 => ?_)
            · have hO : fewO (hv I J 1) (spOf I 4) m = some e := by unfold fewO; rw [hm2]; exact firstN_some (by omega) hpe.2 h61
              refine z_iload_n C 3 rfl dX5_fewest_70 rfl ?_
              refine z_iload_n C 1 rfl dX5_fewest_71 rfl ?_
              refine z_icmp_gt C 79 dX5_fewest_72 (by decide) (by omega) (by omega) (fun h72 => ?_) (fun h72 => ?_)
              · omega
              · refine z_iconst C dX5_fewest_75 ?_
                refine z_goto C 80 dX5_fewest_76 (by decide) ?_
                refine z_istore C [(4, .int (iI 1)), (0, .ref 0), (1, .int (iI m)), (2, .int (iI i)), (3, .int (iI ((e : Int))))] dX5_fewest_80 (by decide) rfl ?_
                refine z_iload_n C 3 rfl dX5_fewest_82 rfl ?_
                refine z_iconst C dX5_fewest_83 ?_
                refine z_icmp_ne C 98 dX5_fewest_84 (by decide) (by omega) (by omega) (fun h84 => ?_) (fun h84 => ?_)
                · refine z_iload C 0 rfl dX5_fewest_98 ?_
                  refine z_if_eq C 108 dX5_fewest_100 (by decide) (by omega) (fun h100 => ?_) (fun h100 => ?_)
                  · exact absurd h100 (by decide)
                  · refine z_iload_n C 3 rfl dX5_fewest_103 rfl ?_
                    refine z_iload_n C 4 rfl dX5_fewest_104 rfl ?_
                    refine z_icmp_lt C 115 dX5_fewest_105 (by decide) (by omega) (by omega) (fun h105 => ?_) (fun h105 => ?_)
                    · refine z_aload_n C 1 rfl dX5_fewest_115 rfl ?_
                      refine y_getR C zCl5 7 flX5_51 rfl rfl rfl dX5_fewest_116 ?_
                      refine y_getR C zCl1 1 flX5_198 rfl rfl rfl dX5_fewest_119 ?_
                      refine z_iload_n C 3 rfl dX5_fewest_122 rfl ?_
                      refine y_iald C i.toNat (by omega) rfl (by omega) (by decide) dX5_fewest_123 ?_
                      exact zZ_iret C hR (Nat.le_refl _) (Nat.le_refl _) dX5_fewest_124 rfl (zEx_I (by rw [uR0 (show fFewest I J m i = 0 by unfold fFewest; rw [if_neg (by omega), if_neg (by omega), hO]; exact if_pos (by omega))]; unfold fewestN; rw [if_neg (by omega), hO]; obtain ⟨l, hl3⟩ := Option.isSome_iff_exists.mp h61; have hln := brP_len e _ l hl3; simp only [hl3, Option.getD_some]; have := hl2 l hl3 i.toNat (by omega); rw [Nat.zero_add] at this; exact this) ⟨I2, frS_few hf3⟩ (by rw [uI0 (show fFewest I J m i = 0 by unfold fFewest; rw [if_neg (by omega), if_neg (by omega), hO]; exact if_pos (by omega))]))
                    · refine z_aload_n C 1 rfl dX5_fewest_108 rfl ?_
                      refine z_bipush C dX5_fewest_109 (by decide) ?_
                      refine y_callV1 C oX5_refuse iX5_refuse eX5_refuse lkX5_59 (c_X5_refuse (by first | assumption | omega)) rfl (by decide) rfl rfl (by decide) (Nat.le_refl _) (Nat.le_refl _) (Nat.le_of_ble_eq_true rfl) dX5_fewest_111 ?_
                      exact zZ_iret C hR (Nat.le_refl _) (Nat.le_refl _) dX5_fewest_114 rfl (zEx_I (uRc (show fFewest I J m i = -5 by unfold fFewest; rw [if_neg (by omega), if_neg (by omega), hO]; exact if_neg (by omega)) (by decide)).symm ⟨I2, frS_few hf3⟩ (by rw [uIc (show fFewest I J m i = -5 by unfold fFewest; rw [if_neg (by omega), if_neg (by omega), hO]; exact if_neg (by omega)) (by decide)]))
                · refine z_iload C 0 rfl dX5_fewest_87 ?_
                  refine z_if_eq C 96 dX5_fewest_89 (by decide) (by omega) (fun h89 => ?_) (fun h89 => ?_)
                  · exact absurd h89 (by decide)
                  · refine z_iload_n C 4 rfl dX5_fewest_92 rfl ?_
                    refine z_goto C 97 dX5_fewest_93 (by decide) ?_
                    exact zZ_iret C hR (Nat.le_refl _) (Nat.le_refl _) dX5_fewest_97 rfl (zEx_I (by rw [uR0 (show fFewest I J m i = 0 by unfold fFewest; rw [if_neg (by omega), if_pos (by omega)])]; unfold fewestN; rw [if_pos (by omega), hO]) ⟨I2, frS_few hf3⟩ (by rw [uI0 (show fFewest I J m i = 0 by unfold fFewest; rw [if_neg (by omega), if_pos (by omega)])]))
            · obtain ⟨v1, ev1⟩ : ∃ y : Int, y = (e : Int) + 1 := ⟨_, rfl⟩
              refine z_iinc C 3 v1 [(3, .int (iI v1)), (0, .ref 0), (1, .int (iI m)), (2, .int (iI i))] dX5_fewest_64 rfl ev1.symm (by decide) rfl ?_
              refine z_goto C 43 dX5_fewest_67 (by decide) ?_
              refine zZ_sub [1, 2, 3, 0] rfl ?_
              refine zZ_cast rfl (zLk (zLk (zLk (zLc (by omega) rfl)))) rfl (kke I2 ⟨hf3, by simp only [firstN]; rw [hpe.2]; exact if_neg (by rw [show fewP (hv I J 1) (spOf I 4) e = false from h61]; decide)⟩)
        · intro I' hpe
          refine z_iload_n C 3 rfl dX5_fewest_43 rfl ?_
          refine z_iload_n C 1 rfl dX5_fewest_44 rfl ?_
          refine z_icmp_gt C 70 dX5_fewest_45 (by decide) (by omega) (by omega) (fun h45 => ?_) (fun h45 => ?_)
          · have hO : fewO (hv I J 1) (spOf I 4) m = none := by unfold fewO; rw [hm2]; exact hpe.2
            refine z_iload_n C 3 rfl dX5_fewest_70 rfl ?_
            refine z_iload_n C 1 rfl dX5_fewest_71 rfl ?_
            refine z_icmp_gt C 79 dX5_fewest_72 (by decide) (by omega) (by omega) (fun h72 => ?_) (fun h72 => ?_)
            · refine z_iconst C dX5_fewest_79 ?_
              refine z_istore C [(4, .int (iI 0)), (0, .ref 0), (1, .int (iI m)), (2, .int (iI i)), (3, .int (iI (((m.toNat + 1 : Nat) : Int))))] dX5_fewest_80 (by decide) rfl ?_
              refine z_iload_n C 3 rfl dX5_fewest_82 rfl ?_
              refine z_iconst C dX5_fewest_83 ?_
              refine z_icmp_ne C 98 dX5_fewest_84 (by decide) (by omega) (by omega) (fun h84 => ?_) (fun h84 => ?_)
              · refine z_iload C 0 rfl dX5_fewest_98 ?_
                refine z_if_eq C 108 dX5_fewest_100 (by decide) (by omega) (fun h100 => ?_) (fun h100 => ?_)
                · refine z_aload_n C 1 rfl dX5_fewest_108 rfl ?_
                  refine z_bipush C dX5_fewest_109 (by decide) ?_
                  refine y_callV1 C oX5_refuse iX5_refuse eX5_refuse lkX5_59 (c_X5_refuse (by first | assumption | omega)) rfl (by decide) rfl rfl (by decide) (Nat.le_refl _) (Nat.le_refl _) (Nat.le_of_ble_eq_true rfl) dX5_fewest_111 ?_
                  exact zZ_iret C hR (Nat.le_refl _) (Nat.le_refl _) dX5_fewest_114 rfl (zEx_I (uRc (show fFewest I J m i = -5 by unfold fFewest; rw [if_neg (by omega), if_neg (by omega), hO]) (by decide)).symm ⟨I', frS_few hpe.1⟩ (by rw [uIc (show fFewest I J m i = -5 by unfold fFewest; rw [if_neg (by omega), if_neg (by omega), hO]) (by decide)]))
                · exact absurd rfl h100
              · refine z_iload C 0 rfl dX5_fewest_87 ?_
                refine z_if_eq C 96 dX5_fewest_89 (by decide) (by omega) (fun h89 => ?_) (fun h89 => ?_)
                · refine z_iconst C dX5_fewest_96 ?_
                  exact zZ_iret C hR (Nat.le_refl _) (Nat.le_refl _) dX5_fewest_97 rfl (zEx_I (by rw [uR0 (show fFewest I J m i = 0 by unfold fFewest; rw [if_neg (by omega), if_pos (by omega)])]; unfold fewestN; rw [if_pos (by omega), hO]) ⟨I', frS_few hpe.1⟩ (by rw [uI0 (show fFewest I J m i = 0 by unfold fFewest; rw [if_neg (by omega), if_pos (by omega)])]))
                · exact absurd rfl h89
            · omega
          · omega
      · refine z_aload_n C 0 rfl dX5_fewest_15 rfl ?_
        refine z_bipush C dX5_fewest_16 (by decide) ?_
        refine y_callV1 C oX5_refuse iX5_refuse eX5_refuse lkX5_59 (c_X5_refuse (by first | assumption | omega)) rfl (by decide) rfl rfl (by decide) (Nat.le_refl _) (Nat.le_refl _) (Nat.le_of_ble_eq_true rfl) dX5_fewest_18 ?_
        exact zZ_iret C hR (Nat.le_refl _) (Nat.le_refl _) dX5_fewest_21 rfl (zEx_I (uRc (show fFewest I J m i = -2 by unfold fFewest; rw [if_pos (by omega)]) (by decide)).symm ⟨I, frS_rf⟩ (by rw [uIc (show fFewest I J m i = -2 by unfold fFewest; rw [if_pos (by omega)]) (by decide)]))
