set_option maxHeartbeats 4000000 in
set_option maxRecDepth 100000 in
theorem c_X5_kinds {g : zG} {I : Nat → Nat → Int} {J : Nat → Nat → Int64} {q : Nat × Nat} {s t n w : Int} (hg : gH I 1) (hq : gS I 4) (hl : gL I) (hs : -2147483648 ≤ s ∧ s ≤ 2147483647) (ht : -2147483648 ≤ t ∧ t ≤ 2147483647) (hn : -2147483648 ≤ n ∧ n ≤ 2147483647) (hw : -2147483648 ≤ w ∧ w ≤ 2147483647) : zRuns g mX5_kinds 6 0 0 [.ref 0, .int (iI s), .int (iI t), .int (iI n), .int (iI w)] (zst I J q) (zEx (some (.int (iI (uR (fKinds I J s t n w) ((kindsN I J s t n w : Nat)))))) (fun p : SP => zst (uI I (fKinds I J s t n w) (zSq I 36 p)) J q)) := by
  obtain ⟨g1, g2, g3, g4, g5, g6⟩ := id hg
  obtain ⟨k1, k2, k3⟩ := id hq
  have k3 : ∀ e, e < 5 → 0 ≤ I 5 e ∧ I 5 e ≤ 66 := k3
  refine zRuns_intro rfl (Nat.le_of_ble_eq_true rfl) (fun X C hR => ?_)
  show zZ g X 0 0 _ 0 [(0, .ref 0), (1, .int (iI s)), (2, .int (iI t)), (3, .int (iI n)), (4, .int (iI w))] []
  refine z_iload_n C 1 rfl dX5_kinds_0 rfl ?_
  refine y_callS1 C oX5_isShelf sX5_isShelf lkX5_55 (c_X5_isShelf (by first | assumption | omega)) (by decide) (Nat.le_refl _) (Nat.le_refl _) (Nat.le_of_ble_eq_true rfl) dX5_kinds_1 ?_
  refine y_if_eqB C 36 dX5_kinds_4 (by decide) (fun h4 => ?_) (fun h4 => ?_)
  · refine z_aload_n C 0 rfl dX5_kinds_36 rfl ?_
    refine z_bipush C dX5_kinds_37 (by decide) ?_
    refine y_callV1 C oX5_refuse iX5_refuse eX5_refuse lkX5_59 (c_X5_refuse (by first | assumption | omega)) rfl (by decide) rfl rfl (by decide) (Nat.le_refl _) (Nat.le_refl _) (Nat.le_of_ble_eq_true rfl) dX5_kinds_39 ?_
    exact zZ_iret C hR (Nat.le_refl _) (Nat.le_refl _) dX5_kinds_42 rfl (zEx_I (uRc (show fKinds I J s t n w = -2 by (try simp only [decide_eq_true_eq, decide_eq_false_iff_not, bI] at *); unfold fKinds; (repeat' split) <;> first | rfl | omega | (exfalso; simp_all; done) | (exfalso; simp_all; omega)) (by decide)).symm (spOf I 36) (by rw [uIc (show fKinds I J s t n w = -2 by (try simp only [decide_eq_true_eq, decide_eq_false_iff_not, bI] at *); unfold fKinds; (repeat' split) <;> first | rfl | omega | (exfalso; simp_all; done) | (exfalso; simp_all; omega)) (by decide)]))
  · refine z_iload_n C 2 rfl dX5_kinds_7 rfl ?_
    refine y_callS1 C oX5_isShelf sX5_isShelf lkX5_55 (c_X5_isShelf (by first | assumption | omega)) (by decide) (Nat.le_refl _) (Nat.le_refl _) (Nat.le_of_ble_eq_true rfl) dX5_kinds_8 ?_
    refine y_if_eqB C 36 dX5_kinds_11 (by decide) (fun h11 => ?_) (fun h11 => ?_)
    · refine z_aload_n C 0 rfl dX5_kinds_36 rfl ?_
      refine z_bipush C dX5_kinds_37 (by decide) ?_
      refine y_callV1 C oX5_refuse iX5_refuse eX5_refuse lkX5_59 (c_X5_refuse (by first | assumption | omega)) rfl (by decide) rfl rfl (by decide) (Nat.le_refl _) (Nat.le_refl _) (Nat.le_of_ble_eq_true rfl) dX5_kinds_39 ?_
      exact zZ_iret C hR (Nat.le_refl _) (Nat.le_refl _) dX5_kinds_42 rfl (zEx_I (uRc (show fKinds I J s t n w = -2 by (try simp only [decide_eq_true_eq, decide_eq_false_iff_not, bI] at *); unfold fKinds; (repeat' split) <;> first | rfl | omega | (exfalso; simp_all; done) | (exfalso; simp_all; omega)) (by decide)).symm (spOf I 36) (by rw [uIc (show fKinds I J s t n w = -2 by (try simp only [decide_eq_true_eq, decide_eq_false_iff_not, bI] at *); unfold fKinds; (repeat' split) <;> first | rfl | omega | (exfalso; simp_all; done) | (exfalso; simp_all; omega)) (by decide)]))
    · refine z_iload_n C 3 rfl dX5_kinds_14 rfl ?_
      refine z_if_lt C 36 dX5_kinds_15 (by decide) (by omega) (fun h15 => ?_) (fun h15 => ?_)
      · refine z_aload_n C 0 rfl dX5_kinds_36 rfl ?_
        refine z_bipush C dX5_kinds_37 (by decide) ?_
        refine y_callV1 C oX5_refuse iX5_refuse eX5_refuse lkX5_59 (c_X5_refuse (by first | assumption | omega)) rfl (by decide) rfl rfl (by decide) (Nat.le_refl _) (Nat.le_refl _) (Nat.le_of_ble_eq_true rfl) dX5_kinds_39 ?_
        exact zZ_iret C hR (Nat.le_refl _) (Nat.le_refl _) dX5_kinds_42 rfl (zEx_I (uRc (show fKinds I J s t n w = -2 by (try simp only [decide_eq_true_eq, decide_eq_false_iff_not, bI] at *); unfold fKinds; (repeat' split) <;> first | rfl | omega | (exfalso; simp_all; done) | (exfalso; simp_all; omega)) (by decide)).symm (spOf I 36) (by rw [uIc (show fKinds I J s t n w = -2 by (try simp only [decide_eq_true_eq, decide_eq_false_iff_not, bI] at *); unfold fKinds; (repeat' split) <;> first | rfl | omega | (exfalso; simp_all; done) | (exfalso; simp_all; omega)) (by decide)]))
      · refine z_iload_n C 3 rfl dX5_kinds_18 rfl ?_
        refine z_bipush C dX5_kinds_19 (by decide) ?_
        refine z_icmp_gt C 36 dX5_kinds_21 (by decide) (by omega) (by omega) (fun h21 => ?_) (fun h21 => ?_)
        · refine z_aload_n C 0 rfl dX5_kinds_36 rfl ?_
          refine z_bipush C dX5_kinds_37 (by decide) ?_
          refine y_callV1 C oX5_refuse iX5_refuse eX5_refuse lkX5_59 (c_X5_refuse (by first | assumption | omega)) rfl (by decide) rfl rfl (by decide) (Nat.le_refl _) (Nat.le_refl _) (Nat.le_of_ble_eq_true rfl) dX5_kinds_39 ?_
          exact zZ_iret C hR (Nat.le_refl _) (Nat.le_refl _) dX5_kinds_42 rfl (zEx_I (uRc (show fKinds I J s t n w = -2 by (try simp only [decide_eq_true_eq, decide_eq_false_iff_not, bI] at *); unfold fKinds; (repeat' split) <;> first | rfl | omega | (exfalso; simp_all; done) | (exfalso; simp_all; omega)) (by decide)).symm (spOf I 36) (by rw [uIc (show fKinds I J s t n w = -2 by (try simp only [decide_eq_true_eq, decide_eq_false_iff_not, bI] at *); unfold fKinds; (repeat' split) <;> first | rfl | omega | (exfalso; simp_all; done) | (exfalso; simp_all; omega)) (by decide)]))
        · refine z_aload_n C 0 rfl dX5_kinds_24 rfl ?_
          refine y_getR C zCl5 0 flX5_10 rfl rfl rfl dX5_kinds_25 ?_
          refine z_iload C 4 rfl dX5_kinds_28 ?_
          refine y_callV1 C oX0_isEwe iX0_isEwe eX0_isEwe lkX5_103 (c_X0_isEwe isH_1 hg (by first | assumption | omega)) rfl (by decide) rfl rfl (by decide) (Nat.le_refl _) (Nat.le_refl _) (Nat.le_of_ble_eq_true rfl) dX5_kinds_30 ?_
          refine y_if_neB C 43 dX5_kinds_33 (by decide) (fun h33 => ?_) (fun h33 => ?_)
          · have hs8 : 0 ≤ s ∧ s < 8 := by simpa using h4
            have ht8 : 0 ≤ t ∧ t < 8 := by simpa using h11
            have hwr : 0 ≤ w ∧ w < I 1 6 := by simpa using h33
            have hls := hl s.toNat (by omega)
            have hlt := hl t.toNat (by omega)
            obtain ⟨wn, hwn⟩ : ∃ n : Nat, w = n := ⟨w.toNat, by omega⟩
            have hwt : w.toNat = wn := by omega
            refine z_aload_n C 0 rfl dX5_kinds_43 rfl ?_
            refine y_getR C zCl5 4 flX5_32 rfl rfl rfl dX5_kinds_44 ?_
            refine z_iload_n C 1 rfl dX5_kinds_47 rfl ?_
            refine y_aald C s.toNat 10 (by decide) (by omega) rfl (by omega) (by decide) (rt_18 (by omega)) dX5_kinds_48 ?_
            refine z_astore C [(5, .ref (19 + 2 * s.toNat)), (0, .ref 0), (1, .int (iI s)), (2, .int (iI t)), (3, .int (iI n)), (4, .int (iI w))] dX5_kinds_49 (by decide) rfl ?_
            refine z_aload_n C 1 rfl dX5_kinds_51 rfl ?_
            refine y_getR C zCl5 4 flX5_32 rfl rfl rfl dX5_kinds_52 ?_
            refine z_iload_n C 3 rfl dX5_kinds_55 rfl ?_
            refine y_aald C t.toNat 10 (by decide) (by omega) rfl (by omega) (by decide) (rt_18 (by omega)) dX5_kinds_56 ?_
            refine z_astore C [(6, .ref (19 + 2 * t.toNat)), (5, .ref (19 + 2 * s.toNat)), (0, .ref 0), (1, .int (iI s)), (2, .int (iI t)), (3, .int (iI n)), (4, .int (iI w))] dX5_kinds_57 (by decide) rfl ?_
            refine z_aload C 1 rfl dX5_kinds_59 ?_
            refine y_callV0 C oX2_hasEwe iX2_hasEwe eX2_hasEwe lkX5_90 (c_X2_hasEwe (isL_of (by omega)) (by first | assumption | omega)) (lay_l (isL_of (by omega))) (by decide) rfl rfl (by decide) (Nat.le_refl _) (Nat.le_refl _) (Nat.le_of_ble_eq_true rfl) dX5_kinds_61 ?_
            refine y_if_neB C 75 dX5_kinds_64 (by decide) (fun h64 => ?_) (fun h64 => ?_)
            · refine z_aload_n C 2 rfl dX5_kinds_75 rfl ?_
              refine z_bipush C dX5_kinds_76 (by decide) ?_
              refine y_callV1 C oX5_refuse iX5_refuse eX5_refuse lkX5_59 (c_X5_refuse (by first | assumption | omega)) rfl (by decide) rfl rfl (by decide) (Nat.le_refl _) (Nat.le_refl _) (Nat.le_of_ble_eq_true rfl) dX5_kinds_78 ?_
              exact zZ_iret C hR (Nat.le_refl _) (Nat.le_refl _) dX5_kinds_81 rfl (zEx_I (uRc (show fKinds I J s t n w = -3 by (try simp only [decide_eq_true_eq, decide_eq_false_iff_not, bI] at *); unfold fKinds; (repeat' split) <;> first | rfl | omega | (exfalso; simp_all; done) | (exfalso; simp_all; omega)) (by decide)).symm (spOf I 36) (by rw [uIc (show fKinds I J s t n w = -3 by (try simp only [decide_eq_true_eq, decide_eq_false_iff_not, bI] at *); unfold fKinds; (repeat' split) <;> first | rfl | omega | (exfalso; simp_all; done) | (exfalso; simp_all; omega)) (by decide)]))
            · refine z_aload C 0 rfl dX5_kinds_67 ?_
              refine y_callV0 C oX2_hasEwe iX2_hasEwe eX2_hasEwe lkX5_90 (c_X2_hasEwe (isL_of (by omega)) (by first | assumption | omega)) (lay_l (isL_of (by omega))) (by decide) rfl rfl (by decide) (Nat.le_refl _) (Nat.le_refl _) (Nat.le_of_ble_eq_true rfl) dX5_kinds_69 ?_
              refine y_if_eqB C 82 dX5_kinds_72 (by decide) (fun h72 => ?_) (fun h72 => ?_)
              · refine z_aload C 1 rfl dX5_kinds_82 ?_
                refine y_callV0 C oX2_hasRow iX2_hasRow eX2_hasRow lkX5_86 (c_X2_hasRow (isL_of (by omega)) (by first | assumption | omega)) (lay_l (isL_of (by omega))) (by decide) rfl rfl (by decide) (Nat.le_refl _) (Nat.le_refl _) (Nat.le_of_ble_eq_true rfl) dX5_kinds_84 ?_
                refine y_if_eqB C 98 dX5_kinds_87 (by decide) (fun h87 => ?_) (fun h87 => ?_)
                · refine z_aload_n C 2 rfl dX5_kinds_98 rfl ?_
                  refine z_bipush C dX5_kinds_99 (by decide) ?_
                  refine y_callV1 C oX5_refuse iX5_refuse eX5_refuse lkX5_59 (c_X5_refuse (by first | assumption | omega)) rfl (by decide) rfl rfl (by decide) (Nat.le_refl _) (Nat.le_refl _) (Nat.le_of_ble_eq_true rfl) dX5_kinds_101 ?_
                  exact zZ_iret C hR (Nat.le_refl _) (Nat.le_refl _) dX5_kinds_104 rfl (zEx_I (uRc (show fKinds I J s t n w = -4 by (try simp only [decide_eq_true_eq, decide_eq_false_iff_not, bI] at *); unfold fKinds; (repeat' split) <;> first | rfl | omega | (exfalso; simp_all; done) | (exfalso; simp_all; omega)) (by decide)).symm (spOf I 36) (by rw [uIc (show fKinds I J s t n w = -4 by (try simp only [decide_eq_true_eq, decide_eq_false_iff_not, bI] at *); unfold fKinds; (repeat' split) <;> first | rfl | omega | (exfalso; simp_all; done) | (exfalso; simp_all; omega)) (by decide)]))
                · refine z_aload C 0 rfl dX5_kinds_90 ?_
                  refine y_callV0 C oX2_hasRow iX2_hasRow eX2_hasRow lkX5_86 (c_X2_hasRow (isL_of (by omega)) (by first | assumption | omega)) (lay_l (isL_of (by omega))) (by decide) rfl rfl (by decide) (Nat.le_refl _) (Nat.le_refl _) (Nat.le_of_ble_eq_true rfl) dX5_kinds_92 ?_
                  refine y_if_neB C 105 dX5_kinds_95 (by decide) (fun h95 => ?_) (fun h95 => ?_)
                  · refine z_aload C 1 rfl dX5_kinds_105 ?_
                    refine y_getI C zCl2 1 flX5_71 rfl (lay_l (isL_of (by omega))) dX5_kinds_107 ?_
                    refine z_iload_n C 5 rfl dX5_kinds_110 rfl ?_
                    refine z_icmp_lt C 123 dX5_kinds_111 (by decide) (by omega) (by omega) (fun h111 => ?_) (fun h111 => ?_)
                    · refine z_aload_n C 2 rfl dX5_kinds_123 rfl ?_
                      refine z_bipush C dX5_kinds_124 (by decide) ?_
                      refine y_callV1 C oX5_refuse iX5_refuse eX5_refuse lkX5_59 (c_X5_refuse (by first | assumption | omega)) rfl (by decide) rfl rfl (by decide) (Nat.le_refl _) (Nat.le_refl _) (Nat.le_of_ble_eq_true rfl) dX5_kinds_126 ?_
                      exact zZ_iret C hR (Nat.le_refl _) (Nat.le_refl _) dX5_kinds_129 rfl (zEx_I (uRc (show fKinds I J s t n w = -2 by (try simp only [decide_eq_true_eq, decide_eq_false_iff_not, bI] at *); unfold fKinds; (repeat' split) <;> first | rfl | omega | (exfalso; simp_all; done) | (exfalso; simp_all; omega)) (by decide)).symm (spOf I 36) (by rw [uIc (show fKinds I J s t n w = -2 by (try simp only [decide_eq_true_eq, decide_eq_false_iff_not, bI] at *); unfold fKinds; (repeat' split) <;> first | rfl | omega | (exfalso; simp_all; done) | (exfalso; simp_all; omega)) (by decide)]))
                    · refine z_aload C 0 rfl dX5_kinds_114 ?_
                      refine y_getI C zCl2 1 flX5_71 rfl (lay_l (isL_of (by omega))) dX5_kinds_116 ?_
                      refine z_iload_n C 5 rfl dX5_kinds_119 rfl ?_
                      refine z_icmp_ge C 130 dX5_kinds_120 (by decide) (by omega) (by omega) (fun h120 => ?_) (fun h120 => ?_)
                      · rw [hwn]
                        refine z_aload_n C 2 rfl dX5_kinds_130 rfl ?_
                        refine y_getR C zCl5 0 flX5_10 rfl rfl rfl dX5_kinds_131 ?_
                        refine z_aload_n C 2 rfl dX5_kinds_134 rfl ?_
                        refine y_getR C zCl5 0 flX5_10 rfl rfl rfl dX5_kinds_135 ?_
                        refine y_getR C zCl0 9 flX5_118 rfl rfl rfl dX5_kinds_138 ?_
                        refine z_iload C 6 rfl dX5_kinds_141 ?_
                        refine y_callV2 C oX0_isIn iX0_isIn eX0_isIn lkX5_307 (c_X0_isIn isH_1 isS_4 hg hq (by first | assumption | omega)) rfl (by decide) rfl rfl (by decide) (Nat.le_refl _) (Nat.le_refl _) (Nat.le_of_ble_eq_true rfl) dX5_kinds_143 ?_
                        refine y_if_neB C 169 dX5_kinds_146 (by decide) (fun h146 => ?_) (fun h146 => ?_)
                        · refine z_aload_n C 2 rfl dX5_kinds_169 rfl ?_
                          refine z_bipush C dX5_kinds_170 (by decide) ?_
                          refine y_callV1 C oX5_refuse iX5_refuse eX5_refuse lkX5_59 (c_X5_refuse (by first | assumption | omega)) rfl (by decide) rfl rfl (by decide) (Nat.le_refl _) (Nat.le_refl _) (Nat.le_of_ble_eq_true rfl) dX5_kinds_172 ?_
                          exact zZ_iret C hR (Nat.le_refl _) (Nat.le_refl _) dX5_kinds_175 rfl (zEx_I (uRc (show fKinds I J s t n w = -5 by (try simp only [decide_eq_true_eq, decide_eq_false_iff_not, bI] at *); unfold fKinds; (repeat' split) <;> first | rfl | omega | (exfalso; simp_all; done) | (exfalso; simp_all; omega)) (by decide)).symm (spOf I 36) (by rw [uIc (show fKinds I J s t n w = -5 by (try simp only [decide_eq_true_eq, decide_eq_false_iff_not, bI] at *); unfold fKinds; (repeat' split) <;> first | rfl | omega | (exfalso; simp_all; done) | (exfalso; simp_all; omega)) (by decide)]))
                        · refine z_aload_n C 2 rfl dX5_kinds_149 rfl ?_
                          refine z_aload C 1 rfl dX5_kinds_150 ?_
                          refine z_iload_n C 5 rfl dX5_kinds_152 rfl ?_
                          refine y_callV2 C oX5_areCells iX5_areCells eX5_areCells lkX5_313 (c_X5_areCells (isL_of (by omega)) hg (by first | assumption | omega)) rfl (by decide) rfl rfl (by decide) (Nat.le_refl _) (Nat.le_refl _) (Nat.le_of_ble_eq_true rfl) dX5_kinds_153 ?_
                          refine y_if_eqB C 169 dX5_kinds_156 (by decide) (fun h156 => ?_) (fun h156 => ?_)
                          · refine z_aload_n C 2 rfl dX5_kinds_169 rfl ?_
                            refine z_bipush C dX5_kinds_170 (by decide) ?_
                            refine y_callV1 C oX5_refuse iX5_refuse eX5_refuse lkX5_59 (c_X5_refuse (by first | assumption | omega)) rfl (by decide) rfl rfl (by decide) (Nat.le_refl _) (Nat.le_refl _) (Nat.le_of_ble_eq_true rfl) dX5_kinds_172 ?_
                            exact zZ_iret C hR (Nat.le_refl _) (Nat.le_refl _) dX5_kinds_175 rfl (zEx_I (uRc (show fKinds I J s t n w = -5 by (try simp only [decide_eq_true_eq, decide_eq_false_iff_not, bI] at *); unfold fKinds; (repeat' split) <;> first | rfl | omega | (exfalso; simp_all; done) | (exfalso; simp_all; omega)) (by decide)).symm (spOf I 36) (by rw [uIc (show fKinds I J s t n w = -5 by (try simp only [decide_eq_true_eq, decide_eq_false_iff_not, bI] at *); unfold fKinds; (repeat' split) <;> first | rfl | omega | (exfalso; simp_all; done) | (exfalso; simp_all; omega)) (by decide)]))
                          · refine z_aload_n C 2 rfl dX5_kinds_159 rfl ?_
                            refine z_aload C 0 rfl dX5_kinds_160 ?_
                            refine z_iload_n C 5 rfl dX5_kinds_162 rfl ?_
                            refine y_callV2 C oX5_areCells iX5_areCells eX5_areCells lkX5_313 (c_X5_areCells (isL_of (by omega)) hg (by first | assumption | omega)) rfl (by decide) rfl rfl (by decide) (Nat.le_refl _) (Nat.le_refl _) (Nat.le_of_ble_eq_true rfl) dX5_kinds_163 ?_
                            refine y_if_neB C 176 dX5_kinds_166 (by decide) (fun h166 => ?_) (fun h166 => ?_)
                            · have hcs := cells_0 (of_decide_eq_true h156)
                              have hct := cells_0 (of_decide_eq_true h166)
                              obtain ⟨P, hP⟩ : ∃ P : Nat → Bool, P = fun (k : Nat) => goesN (hv I J 1) (I 5) wn (k : Int) (J (19 + 2 * s.toNat + 1)) (J (19 + 2 * t.toNat + 1)) n.toNat := ⟨_, rfl⟩
                              have hkN : kindsN I J s t n w = bitsN P 6 := by rw [hP, ← hwt]; rfl
                              refine z_iconst C dX5_kinds_176 ?_
                              refine z_istore C [(7, .int (iI 0)), (6, .ref (19 + 2 * t.toNat)), (5, .ref (19 + 2 * s.toNat)), (0, .ref 0), (1, .int (iI s)), (2, .int (iI t)), (3, .int (iI n)), (4, .int (iI ((wn : Int))))] dX5_kinds_177 (by decide) rfl ?_
                              refine z_iconst C dX5_kinds_179 ?_
                              refine z_istore C [(8, .int (iI 0)), (7, .int (iI 0)), (6, .ref (19 + 2 * t.toNat)), (5, .ref (19 + 2 * s.toNat)), (0, .ref 0), (1, .int (iI s)), (2, .int (iI t)), (3, .int (iI n)), (4, .int (iI ((wn : Int))))] dX5_kinds_180 (by decide) rfl ?_
                              refine zZ_sub [4, 5, 6, 7, 8, 3, 2, 1, 0] rfl ?_
                              refine zZ_cast (σ' := (fun (_ : Nat) (p : SP) => zst (zSq I 36 p) J q) 0 (spOf I 36)) (L' := (fun (e : Nat) (p : SP) => [(0, .ref 0), (1, .int (iI s)), (2, .int (iI t)), (3, .int (iI n)), (4, .int (iI ((wn : Int)))), (5, .ref (19 + 2 * s.toNat)), (6, .ref (19 + 2 * t.toNat)), (7, .int (iI (bitsN P e : Nat))), (8, .int (iI (e : Int)))]) 0 (spOf I 36)) (congrArg (fun I' => zst I' J q) zSq_self.symm) rfl rfl ?_
                              refine zforE (6) (fun _ _ => True) (fun (_ : Nat) (p : SP) => zst (zSq I 36 p) J q) (fun (e : Nat) (p : SP) => [(0, .ref 0), (1, .int (iI s)), (2, .int (iI t)), (3, .int (iI n)), (4, .int (iI ((wn : Int)))), (5, .ref (19 + 2 * s.toNat)), (6, .ref (19 + 2 * t.toNat)), (7, .int (iI (bitsN P e : Nat))), (8, .int (iI (e : Int)))]) (spOf I 36) trivial ?_ ?_
                              · intro e p hee hpe kke
                                refine z_iload C 8 rfl dX5_kinds_182 ?_
                                refine z_bipush C dX5_kinds_184 (by decide) ?_
                                refine z_icmp_ge C 220 dX5_kinds_186 (by decide) (by omega) (by omega) (fun h186 => ?_) (fun h186 => ?_)
                                · omega
                                · refine z_aload_n C 0 rfl dX5_kinds_189 rfl ?_
                                  refine z_iload C 4 rfl dX5_kinds_190 ?_
                                  refine z_iload C 8 rfl dX5_kinds_192 ?_
                                  refine z_aload C 5 rfl dX5_kinds_194 ?_
                                  refine z_aload C 6 rfl dX5_kinds_196 ?_
                                  refine z_iload_n C 3 rfl dX5_kinds_198 rfl ?_
                                  refine y_callVE5 C oX5_goesSo iX5_goesSo eX5_goesSo lkX5_317 (c_X5_goesSo (isL_of (by omega)) (isL_of (by omega)) (gH_sp isH_1 isS_36 hg) hq (by first | assumption | omega) (by first | assumption | omega) (by first | assumption | omega) hcs hct) rfl (by decide) rfl rfl (by decide) (Nat.le_refl _) (Nat.le_refl _) (Nat.le_of_ble_eq_true rfl) dX5_kinds_199 (fun p2 => ?_)
                                  refine zZ_cast (σ' := zst (zSq I 36 p2) J q) (by refine congrArg (fun I' => zst I' J q) ?_; exact zSp_zSp) rfl rfl ?_
                                  refine y_if_eqB C 214 dX5_kinds_202 (by decide) (fun h202 => ?_) (fun h202 => ?_)
                                  · obtain ⟨v1, ev1⟩ : ∃ y : Int, y = (e : Int) + 1 := ⟨_, rfl⟩
                                    refine z_iinc C 8 v1 [(8, .int (iI v1)), (0, .ref 0), (1, .int (iI s)), (2, .int (iI t)), (3, .int (iI n)), (4, .int (iI ((wn : Int)))), (5, .ref (19 + 2 * s.toNat)), (6, .ref (19 + 2 * t.toNat)), (7, .int (iI ((bitsN P e : Nat))))] dX5_kinds_214 rfl ev1.symm (by decide) rfl ?_
                                    refine z_goto C 182 dX5_kinds_217 (by decide) ?_
                                    refine zZ_sub [1, 2, 3, 4, 5, 6, 7, 8, 0] rfl ?_
                                    refine zZ_cast rfl (zLk (zLk (zLk (zLk (zLk (zLk (zLk (zLc (by rw [bitsN_no (by rw [hP]; exact h202)]) (zLc (by omega) rfl))))))))) rfl (kke p2 trivial)
                                  · refine z_iload C 7 rfl dX5_kinds_205 ?_
                                    refine z_iconst C dX5_kinds_207 ?_
                                    refine z_iload C 8 rfl dX5_kinds_208 ?_
                                    refine z_ishl C ((2 ^ e : Nat) : Int) dX5_kinds_210 (iI_sh1 (by omega)) ?_
                                    refine z_ior C (bitsN P (e + 1) : Nat) dX5_kinds_211 (bitsN_step (by omega) (by rw [hP]; exact h202)) ?_
                                    refine z_istore C [(7, .int (iI ((bitsN P (e + 1) : Nat)))), (0, .ref 0), (1, .int (iI s)), (2, .int (iI t)), (3, .int (iI n)), (4, .int (iI ((wn : Int)))), (5, .ref (19 + 2 * s.toNat)), (6, .ref (19 + 2 * t.toNat)), (8, .int (iI ((e : Int))))] dX5_kinds_212 (by decide) rfl ?_
                                    obtain ⟨v2, ev2⟩ : ∃ y : Int, y = (e : Int) + 1 := ⟨_, rfl⟩
                                    refine z_iinc C 8 v2 [(8, .int (iI v2)), (7, .int (iI ((bitsN P (e + 1) : Nat)))), (0, .ref 0), (1, .int (iI s)), (2, .int (iI t)), (3, .int (iI n)), (4, .int (iI ((wn : Int)))), (5, .ref (19 + 2 * s.toNat)), (6, .ref (19 + 2 * t.toNat))] dX5_kinds_214 rfl ev2.symm (by decide) rfl ?_
                                    refine z_goto C 182 dX5_kinds_217 (by decide) ?_
                                    refine zZ_sub [2, 3, 4, 5, 6, 7, 8, 1, 0] rfl ?_
                                    refine zZ_cast rfl (zLk (zLk (zLk (zLk (zLk (zLk (zLk (zLc rfl (zLc (by omega) rfl))))))))) rfl (kke p2 trivial)
                              · intro p hpe
                                refine z_iload C 8 rfl dX5_kinds_182 ?_
                                refine z_bipush C dX5_kinds_184 (by decide) ?_
                                refine z_icmp_ge C 220 dX5_kinds_186 (by decide) (by omega) (by omega) (fun h186 => ?_) (fun h186 => ?_)
                                · refine z_iload C 7 rfl dX5_kinds_220 ?_
                                  exact zZ_iret C hR (Nat.le_refl _) (Nat.le_refl _) dX5_kinds_222 rfl (zEx_I (by rw [uR0 (show fKinds I J s t n w = 0 by (try simp only [decide_eq_true_eq, decide_eq_false_iff_not, bI] at *); unfold fKinds; (repeat' split) <;> first | rfl | omega | (exfalso; simp_all; done) | (exfalso; simp_all; omega))]; rw [hkN]) p (by rw [uI0 (show fKinds I J s t n w = 0 by (try simp only [decide_eq_true_eq, decide_eq_false_iff_not, bI] at *); unfold fKinds; (repeat' split) <;> first | rfl | omega | (exfalso; simp_all; done) | (exfalso; simp_all; omega))]; (first | done | rfl)))
                                · omega
                            · refine z_aload_n C 2 rfl dX5_kinds_169 rfl ?_
                              refine z_bipush C dX5_kinds_170 (by decide) ?_
                              refine y_callV1 C oX5_refuse iX5_refuse eX5_refuse lkX5_59 (c_X5_refuse (by first | assumption | omega)) rfl (by decide) rfl rfl (by decide) (Nat.le_refl _) (Nat.le_refl _) (Nat.le_of_ble_eq_true rfl) dX5_kinds_172 ?_
                              exact zZ_iret C hR (Nat.le_refl _) (Nat.le_refl _) dX5_kinds_175 rfl (zEx_I (uRc (show fKinds I J s t n w = -5 by (try simp only [decide_eq_true_eq, decide_eq_false_iff_not, bI] at *); unfold fKinds; (repeat' split) <;> first | rfl | omega | (exfalso; simp_all; done) | (exfalso; simp_all; omega)) (by decide)).symm (spOf I 36) (by rw [uIc (show fKinds I J s t n w = -5 by (try simp only [decide_eq_true_eq, decide_eq_false_iff_not, bI] at *); unfold fKinds; (repeat' split) <;> first | rfl | omega | (exfalso; simp_all; done) | (exfalso; simp_all; omega)) (by decide)]))
                      · refine z_aload_n C 2 rfl dX5_kinds_123 rfl ?_
                        refine z_bipush C dX5_kinds_124 (by decide) ?_
                        refine y_callV1 C oX5_refuse iX5_refuse eX5_refuse lkX5_59 (c_X5_refuse (by first | assumption | omega)) rfl (by decide) rfl rfl (by decide) (Nat.le_refl _) (Nat.le_refl _) (Nat.le_of_ble_eq_true rfl) dX5_kinds_126 ?_
                        exact zZ_iret C hR (Nat.le_refl _) (Nat.le_refl _) dX5_kinds_129 rfl (zEx_I (uRc (show fKinds I J s t n w = -2 by (try simp only [decide_eq_true_eq, decide_eq_false_iff_not, bI] at *); unfold fKinds; (repeat' split) <;> first | rfl | omega | (exfalso; simp_all; done) | (exfalso; simp_all; omega)) (by decide)).symm (spOf I 36) (by rw [uIc (show fKinds I J s t n w = -2 by (try simp only [decide_eq_true_eq, decide_eq_false_iff_not, bI] at *); unfold fKinds; (repeat' split) <;> first | rfl | omega | (exfalso; simp_all; done) | (exfalso; simp_all; omega)) (by decide)]))
                  · refine z_aload_n C 2 rfl dX5_kinds_98 rfl ?_
                    refine z_bipush C dX5_kinds_99 (by decide) ?_
                    refine y_callV1 C oX5_refuse iX5_refuse eX5_refuse lkX5_59 (c_X5_refuse (by first | assumption | omega)) rfl (by decide) rfl rfl (by decide) (Nat.le_refl _) (Nat.le_refl _) (Nat.le_of_ble_eq_true rfl) dX5_kinds_101 ?_
                    exact zZ_iret C hR (Nat.le_refl _) (Nat.le_refl _) dX5_kinds_104 rfl (zEx_I (uRc (show fKinds I J s t n w = -4 by (try simp only [decide_eq_true_eq, decide_eq_false_iff_not, bI] at *); unfold fKinds; (repeat' split) <;> first | rfl | omega | (exfalso; simp_all; done) | (exfalso; simp_all; omega)) (by decide)).symm (spOf I 36) (by rw [uIc (show fKinds I J s t n w = -4 by (try simp only [decide_eq_true_eq, decide_eq_false_iff_not, bI] at *); unfold fKinds; (repeat' split) <;> first | rfl | omega | (exfalso; simp_all; done) | (exfalso; simp_all; omega)) (by decide)]))
              · refine z_aload_n C 2 rfl dX5_kinds_75 rfl ?_
                refine z_bipush C dX5_kinds_76 (by decide) ?_
                refine y_callV1 C oX5_refuse iX5_refuse eX5_refuse lkX5_59 (c_X5_refuse (by first | assumption | omega)) rfl (by decide) rfl rfl (by decide) (Nat.le_refl _) (Nat.le_refl _) (Nat.le_of_ble_eq_true rfl) dX5_kinds_78 ?_
                exact zZ_iret C hR (Nat.le_refl _) (Nat.le_refl _) dX5_kinds_81 rfl (zEx_I (uRc (show fKinds I J s t n w = -3 by (try simp only [decide_eq_true_eq, decide_eq_false_iff_not, bI] at *); unfold fKinds; (repeat' split) <;> first | rfl | omega | (exfalso; simp_all; done) | (exfalso; simp_all; omega)) (by decide)).symm (spOf I 36) (by rw [uIc (show fKinds I J s t n w = -3 by (try simp only [decide_eq_true_eq, decide_eq_false_iff_not, bI] at *); unfold fKinds; (repeat' split) <;> first | rfl | omega | (exfalso; simp_all; done) | (exfalso; simp_all; omega)) (by decide)]))
          · refine z_aload_n C 0 rfl dX5_kinds_36 rfl ?_
            refine z_bipush C dX5_kinds_37 (by decide) ?_
            refine y_callV1 C oX5_refuse iX5_refuse eX5_refuse lkX5_59 (c_X5_refuse (by first | assumption | omega)) rfl (by decide) rfl rfl (by decide) (Nat.le_refl _) (Nat.le_refl _) (Nat.le_of_ble_eq_true rfl) dX5_kinds_39 ?_
            exact zZ_iret C hR (Nat.le_refl _) (Nat.le_refl _) dX5_kinds_42 rfl (zEx_I (uRc (show fKinds I J s t n w = -2 by (try simp only [decide_eq_true_eq, decide_eq_false_iff_not, bI] at *); unfold fKinds; (repeat' split) <;> first | rfl | omega | (exfalso; simp_all; done) | (exfalso; simp_all; omega)) (by decide)).symm (spOf I 36) (by rw [uIc (show fKinds I J s t n w = -2 by (try simp only [decide_eq_true_eq, decide_eq_false_iff_not, bI] at *); unfold fKinds; (repeat' split) <;> first | rfl | omega | (exfalso; simp_all; done) | (exfalso; simp_all; omega)) (by decide)]))
