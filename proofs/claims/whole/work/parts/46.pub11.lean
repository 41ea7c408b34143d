set_option maxHeartbeats 4000000 in
set_option maxRecDepth 100000 in
theorem c_X5_reach {g : zG} {I : Nat → Nat → Int} {J : Nat → Nat → Int64} {q : Nat × Nat} {n : Int} (hg : gH I 1) (hq : gS I 4) (hl : gL I) (hn : -2147483648 ≤ n ∧ n ≤ 2147483647) : zRun g mX5_reach 4 [.ref 0, .int (iI n)] (zst I J q) (some (.int (iI (uR (fReach n) (bcL (sprN (groundB (I 1 0) (J 1 5) (I 1 1) 67) (bitL (I 4 0)) n.toNat)))))) (zst (uI I (fReach n) (I)) J q) := by
  obtain ⟨g1, g2, g3, g4, g5, g6⟩ := id hg
  obtain ⟨k1, k2, k3⟩ := id hq
  have k3 : ∀ e, e < 5 → 0 ≤ I 5 e ∧ I 5 e ≤ 66 := k3
  have qd : 0 ≤ I (1 + 3) 0 ∧ I (1 + 3) 0 ≤ 66 := k1
  refine zRuns_intro rfl (Nat.le_of_ble_eq_true rfl) (fun X C hR => ?_)
  show zZ g X 0 0 _ 0 [(0, .ref 0), (1, .int (iI n))] []
  refine z_iload_n C 1 rfl dX5_reach_0 rfl ?_
  refine z_if_lt C 10 dX5_reach_1 (by decide) (by omega) (fun h1 => ?_) (fun h1 => ?_)
  · refine z_aload_n C 0 rfl dX5_reach_10 rfl ?_
    refine z_bipush C dX5_reach_11 (by decide) ?_
    refine y_callV1 C oX5_refuse iX5_refuse eX5_refuse lkX5_59 (c_X5_refuse (by first | assumption | omega)) rfl (by decide) rfl rfl (by decide) (Nat.le_refl _) (Nat.le_refl _) (Nat.le_of_ble_eq_true rfl) dX5_reach_13 ?_
    exact zZ_iret C hR (Nat.le_refl _) (Nat.le_refl _) dX5_reach_16 rfl (zIs_I (uRc (show fReach n = -2 by (try simp only [decide_eq_true_eq, decide_eq_false_iff_not, bI] at *); unfold fReach; (repeat' split) <;> first | rfl | omega | (exfalso; simp_all; done) | (exfalso; simp_all; omega)) (by decide)).symm (by rw [uIc (show fReach n = -2 by (try simp only [decide_eq_true_eq, decide_eq_false_iff_not, bI] at *); unfold fReach; (repeat' split) <;> first | rfl | omega | (exfalso; simp_all; done) | (exfalso; simp_all; omega)) (by decide)]))
  · refine z_iload_n C 1 rfl dX5_reach_4 rfl ?_
    refine z_bipush C dX5_reach_5 (by decide) ?_
    refine z_icmp_le C 17 dX5_reach_7 (by decide) (by omega) (by omega) (fun h7 => ?_) (fun h7 => ?_)
    · refine z_aload_n C 0 rfl dX5_reach_17 rfl ?_
      refine y_getR C zCl5 0 flX5_10 rfl rfl rfl dX5_reach_18 ?_
      refine y_callV0 C oX0_dogsGround iX0_dogsGround eX0_dogsGround lkX5_277 (c_X0_dogsGround isH_1 hg) rfl (by decide) rfl rfl (by decide) (Nat.le_refl _) (Nat.le_refl _) (Nat.le_of_ble_eq_true rfl) dX5_reach_21 ?_
      refine z_topL C (fun gg egg => ?_)
      refine z_lstore_n C [(2, .long gg), (0, .ref 0), (1, .int (iI n))] dX5_reach_24 rfl (by decide) rfl ?_
      refine z_aload_n C 1 rfl dX5_reach_25 rfl ?_
      refine y_getR C zCl5 0 flX5_10 rfl rfl rfl dX5_reach_26 ?_
      refine y_getR C zCl0 9 flX5_118 rfl rfl rfl dX5_reach_29 ?_
      refine y_getI C zCl3 0 flX5_150 rfl rfl dX5_reach_32 ?_
      refine y_callS1 C oX5_bitOf sX5_bitOf lkX5_274 (c_X5_bitOf (by first | assumption | omega)) (by decide) (Nat.le_refl _) (Nat.le_refl _) (Nat.le_of_ble_eq_true rfl) dX5_reach_35 ?_
      refine z_topL C (fun bd ebd => ?_)
      refine z_lstore C [(4, .long bd), (2, .long gg), (0, .ref 0), (1, .int (iI n))] dX5_reach_38 (by decide) rfl ?_
      have ebd : bd = bitL (I 4 0) := ebd
      refine z_iconst C dX5_reach_40 ?_
      refine z_istore C [(6, .int (iI 0)), (4, .long bd), (2, .long gg), (0, .ref 0), (1, .int (iI n))] dX5_reach_41 (by decide) rfl ?_
      refine zZ_sub [3, 4, 2, 1, 0] rfl ?_
      refine zZ_cast (σ' := (fun _ : Nat => zst I J q) 0) (L' := (fun e : Nat => [(0, .ref 0), (1, .int (iI n)), (2, .long gg), (4, .long (sprN gg bd e)), (6, .int (iI (e : Int)))]) 0) rfl rfl rfl ?_
      refine zfor (n.toNat) (fun _ => True) (fun _ : Nat => zst I J q) (fun e : Nat => [(0, .ref 0), (1, .int (iI n)), (2, .long gg), (4, .long (sprN gg bd e)), (6, .int (iI (e : Int)))]) trivial ?_ ?_
      · intro e hee hpe kke
        refine z_iload C 4 rfl dX5_reach_43 ?_
        refine z_iload_n C 1 rfl dX5_reach_45 rfl ?_
        refine z_icmp_ge C 63 dX5_reach_46 (by decide) (by omega) (by omega) (fun h46 => ?_) (fun h46 => ?_)
        · omega
        · refine z_lload C 3 rfl dX5_reach_49 ?_
          refine z_lload_n C 2 rfl dX5_reach_51 rfl ?_
          refine y_callS2 C oX0_spread sX0_spread lkX5_280 c_X0_spread (by decide) (Nat.le_refl _) (Nat.le_refl _) (Nat.le_of_ble_eq_true rfl) dX5_reach_52 ?_
          refine z_topL C (fun v1 ev1 => ?_)
          refine z_lstore C [(4, .long v1), (0, .ref 0), (1, .int (iI n)), (2, .long gg), (6, .int (iI ((e : Int))))] dX5_reach_55 (by decide) rfl ?_
          obtain ⟨v2, ev2⟩ : ∃ y : Int, y = (e : Int) + 1 := ⟨_, rfl⟩
          refine z_iinc C 4 v2 [(6, .int (iI v2)), (4, .long v1), (0, .ref 0), (1, .int (iI n)), (2, .long gg)] dX5_reach_57 rfl ev2.symm (by decide) rfl ?_
          refine z_goto C 43 dX5_reach_60 (by decide) ?_
          refine zZ_sub [2, 3, 4, 1, 0] rfl ?_
          refine zZ_cast rfl (zLk (zLk (zLk (zLj (by rw [ev1]; rfl) (zLc (by omega) rfl))))) rfl (kke trivial)
      · intro hpe
        refine z_iload C 4 rfl dX5_reach_43 ?_
        refine z_iload_n C 1 rfl dX5_reach_45 rfl ?_
        refine z_icmp_ge C 63 dX5_reach_46 (by decide) (by omega) (by omega) (fun h46 => ?_) (fun h46 => ?_)
        · refine z_lload C 3 rfl dX5_reach_63 ?_
          refine y_callS1 C oJ13_bitCount_95d88 sJ13_bitCount_95d88 lkX5_284 c_J13_bitCount_95d88 (by decide) (Nat.le_refl _) (Nat.le_refl _) (Nat.le_of_ble_eq_true rfl) dX5_reach_65 ?_
          exact zZ_iret C hR (Nat.le_refl _) (Nat.le_refl _) dX5_reach_68 rfl (zIs_I (by rw [uR0 (show fReach n = 0 by (try simp only [decide_eq_true_eq, decide_eq_false_iff_not, bI] at *); unfold fReach; (repeat' split) <;> first | rfl | omega | (exfalso; simp_all; done) | (exfalso; simp_all; omega))]; rw [← egg, ← ebd]) (by rw [uI0 (show fReach n = 0 by (try simp only [decide_eq_true_eq, decide_eq_false_iff_not, bI] at *); unfold fReach; (repeat' split) <;> first | rfl | omega | (exfalso; simp_all; done) | (exfalso; simp_all; omega))]))
        · omega
    · refine z_aload_n C 0 rfl dX5_reach_10 rfl ?_
      refine z_bipush C dX5_reach_11 (by decide) ?_
      refine y_callV1 C oX5_refuse iX5_refuse eX5_refuse lkX5_59 (c_X5_refuse (by first | assumption | omega)) rfl (by decide) rfl rfl (by decide) (Nat.le_refl _) (Nat.le_refl _) (Nat.le_of_ble_eq_true rfl) dX5_reach_13 ?_
      exact zZ_iret C hR (Nat.le_refl _) (Nat.le_refl _) dX5_reach_16 rfl (zIs_I (uRc (show fReach n = -2 by (try simp only [decide_eq_true_eq, decide_eq_false_iff_not, bI] at *); unfold fReach; (repeat' split) <;> first | rfl | omega | (exfalso; simp_all; done) | (exfalso; simp_all; omega)) (by decide)).symm (by rw [uIc (show fReach n = -2 by (try simp only [decide_eq_true_eq, decide_eq_false_iff_not, bI] at *); unfold fReach; (repeat' split) <;> first | rfl | omega | (exfalso; simp_all; done) | (exfalso; simp_all; omega)) (by decide)]))
set_option maxHeartbeats 4000000 in
set_option maxRecDepth 100000 in
theorem c_X5_status {g : zG} {I : Nat → Nat → Int} {J : Nat → Nat → Int64} {q : Nat × Nat} {w : Int} (hg : gH I 1) (hq : gS I 4) (hl : gL I) (hw : -2147483648 ≤ w ∧ w ≤ 2147483647) : zRun g mX5_status 4 [.ref 0, .int (iI w)] (zst I J q) (some (.int (iI (statusN I J w)))) (zst I J q) := by
  obtain ⟨g1, g2, g3, g4, g5, g6⟩ := id hg
  obtain ⟨k1, k2, k3⟩ := id hq
  have k3 : ∀ e, e < 5 → 0 ≤ I 5 e ∧ I 5 e ≤ 66 := k3
  refine zRuns_intro rfl (Nat.le_of_ble_eq_true rfl) (fun X C hR => ?_)
  show zZ g X 0 0 _ 0 [(0, .ref 0), (1, .int (iI w))] []
  refine z_iload_n C 1 rfl dX5_status_0 rfl ?_
  rcases (show w = 0 ∨ w = 1 ∨ w = 2 ∨ w = 3 ∨ w = 4 ∨ w = 5 ∨ w = 6 ∨ w = 7 ∨ w = 8 ∨ w = 9 ∨ w = 10 ∨ w = 11 ∨ (w < 0 ∨ 11 < w) by omega) with hsw | hsw | hsw | hsw | hsw | hsw | hsw | hsw | hsw | hsw | hsw | hsw | hsw
  · rw [hsw]
    refine z_tabIn C 64 dX5_status_1 (by decide) (by decide) (by decide) rfl (by decide) ?_
    refine z_aload_n C 0 rfl dX5_status_64 rfl ?_
    refine y_getR C zCl5 0 flX5_10 rfl rfl rfl dX5_status_65 ?_
    refine y_getI C zCl0 6 flX5_156 rfl rfl dX5_status_68 ?_
    exact zZ_iret C hR (Nat.le_refl _) (Nat.le_refl _) dX5_status_71 rfl (zIs_I (by unfold statusN; rw [hsw]; rfl) rfl)
  · rw [hsw]
    refine z_tabIn C 72 dX5_status_1 (by decide) (by decide) (by decide) rfl (by decide) ?_
    refine z_aload_n C 0 rfl dX5_status_72 rfl ?_
    refine y_getR C zCl5 0 flX5_10 rfl rfl rfl dX5_status_73 ?_
    refine y_getI C zCl0 0 flX5_125 rfl rfl dX5_status_76 ?_
    exact zZ_iret C hR (Nat.le_refl _) (Nat.le_refl _) dX5_status_79 rfl (zIs_I (by unfold statusN; rw [hsw]; rfl) rfl)
  · rw [hsw]
    refine z_tabIn C 80 dX5_status_1 (by decide) (by decide) (by decide) rfl (by decide) ?_
    refine z_aload_n C 0 rfl dX5_status_80 rfl ?_
    refine y_getR C zCl5 0 flX5_10 rfl rfl rfl dX5_status_81 ?_
    refine y_getI C zCl0 1 flX5_144 rfl rfl dX5_status_84 ?_
    exact zZ_iret C hR (Nat.le_refl _) (Nat.le_refl _) dX5_status_87 rfl (zIs_I (by unfold statusN; rw [hsw]; rfl) rfl)
  · rw [hsw]
    refine z_tabIn C 88 dX5_status_1 (by decide) (by decide) (by decide) rfl (by decide) ?_
    refine z_aload_n C 0 rfl dX5_status_88 rfl ?_
    refine y_getR C zCl5 0 flX5_10 rfl rfl rfl dX5_status_89 ?_
    refine y_getR C zCl0 9 flX5_118 rfl rfl rfl dX5_status_92 ?_
    refine y_getI C zCl3 0 flX5_150 rfl rfl dX5_status_95 ?_
    exact zZ_iret C hR (Nat.le_refl _) (Nat.le_refl _) dX5_status_98 rfl (zIs_I (by unfold statusN; rw [hsw]; rfl) rfl)
  · rw [hsw]
    refine z_tabIn C 99 dX5_status_1 (by decide) (by decide) (by decide) rfl (by decide) ?_
    refine z_aload_n C 0 rfl dX5_status_99 rfl ?_
    refine y_getR C zCl5 0 flX5_10 rfl rfl rfl dX5_status_100 ?_
    refine y_getI C zCl0 2 flX5_165 rfl rfl dX5_status_103 ?_
    exact zZ_iret C hR (Nat.le_refl _) (Nat.le_refl _) dX5_status_106 rfl (zIs_I (by unfold statusN; rw [hsw]; rfl) rfl)
  · rw [hsw]
    refine z_tabIn C 107 dX5_status_1 (by decide) (by decide) (by decide) rfl (by decide) ?_
    refine z_aload_n C 0 rfl dX5_status_107 rfl ?_
    refine y_getR C zCl5 0 flX5_10 rfl rfl rfl dX5_status_108 ?_
    refine y_getI C zCl0 3 flX5_328 rfl rfl dX5_status_111 ?_
    exact zZ_iret C hR (Nat.le_refl _) (Nat.le_refl _) dX5_status_114 rfl (zIs_I (by unfold statusN; rw [hsw]; rfl) rfl)
  · rw [hsw]
    refine z_tabIn C 115 dX5_status_1 (by decide) (by decide) (by decide) rfl (by decide) ?_
    refine z_aload_n C 0 rfl dX5_status_115 rfl ?_
    refine y_getR C zCl5 0 flX5_10 rfl rfl rfl dX5_status_116 ?_
    refine z_aload_n C 0 rfl dX5_status_119 rfl ?_
    refine y_getR C zCl5 0 flX5_10 rfl rfl rfl dX5_status_120 ?_
    refine y_getR C zCl0 9 flX5_118 rfl rfl rfl dX5_status_123 ?_
    refine y_callV1 C oX0_countIn iX0_countIn eX0_countIn lkX5_235 (c_X0_countIn isH_1 isS_4 hg hq) rfl (by decide) rfl rfl (by decide) (Nat.le_refl _) (Nat.le_refl _) (Nat.le_of_ble_eq_true rfl) dX5_status_126 ?_
    exact zZ_iret C hR (Nat.le_refl _) (Nat.le_refl _) dX5_status_129 rfl (zIs_I (by unfold statusN; rw [hsw]; rfl) rfl)
  · rw [hsw]
    refine z_tabIn C 130 dX5_status_1 (by decide) (by decide) (by decide) rfl (by decide) ?_
    refine z_aload_n C 0 rfl dX5_status_130 rfl ?_
    refine y_getR C zCl5 0 flX5_10 rfl rfl rfl dX5_status_131 ?_
    refine y_getJ C zCl0 5 flX5_238 rfl rfl dX5_status_134 ?_
    refine y_callS1 C oJ13_bitCount_95d88 sJ13_bitCount_95d88 lkX5_284 c_J13_bitCount_95d88 (by decide) (Nat.le_refl _) (Nat.le_refl _) (Nat.le_of_ble_eq_true rfl) dX5_status_137 ?_
    exact zZ_iret C hR (Nat.le_refl _) (Nat.le_refl _) dX5_status_140 rfl (zIs_I (by unfold statusN; rw [hsw]; rfl) rfl)
  · rw [hsw]
    refine z_tabIn C 141 dX5_status_1 (by decide) (by decide) (by decide) rfl (by decide) ?_
    refine z_aload_n C 0 rfl dX5_status_141 rfl ?_
    refine y_getR C zCl5 0 flX5_10 rfl rfl rfl dX5_status_142 ?_
    refine y_getR C zCl0 9 flX5_118 rfl rfl rfl dX5_status_145 ?_
    refine y_getI C zCl3 1 flX5_338 rfl rfl dX5_status_148 ?_
    exact zZ_iret C hR (Nat.le_refl _) (Nat.le_refl _) dX5_status_151 rfl (zIs_I (by unfold statusN; rw [hsw]; rfl) rfl)
  · rw [hsw]
    refine z_tabIn C 152 dX5_status_1 (by decide) (by decide) (by decide) rfl (by decide) ?_
    refine z_aload_n C 0 rfl dX5_status_152 rfl ?_
    refine y_getR C zCl5 3 flX5_26 rfl rfl rfl dX5_status_153 ?_
    refine y_getI C zCl4 1 flX5_168 rfl rfl dX5_status_156 ?_
    exact zZ_iret C hR (Nat.le_refl _) (Nat.le_refl _) dX5_status_159 rfl (zIs_I (by unfold statusN; rw [hsw]; rfl) rfl)
  · rw [hsw]
    refine z_tabIn C 160 dX5_status_1 (by decide) (by decide) (by decide) rfl (by decide) ?_
    refine z_aload_n C 0 rfl dX5_status_160 rfl ?_
    refine y_getR C zCl5 0 flX5_10 rfl rfl rfl dX5_status_161 ?_
    refine y_getI C zCl0 4 flX5_341 rfl rfl dX5_status_164 ?_
    exact zZ_iret C hR (Nat.le_refl _) (Nat.le_refl _) dX5_status_167 rfl (zIs_I (by unfold statusN; rw [hsw]; rfl) rfl)
  · rw [hsw]
    refine z_tabIn C 168 dX5_status_1 (by decide) (by decide) (by decide) rfl (by decide) ?_
    refine z_aload_n C 0 rfl dX5_status_168 rfl ?_
    refine y_callV0 C oX5_countFilledShelves iX5_countFilledShelves eX5_countFilledShelves lkX5_344 (c_X5_countFilledShelves hl) rfl (by decide) rfl rfl (by decide) (Nat.le_refl _) (Nat.le_refl _) (Nat.le_of_ble_eq_true rfl) dX5_status_169 ?_
    exact zZ_iret C hR (Nat.le_refl _) (Nat.le_refl _) dX5_status_172 rfl (zIs_I (by unfold statusN; rw [hsw]; rfl) rfl)
  · refine z_tabOut C 173 dX5_status_1 (by omega) hsw (by decide) ?_
    refine z_iload_n C 1 rfl dX5_status_173 rfl ?_
    refine z_bipush C dX5_status_174 (by decide) ?_
    refine z_icmp_lt C 197 dX5_status_176 (by decide) (by omega) (by omega) (fun h176 => ?_) (fun h176 => ?_)
    · refine z_iconst C dX5_status_197 ?_
      exact zZ_iret C hR (Nat.le_refl _) (Nat.le_refl _) dX5_status_198 rfl (zIs_I (by unfold statusN; (iterate 13 rw [if_neg (by omega)])) rfl)
    · refine z_iload_n C 1 rfl dX5_status_179 rfl ?_
      refine z_bipush C dX5_status_180 (by decide) ?_
      refine z_icmp_ge C 197 dX5_status_182 (by decide) (by omega) (by omega) (fun h182 => ?_) (fun h182 => ?_)
      · refine z_iconst C dX5_status_197 ?_
        exact zZ_iret C hR (Nat.le_refl _) (Nat.le_refl _) dX5_status_198 rfl (zIs_I (by unfold statusN; (iterate 13 rw [if_neg (by omega)])) rfl)
      · refine z_aload_n C 0 rfl dX5_status_185 rfl ?_
        refine y_getR C zCl5 5 flX5_37 rfl rfl rfl dX5_status_186 ?_
        refine z_iload_n C 1 rfl dX5_status_189 rfl ?_
        refine z_bipush C dX5_status_190 (by decide) ?_
        refine z_isub C dX5_status_192 ?_
        refine y_iald C (w - 12).toNat (by omega) rfl (by omega) (by decide) dX5_status_193 ?_
        refine z_goto C 198 dX5_status_194 (by decide) ?_
        exact zZ_iret C hR (Nat.le_refl _) (Nat.le_refl _) dX5_status_198 rfl (zIs_I (by unfold statusN; (iterate 12 rw [if_neg (by omega)]); exact (if_pos ⟨by omega, by omega⟩).symm) rfl)
