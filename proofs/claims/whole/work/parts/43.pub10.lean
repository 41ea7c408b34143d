set_option maxHeartbeats 4000000 in
set_option maxRecDepth 100000 in
theorem c_X5_eweOf {g : zG} {I : Nat → Nat → Int} {J : Nat → Nat → Int64} {q : Nat × Nat} {w x : Int} (hg : gH I 1) (hq : gS I 4) (hl : gL I) (hw : -2147483648 ≤ w ∧ w ≤ 2147483647) (hx : -2147483648 ≤ x ∧ x ≤ 2147483647) : zRun g mX5_eweOf 3 [.ref 0, .int (iI w), .int (iI x)] (zst I J q) (some (.int (iI (uR (fEweOf I w x) (eweOfN I w.toNat x))))) (zst (uI I (fEweOf I w x) (I)) J q) := by
  obtain ⟨g1, g2, g3, g4, g5, g6⟩ := id hg
  obtain ⟨k1, k2, k3⟩ := id hq
  have k3 : ∀ e, e < 5 → 0 ≤ I 5 e ∧ I 5 e ≤ 66 := k3
  refine zRuns_intro rfl (Nat.le_of_ble_eq_true rfl) (fun X C hR => ?_)
  show zZ g X 0 0 _ 0 [(0, .ref 0), (1, .int (iI w)), (2, .int (iI x))] []
  refine z_aload_n C 0 rfl dX5_eweOf_0 rfl ?_
  refine y_getR C zCl5 0 flX5_10 rfl rfl rfl dX5_eweOf_1 ?_
  refine z_iload_n C 1 rfl dX5_eweOf_4 rfl ?_
  refine y_callV1 C oX0_isEwe iX0_isEwe eX0_isEwe lkX5_103 (c_X0_isEwe isH_1 hg (by first | assumption | omega)) rfl (by decide) rfl rfl (by decide) (Nat.le_refl _) (Nat.le_refl _) (Nat.le_of_ble_eq_true rfl) dX5_eweOf_5 ?_
  refine y_if_neB C 18 dX5_eweOf_8 (by decide) (fun h8 => ?_) (fun h8 => ?_)
  · have hwr : 0 ≤ w ∧ w < I 1 6 := by simpa using h8
    obtain ⟨wn, hwn⟩ : ∃ n : Nat, w = n := ⟨w.toNat, by omega⟩
    rw [hwn]
    have hwt : w.toNat = wn := by omega
    have qc : 0 ≤ I (1 + 3 + 1) wn ∧ I (1 + 3 + 1) wn ≤ 66 := k3 wn (by omega)
    have qd : 0 ≤ I (1 + 3) 0 ∧ I (1 + 3) 0 ≤ 66 := k1
    refine z_aload_n C 0 rfl dX5_eweOf_18 rfl ?_
    refine y_getR C zCl5 0 flX5_10 rfl rfl rfl dX5_eweOf_19 ?_
    refine y_getR C zCl0 9 flX5_118 rfl rfl rfl dX5_eweOf_22 ?_
    refine y_getR C zCl3 2 flX5_162 rfl rfl rfl dX5_eweOf_25 ?_
    refine z_iload_n C 1 rfl dX5_eweOf_28 rfl ?_
    refine y_iald C wn (by omega) rfl (by omega) (by decide) dX5_eweOf_29 ?_
    refine z_topI C (fun ce ece => ?_)
    refine z_istore_n C [(3, .int (iI ce)), (0, .ref 0), (1, .int (iI ((wn : Int)))), (2, .int (iI x))] dX5_eweOf_30 rfl (by decide) rfl ?_
    refine z_iload_n C 3 rfl dX5_eweOf_31 rfl ?_
    rcases (show x = 0 ∨ x = 1 ∨ x = 2 ∨ x = 3 ∨ x = 4 ∨ x = 5 ∨ (x < 0 ∨ 5 < x) by omega) with hsw | hsw | hsw | hsw | hsw | hsw | hsw
    · rw [hsw]
      refine z_tabIn C 72 dX5_eweOf_32 (by decide) (by decide) (by decide) rfl (by decide) ?_
      refine z_aload_n C 1 rfl dX5_eweOf_72 rfl ?_
      refine y_getR C zCl5 0 flX5_10 rfl rfl rfl dX5_eweOf_73 ?_
      refine y_getR C zCl0 7 flX5_109 rfl rfl rfl dX5_eweOf_76 ?_
      refine z_iload_n C 2 rfl dX5_eweOf_79 rfl ?_
      refine y_iald C wn (by omega) rfl (by omega) (by decide) dX5_eweOf_80 ?_
      exact zZ_iret C hR (Nat.le_refl _) (Nat.le_refl _) dX5_eweOf_81 rfl (zIs_I (by rw [uR0 (show fEweOf I w x = 0 by unfold fEweOf; rw [if_neg (by omega), if_pos (by omega)])]; unfold eweOfN; rw [hwt, hsw]; rfl) (by rw [uI0 (show fEweOf I w x = 0 by (try simp only [decide_eq_true_eq, decide_eq_false_iff_not, bI] at *); unfold fEweOf; (repeat' split) <;> first | rfl | omega | (exfalso; simp_all; done) | (exfalso; simp_all; omega))]; (first | done | rfl)))
    · rw [hsw]
      refine z_tabIn C 82 dX5_eweOf_32 (by decide) (by decide) (by decide) rfl (by decide) ?_
      refine z_aload_n C 1 rfl dX5_eweOf_82 rfl ?_
      refine y_getR C zCl5 0 flX5_10 rfl rfl rfl dX5_eweOf_83 ?_
      refine y_getR C zCl0 8 flX5_115 rfl rfl rfl dX5_eweOf_86 ?_
      refine z_iload_n C 2 rfl dX5_eweOf_89 rfl ?_
      refine y_iald C wn (by omega) rfl (by omega) (by decide) dX5_eweOf_90 ?_
      exact zZ_iret C hR (Nat.le_refl _) (Nat.le_refl _) dX5_eweOf_91 rfl (zIs_I (by rw [uR0 (show fEweOf I w x = 0 by unfold fEweOf; rw [if_neg (by omega), if_pos (by omega)])]; unfold eweOfN; rw [hwt, hsw]; rfl) (by rw [uI0 (show fEweOf I w x = 0 by (try simp only [decide_eq_true_eq, decide_eq_false_iff_not, bI] at *); unfold fEweOf; (repeat' split) <;> first | rfl | omega | (exfalso; simp_all; done) | (exfalso; simp_all; omega))]; (first | done | rfl)))
    · rw [hsw]
      refine z_tabIn C 92 dX5_eweOf_32 (by decide) (by decide) (by decide) rfl (by decide) ?_
      refine z_iload_n C 0 rfl dX5_eweOf_92 rfl ?_
      exact zZ_iret C hR (Nat.le_refl _) (Nat.le_refl _) dX5_eweOf_93 rfl (zIs_I (by rw [uR0 (show fEweOf I w x = 0 by unfold fEweOf; rw [if_neg (by omega), if_pos (by omega)])]; unfold eweOfN; rw [hwt, hsw, ece]; rfl) (by rw [uI0 (show fEweOf I w x = 0 by (try simp only [decide_eq_true_eq, decide_eq_false_iff_not, bI] at *); unfold fEweOf; (repeat' split) <;> first | rfl | omega | (exfalso; simp_all; done) | (exfalso; simp_all; omega))]; (first | done | rfl)))
    · rw [hsw]
      refine z_tabIn C 94 dX5_eweOf_32 (by decide) (by decide) (by decide) rfl (by decide) ?_
      refine z_iload_n C 0 rfl dX5_eweOf_94 rfl ?_
      refine z_aload_n C 1 rfl dX5_eweOf_95 rfl ?_
      refine y_getR C zCl5 0 flX5_10 rfl rfl rfl dX5_eweOf_96 ?_
      refine y_getI C zCl0 1 flX5_144 rfl rfl dX5_eweOf_99 ?_
      refine z_icmp_ne C 109 dX5_eweOf_102 (by decide) (by omega) (by omega) (fun h102 => ?_) (fun h102 => ?_)
      · refine z_iconst C dX5_eweOf_109 ?_
        exact zZ_iret C hR (Nat.le_refl _) (Nat.le_refl _) dX5_eweOf_110 rfl (zIs_I (by rw [uR0 (show fEweOf I w x = 0 by unfold fEweOf; rw [if_neg (by omega), if_pos (by omega)])]; unfold eweOfN; rw [hwt, hsw]; show _ = bI (decide (I 5 wn = I 1 1)); rw [decide_eq_false (fun z => h102 (ece.trans z))]; rfl) (by rw [uI0 (show fEweOf I w x = 0 by (try simp only [decide_eq_true_eq, decide_eq_false_iff_not, bI] at *); unfold fEweOf; (repeat' split) <;> first | rfl | omega | (exfalso; simp_all; done) | (exfalso; simp_all; omega))]; (first | done | rfl)))
      · refine z_iconst C dX5_eweOf_105 ?_
        refine z_goto C 110 dX5_eweOf_106 (by decide) ?_
        exact zZ_iret C hR (Nat.le_refl _) (Nat.le_refl _) dX5_eweOf_110 rfl (zIs_I (by rw [uR0 (show fEweOf I w x = 0 by unfold fEweOf; rw [if_neg (by omega), if_pos (by omega)])]; unfold eweOfN; rw [hwt, hsw]; show _ = bI (decide (I 5 wn = I 1 1)); rw [decide_eq_true (ece.symm.trans h102)]; rfl) (by rw [uI0 (show fEweOf I w x = 0 by (try simp only [decide_eq_true_eq, decide_eq_false_iff_not, bI] at *); unfold fEweOf; (repeat' split) <;> first | rfl | omega | (exfalso; simp_all; done) | (exfalso; simp_all; omega))]; (first | done | rfl)))
    · rw [hsw]
      refine z_tabIn C 111 dX5_eweOf_32 (by decide) (by decide) (by decide) rfl (by decide) ?_
      refine z_iload_n C 0 rfl dX5_eweOf_111 rfl ?_
      refine z_aload_n C 1 rfl dX5_eweOf_112 rfl ?_
      refine y_getR C zCl5 0 flX5_10 rfl rfl rfl dX5_eweOf_113 ?_
      refine y_getR C zCl0 9 flX5_118 rfl rfl rfl dX5_eweOf_116 ?_
      refine y_getI C zCl3 0 flX5_150 rfl rfl dX5_eweOf_119 ?_
      refine y_callS2 C oX5_stepsBetween sX5_stepsBetween lkX5_183 (c_X5_stepsBetween (by first | assumption | omega) (by first | assumption | omega)) (by decide) (Nat.le_refl _) (Nat.le_refl _) (Nat.le_of_ble_eq_true rfl) dX5_eweOf_122 ?_
      exact zZ_iret C hR (Nat.le_refl _) (Nat.le_refl _) dX5_eweOf_125 rfl (zIs_I (by rw [uR0 (show fEweOf I w x = 0 by unfold fEweOf; rw [if_neg (by omega), if_pos (by omega)])]; unfold eweOfN; rw [hwt, hsw, ece]; rfl) (by rw [uI0 (show fEweOf I w x = 0 by (try simp only [decide_eq_true_eq, decide_eq_false_iff_not, bI] at *); unfold fEweOf; (repeat' split) <;> first | rfl | omega | (exfalso; simp_all; done) | (exfalso; simp_all; omega))]; (first | done | rfl)))
    · rw [hsw]
      refine z_tabIn C 126 dX5_eweOf_32 (by decide) (by decide) (by decide) rfl (by decide) ?_
      refine z_iload_n C 0 rfl dX5_eweOf_126 rfl ?_
      refine z_aload_n C 1 rfl dX5_eweOf_127 rfl ?_
      refine y_getR C zCl5 0 flX5_10 rfl rfl rfl dX5_eweOf_128 ?_
      refine y_getI C zCl0 1 flX5_144 rfl rfl dX5_eweOf_131 ?_
      refine y_callS2 C oX5_stepsBetween sX5_stepsBetween lkX5_183 (c_X5_stepsBetween (by first | assumption | omega) (by first | assumption | omega)) (by decide) (Nat.le_refl _) (Nat.le_refl _) (Nat.le_of_ble_eq_true rfl) dX5_eweOf_134 ?_
      exact zZ_iret C hR (Nat.le_refl _) (Nat.le_refl _) dX5_eweOf_137 rfl (zIs_I (by rw [uR0 (show fEweOf I w x = 0 by unfold fEweOf; rw [if_neg (by omega), if_pos (by omega)])]; unfold eweOfN; rw [hwt, hsw, ece]; rfl) (by rw [uI0 (show fEweOf I w x = 0 by (try simp only [decide_eq_true_eq, decide_eq_false_iff_not, bI] at *); unfold fEweOf; (repeat' split) <;> first | rfl | omega | (exfalso; simp_all; done) | (exfalso; simp_all; omega))]; (first | done | rfl)))
    · refine z_tabOut C 138 dX5_eweOf_32 (by omega) hsw (by decide) ?_
      refine z_aload_n C 1 rfl dX5_eweOf_138 rfl ?_
      refine z_bipush C dX5_eweOf_139 (by decide) ?_
      refine y_callV1 C oX5_refuse iX5_refuse eX5_refuse lkX5_59 (c_X5_refuse (by first | assumption | omega)) rfl (by decide) rfl rfl (by decide) (Nat.le_refl _) (Nat.le_refl _) (Nat.le_of_ble_eq_true rfl) dX5_eweOf_141 ?_
      exact zZ_iret C hR (Nat.le_refl _) (Nat.le_refl _) dX5_eweOf_144 rfl (zIs_I (uRc (show fEweOf I w x = -2 by (try simp only [decide_eq_true_eq, decide_eq_false_iff_not, bI] at *); unfold fEweOf; (repeat' split) <;> first | rfl | omega | (exfalso; simp_all; done) | (exfalso; simp_all; omega)) (by decide)).symm (by rw [uIc (show fEweOf I w x = -2 by (try simp only [decide_eq_true_eq, decide_eq_false_iff_not, bI] at *); unfold fEweOf; (repeat' split) <;> first | rfl | omega | (exfalso; simp_all; done) | (exfalso; simp_all; omega)) (by decide)]))
  · refine z_aload_n C 0 rfl dX5_eweOf_11 rfl ?_
    refine z_bipush C dX5_eweOf_12 (by decide) ?_
    refine y_callV1 C oX5_refuse iX5_refuse eX5_refuse lkX5_59 (c_X5_refuse (by first | assumption | omega)) rfl (by decide) rfl rfl (by decide) (Nat.le_refl _) (Nat.le_refl _) (Nat.le_of_ble_eq_true rfl) dX5_eweOf_14 ?_
    exact zZ_iret C hR (Nat.le_refl _) (Nat.le_refl _) dX5_eweOf_17 rfl (zIs_I (uRc (show fEweOf I w x = -2 by (try simp only [decide_eq_true_eq, decide_eq_false_iff_not, bI] at *); unfold fEweOf; (repeat' split) <;> first | rfl | omega | (exfalso; simp_all; done) | (exfalso; simp_all; omega)) (by decide)).symm (by rw [uIc (show fEweOf I w x = -2 by (try simp only [decide_eq_true_eq, decide_eq_false_iff_not, bI] at *); unfold fEweOf; (repeat' split) <;> first | rfl | omega | (exfalso; simp_all; done) | (exfalso; simp_all; omega)) (by decide)]))
