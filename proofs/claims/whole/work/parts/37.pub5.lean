set_option maxHeartbeats 4000000 in
set_option maxRecDepth 100000 in
theorem c_X5_behind {g : zG} {I : Nat → Nat → Int} {J : Nat → Nat → Int64} {q : Nat × Nat} {s n w : Int} (hg : gH I 1) (hq : gS I 4) (hl : gL I) (hs : -2147483648 ≤ s ∧ s ≤ 2147483647) (hn : -2147483648 ≤ n ∧ n ≤ 2147483647) (hw : -2147483648 ≤ w ∧ w ≤ 2147483647) : zRun g mX5_behind 7 [.ref 0, .int (iI s), .int (iI n), .int (iI w)] (zst I J q) (some (.int (iI (uR (fBehind I J s n w) (behindN I J s n w))))) (zst (uI I (fBehind I J s n w) (zSq I 36 (runS (hv I J 1) (spOf I 4) (fun k => (J (19 + 2 * s.toNat + 1) k).toInt) n.toNat))) J q) := by
  obtain ⟨g1, g2, g3, g4, g5, g6⟩ := id hg
  obtain ⟨k1, k2, k3⟩ := id hq
  have k3 : ∀ e, e < 5 → 0 ≤ I 5 e ∧ I 5 e ≤ 66 := k3
  have hfd := fDone_r I J s n
  refine zRuns_intro rfl (Nat.le_of_ble_eq_true rfl) (fun X C hR => ?_)
  show zZ g X 0 0 _ 0 [(0, .ref 0), (1, .int (iI s)), (2, .int (iI n)), (3, .int (iI w))] []
  refine z_iload_n C 3 rfl dX5_behind_0 rfl ?_
  refine z_bipush C dX5_behind_1 (by decide) ?_
  refine z_icmp_lt C 30 dX5_behind_3 (by decide) (by omega) (by omega) (fun h3 => ?_) (fun h3 => ?_)
  · refine z_iconst C dX5_behind_30 ?_
    refine z_istore C [(4, .int (iI 0)), (0, .ref 0), (1, .int (iI s)), (2, .int (iI n)), (3, .int (iI w))] dX5_behind_31 (by decide) rfl ?_
    refine z_iload C 0 rfl dX5_behind_33 ?_
    refine z_if_ne C 54 dX5_behind_35 (by decide) (by omega) (fun h35 => ?_) (fun h35 => ?_)
    · exact absurd rfl h35
    · refine z_iload_n C 4 rfl dX5_behind_38 rfl ?_
      refine z_if_lt C 47 dX5_behind_39 (by decide) (by omega) (fun h39 => ?_) (fun h39 => ?_)
      · refine z_aload_n C 1 rfl dX5_behind_47 rfl ?_
        refine z_bipush C dX5_behind_48 (by decide) ?_
        refine y_callV1 C oX5_refuse iX5_refuse eX5_refuse lkX5_59 (c_X5_refuse (by first | assumption | omega)) rfl (by decide) rfl rfl (by decide) (Nat.le_refl _) (Nat.le_refl _) (Nat.le_of_ble_eq_true rfl) dX5_behind_50 ?_
        exact zZ_iret C hR (Nat.le_refl _) (Nat.le_refl _) dX5_behind_53 rfl (zIs_I (uRc (show fBehind I J s n w = -2 by (try simp only [decide_eq_true_eq, decide_eq_false_iff_not, bI] at *); unfold fBehind; (repeat' split) <;> first | rfl | omega | (exfalso; simp_all; done) | (exfalso; simp_all; omega)) (by decide)).symm (by rw [uIc (show fBehind I J s n w = -2 by (try simp only [decide_eq_true_eq, decide_eq_false_iff_not, bI] at *); unfold fBehind; (repeat' split) <;> first | rfl | omega | (exfalso; simp_all; done) | (exfalso; simp_all; omega)) (by decide)]))
      · refine z_iload_n C 4 rfl dX5_behind_42 rfl ?_
        refine z_iconst C dX5_behind_43 ?_
        refine z_icmp_le C 54 dX5_behind_44 (by decide) (by omega) (by omega) (fun h44 => ?_) (fun h44 => ?_)
        · refine z_aload_n C 1 rfl dX5_behind_54 rfl ?_
          refine z_iload_n C 2 rfl dX5_behind_55 rfl ?_
          refine z_iload_n C 3 rfl dX5_behind_56 rfl ?_
          refine y_callV2 C oX5_faultOfDoable iX5_faultOfDoable eX5_faultOfDoable lkX5_325 (c_X5_faultOfDoable hl hg hq (by first | assumption | omega) (by first | assumption | omega)) rfl (by decide) rfl rfl (by decide) (Nat.le_refl _) (Nat.le_refl _) (Nat.le_of_ble_eq_true rfl) dX5_behind_57 ?_
          refine z_topI C (fun ft eft => ?_)
          refine z_istore C [(5, .int (iI ft)), (4, .int (iI 0)), (0, .ref 0), (1, .int (iI s)), (2, .int (iI n)), (3, .int (iI w))] dX5_behind_60 (by decide) rfl ?_
          refine z_iload C 0 rfl dX5_behind_62 ?_
          have eft : ft = fDone I J s n := eft
          refine z_if_eq C 74 dX5_behind_64 (by decide) (by omega) (fun h64 => ?_) (fun h64 => ?_)
          · obtain ⟨hf0, hcf⟩ := fDone_0 (show fDone I J s n = 0 by omega)
            obtain ⟨f1, f2, f3, f4⟩ := frowN_0 (I := I) (s := s) (n := n) (limit := 40) hf0
            have hrun := gP_run (J := J) (f := (fun k => (J (19 + 2 * s.toNat + 1) k).toInt)) hg (gP_of hq) n.toNat (fun e he => by have := hcf e he; simp only [isCmd, decide_eq_true_eq] at this; show 0 ≤ (J (19 + 2 * s.toNat + 1) e).toInt ∧ _; omega)
            refine z_aload_n C 2 rfl dX5_behind_74 rfl ?_
            refine y_getR C zCl5 6 flX5_44 rfl rfl rfl dX5_behind_75 ?_
            refine z_aload_n C 2 rfl dX5_behind_78 rfl ?_
            refine y_getR C zCl5 0 flX5_10 rfl rfl rfl dX5_behind_79 ?_
            refine y_getR C zCl0 9 flX5_118 rfl rfl rfl dX5_behind_82 ?_
            refine y_callV1 C oX3_setTo iX3_setTo eX3_setTo lkX5_191 (c_X3_setTo isS_36 isS_4) rfl (by decide) rfl rfl (by decide) (Nat.le_refl _) (Nat.le_refl _) (Nat.le_of_ble_eq_true rfl) dX5_behind_85 ?_
            refine z_aload_n C 2 rfl dX5_behind_88 rfl ?_
            refine z_aload_n C 2 rfl dX5_behind_89 rfl ?_
            refine y_getR C zCl5 6 flX5_44 rfl rfl rfl dX5_behind_90 ?_
            refine z_aload_n C 2 rfl dX5_behind_93 rfl ?_
            refine y_getR C zCl5 4 flX5_32 rfl rfl rfl dX5_behind_94 ?_
            refine z_iload_n C 3 rfl dX5_behind_97 rfl ?_
            refine y_aald C s.toNat 10 (by decide) (by omega) rfl (by omega) (by decide) (rt_18 (by omega)) dX5_behind_98 ?_
            refine z_iload_n C 4 rfl dX5_behind_99 rfl ?_
            refine y_callV3 C oX5_takeTold iX5_takeTold eX5_takeTold lkX5_231 (c_X5_takeTold isS_36 (isL_of (by omega)) (gH_sp isH_1 isS_36 hg) (gS_of (gP_of hq)) (by first | assumption | omega) hcf) rfl (by decide) rfl rfl (by decide) (Nat.le_refl _) (Nat.le_refl _) (Nat.le_of_ble_eq_true rfl) dX5_behind_100 ?_
            refine zZ_cast (σ' := zst (zSq I 36 (runS (hv I J 1) (spOf I 4) (fun k => (J (19 + 2 * s.toNat + 1) k).toInt) n.toNat)) J q) (by refine congrArg (fun I' => zst I' J q) ?_; exact zSp_zSp) rfl rfl ?_
            refine z_iload_n C 5 rfl dX5_behind_103 rfl ?_
            rcases (show w = 0 ∨ w = 1 ∨ w = 2 ∨ (w < 0 ∨ 2 < w) by omega) with hsw | hsw | hsw | hsw
            · rw [hsw]
              refine z_tabIn C 132 dX5_behind_104 (by decide) (by decide) (by decide) rfl (by decide) ?_
              refine z_aload_n C 2 rfl dX5_behind_132 rfl ?_
              refine y_getR C zCl5 0 flX5_10 rfl rfl rfl dX5_behind_133 ?_
              refine z_aload_n C 2 rfl dX5_behind_136 rfl ?_
              refine y_getR C zCl5 6 flX5_44 rfl rfl rfl dX5_behind_137 ?_
              refine y_callV1 C oX0_countIn iX0_countIn eX0_countIn lkX5_235 (c_X0_countIn isH_1 isS_36 (gH_sp isH_1 isS_36 hg) (gS_of hrun)) rfl (by decide) rfl rfl (by decide) (Nat.le_refl _) (Nat.le_refl _) (Nat.le_of_ble_eq_true rfl) dX5_behind_140 ?_
              exact zZ_iret C hR (Nat.le_refl _) (Nat.le_refl _) dX5_behind_143 rfl (zIs_I (by rw [uR0 (show fBehind I J s n w = 0 by unfold fBehind; rw [if_pos (by omega)]; omega)]; unfold behindN; rw [if_pos hsw]; rfl) (by rw [uI0 (show fBehind I J s n w = 0 by (try simp only [decide_eq_true_eq, decide_eq_false_iff_not, bI] at *); unfold fBehind; (repeat' split) <;> first | rfl | omega | (exfalso; simp_all; done) | (exfalso; simp_all; omega))]; (first | done | rfl)))
            · rw [hsw]
              refine z_tabIn C 144 dX5_behind_104 (by decide) (by decide) (by decide) rfl (by decide) ?_
              refine z_aload_n C 2 rfl dX5_behind_144 rfl ?_
              refine y_getR C zCl5 6 flX5_44 rfl rfl rfl dX5_behind_145 ?_
              refine y_getI C zCl3 0 flX5_150 rfl rfl dX5_behind_148 ?_
              exact zZ_iret C hR (Nat.le_refl _) (Nat.le_refl _) dX5_behind_151 rfl (zIs_I (by rw [uR0 (show fBehind I J s n w = 0 by unfold fBehind; rw [if_pos (by omega)]; omega)]; unfold behindN; rw [if_neg (by omega), if_pos hsw]; rfl) (by rw [uI0 (show fBehind I J s n w = 0 by (try simp only [decide_eq_true_eq, decide_eq_false_iff_not, bI] at *); unfold fBehind; (repeat' split) <;> first | rfl | omega | (exfalso; simp_all; done) | (exfalso; simp_all; omega))]; (first | done | rfl)))
            · rw [hsw]
              refine z_tabIn C 152 dX5_behind_104 (by decide) (by decide) (by decide) rfl (by decide) ?_
              refine z_aload_n C 2 rfl dX5_behind_152 rfl ?_
              refine y_getR C zCl5 0 flX5_10 rfl rfl rfl dX5_behind_153 ?_
              refine z_aload_n C 2 rfl dX5_behind_156 rfl ?_
              refine y_getR C zCl5 6 flX5_44 rfl rfl rfl dX5_behind_157 ?_
              refine y_callV1 C oX0_apart iX0_apart eX0_apart lkX5_261 (c_X0_apart isH_1 isS_36 (gH_sp isH_1 isS_36 hg) (gS_of hrun)) rfl (by decide) rfl rfl (by decide) (Nat.le_refl _) (Nat.le_refl _) (Nat.le_of_ble_eq_true rfl) dX5_behind_160 ?_
              exact zZ_iret C hR (Nat.le_refl _) (Nat.le_refl _) dX5_behind_163 rfl (zIs_I (by rw [uR0 (show fBehind I J s n w = 0 by unfold fBehind; rw [if_pos (by omega)]; omega)]; unfold behindN; rw [if_neg (by omega), if_neg (by omega), if_pos hsw]; rfl) (by rw [uI0 (show fBehind I J s n w = 0 by (try simp only [decide_eq_true_eq, decide_eq_false_iff_not, bI] at *); unfold fBehind; (repeat' split) <;> first | rfl | omega | (exfalso; simp_all; done) | (exfalso; simp_all; omega))]; (first | done | rfl)))
            · refine z_tabOut C 164 dX5_behind_104 (by omega) hsw (by decide) ?_
              refine z_iload C 1 rfl dX5_behind_164 ?_
              refine z_if_eq C 184 dX5_behind_166 (by decide) (by omega) (fun h166 => ?_) (fun h166 => ?_)
              · omega
              · exact absurd rfl h166
          · refine z_aload_n C 2 rfl dX5_behind_67 rfl ?_
            refine z_iload C 0 rfl dX5_behind_68 ?_
            refine y_callV1 C oX5_refuse iX5_refuse eX5_refuse lkX5_59 (c_X5_refuse (by first | assumption | omega)) rfl (by decide) rfl rfl (by decide) (Nat.le_refl _) (Nat.le_refl _) (Nat.le_of_ble_eq_true rfl) dX5_behind_70 ?_
            exact zZ_iret C hR (Nat.le_refl _) (Nat.le_refl _) dX5_behind_73 rfl (zIs_I (uRc (show fBehind I J s n w = ft by (try simp only [decide_eq_true_eq, decide_eq_false_iff_not, bI] at *); unfold fBehind; (repeat' split) <;> first | rfl | omega | (exfalso; simp_all; done) | (exfalso; simp_all; omega)) (by omega)).symm (by rw [uIc (show fBehind I J s n w = ft by (try simp only [decide_eq_true_eq, decide_eq_false_iff_not, bI] at *); unfold fBehind; (repeat' split) <;> first | rfl | omega | (exfalso; simp_all; done) | (exfalso; simp_all; omega)) (by omega)]))
        · refine z_aload_n C 1 rfl dX5_behind_47 rfl ?_
          refine z_bipush C dX5_behind_48 (by decide) ?_
          refine y_callV1 C oX5_refuse iX5_refuse eX5_refuse lkX5_59 (c_X5_refuse (by first | assumption | omega)) rfl (by decide) rfl rfl (by decide) (Nat.le_refl _) (Nat.le_refl _) (Nat.le_of_ble_eq_true rfl) dX5_behind_50 ?_
          exact zZ_iret C hR (Nat.le_refl _) (Nat.le_refl _) dX5_behind_53 rfl (zIs_I (uRc (show fBehind I J s n w = -2 by (try simp only [decide_eq_true_eq, decide_eq_false_iff_not, bI] at *); unfold fBehind; (repeat' split) <;> first | rfl | omega | (exfalso; simp_all; done) | (exfalso; simp_all; omega)) (by decide)).symm (by rw [uIc (show fBehind I J s n w = -2 by (try simp only [decide_eq_true_eq, decide_eq_false_iff_not, bI] at *); unfold fBehind; (repeat' split) <;> first | rfl | omega | (exfalso; simp_all; done) | (exfalso; simp_all; omega)) (by decide)]))
  · refine z_iload_n C 3 rfl dX5_behind_6 rfl ?_
    refine z_bipush C dX5_behind_7 (by decide) ?_
    refine z_icmp_ge C 30 dX5_behind_9 (by decide) (by omega) (by omega) (fun h9 => ?_) (fun h9 => ?_)
    · refine z_iconst C dX5_behind_30 ?_
      refine z_istore C [(4, .int (iI 0)), (0, .ref 0), (1, .int (iI s)), (2, .int (iI n)), (3, .int (iI w))] dX5_behind_31 (by decide) rfl ?_
      refine z_iload C 0 rfl dX5_behind_33 ?_
      refine z_if_ne C 54 dX5_behind_35 (by decide) (by omega) (fun h35 => ?_) (fun h35 => ?_)
      · exact absurd rfl h35
      · refine z_iload_n C 4 rfl dX5_behind_38 rfl ?_
        refine z_if_lt C 47 dX5_behind_39 (by decide) (by omega) (fun h39 => ?_) (fun h39 => ?_)
        · refine z_aload_n C 1 rfl dX5_behind_47 rfl ?_
          refine z_bipush C dX5_behind_48 (by decide) ?_
          refine y_callV1 C oX5_refuse iX5_refuse eX5_refuse lkX5_59 (c_X5_refuse (by first | assumption | omega)) rfl (by decide) rfl rfl (by decide) (Nat.le_refl _) (Nat.le_refl _) (Nat.le_of_ble_eq_true rfl) dX5_behind_50 ?_
          exact zZ_iret C hR (Nat.le_refl _) (Nat.le_refl _) dX5_behind_53 rfl (zIs_I (uRc (show fBehind I J s n w = -2 by (try simp only [decide_eq_true_eq, decide_eq_false_iff_not, bI] at *); unfold fBehind; (repeat' split) <;> first | rfl | omega | (exfalso; simp_all; done) | (exfalso; simp_all; omega)) (by decide)).symm (by rw [uIc (show fBehind I J s n w = -2 by (try simp only [decide_eq_true_eq, decide_eq_false_iff_not, bI] at *); unfold fBehind; (repeat' split) <;> first | rfl | omega | (exfalso; simp_all; done) | (exfalso; simp_all; omega)) (by decide)]))
        · refine z_iload_n C 4 rfl dX5_behind_42 rfl ?_
          refine z_iconst C dX5_behind_43 ?_
          refine z_icmp_le C 54 dX5_behind_44 (by decide) (by omega) (by omega) (fun h44 => ?_) (fun h44 => ?_)
          · refine z_aload_n C 1 rfl dX5_behind_54 rfl ?_
            refine z_iload_n C 2 rfl dX5_behind_55 rfl ?_
            refine z_iload_n C 3 rfl dX5_behind_56 rfl ?_
            refine y_callV2 C oX5_faultOfDoable iX5_faultOfDoable eX5_faultOfDoable lkX5_325 (c_X5_faultOfDoable hl hg hq (by first | assumption | omega) (by first | assumption | omega)) rfl (by decide) rfl rfl (by decide) (Nat.le_refl _) (Nat.le_refl _) (Nat.le_of_ble_eq_true rfl) dX5_behind_57 ?_
            refine z_topI C (fun ft eft => ?_)
            refine z_istore C [(5, .int (iI ft)), (4, .int (iI 0)), (0, .ref 0), (1, .int (iI s)), (2, .int (iI n)), (3, .int (iI w))] dX5_behind_60 (by decide) rfl ?_
            refine z_iload C 0 rfl dX5_behind_62 ?_
            have eft : ft = fDone I J s n := eft
            refine z_if_eq C 74 dX5_behind_64 (by decide) (by omega) (fun h64 => ?_) (fun h64 => ?_)
            · obtain ⟨hf0, hcf⟩ := fDone_0 (show fDone I J s n = 0 by omega)
              obtain ⟨f1, f2, f3, f4⟩ := frowN_0 (I := I) (s := s) (n := n) (limit := 40) hf0
              have hrun := gP_run (J := J) (f := (fun k => (J (19 + 2 * s.toNat + 1) k).toInt)) hg (gP_of hq) n.toNat (fun e he => by have := hcf e he; simp only [isCmd, decide_eq_true_eq] at this; show 0 ≤ (J (19 + 2 * s.toNat + 1) e).toInt ∧ _; omega)
              refine z_aload_n C 2 rfl dX5_behind_74 rfl ?_
              refine y_getR C zCl5 6 flX5_44 rfl rfl rfl dX5_behind_75 ?_
              refine z_aload_n C 2 rfl dX5_behind_78 rfl ?_
              refine y_getR C zCl5 0 flX5_10 rfl rfl rfl dX5_behind_79 ?_
              refine y_getR C zCl0 9 flX5_118 rfl rfl rfl dX5_behind_82 ?_
              refine y_callV1 C oX3_setTo iX3_setTo eX3_setTo lkX5_191 (c_X3_setTo isS_36 isS_4) rfl (by decide) rfl rfl (by decide) (Nat.le_refl _) (Nat.le_refl _) (Nat.le_of_ble_eq_true rfl) dX5_behind_85 ?_
              refine z_aload_n C 2 rfl dX5_behind_88 rfl ?_
              refine z_aload_n C 2 rfl dX5_behind_89 rfl ?_
              refine y_getR C zCl5 6 flX5_44 rfl rfl rfl dX5_behind_90 ?_
              refine z_aload_n C 2 rfl dX5_behind_93 rfl ?_
              refine y_getR C zCl5 4 flX5_32 rfl rfl rfl dX5_behind_94 ?_
              refine z_iload_n C 3 rfl dX5_behind_97 rfl ?_
              refine y_aald C s.toNat 10 (by decide) (by omega) rfl (by omega) (by decide) (rt_18 (by omega)) dX5_behind_98 ?_
              refine z_iload_n C 4 rfl dX5_behind_99 rfl ?_
              refine y_callV3 C oX5_takeTold iX5_takeTold eX5_takeTold lkX5_231 (c_X5_takeTold isS_36 (isL_of (by omega)) (gH_sp isH_1 isS_36 hg) (gS_of (gP_of hq)) (by first | assumption | omega) hcf) rfl (by decide) rfl rfl (by decide) (Nat.le_refl _) (Nat.le_refl _) (Nat.le_of_ble_eq_true rfl) dX5_behind_100 ?_
              refine zZ_cast (σ' := zst (zSq I 36 (runS (hv I J 1) (spOf I 4) (fun k => (J (19 + 2 * s.toNat + 1) k).toInt) n.toNat)) J q) (by refine congrArg (fun I' => zst I' J q) ?_; exact zSp_zSp) rfl rfl ?_
              refine z_iload_n C 5 rfl dX5_behind_103 rfl ?_
              rcases (show w = 0 ∨ w = 1 ∨ w = 2 ∨ (w < 0 ∨ 2 < w) by omega) with hsw | hsw | hsw | hsw
              · rw [hsw]
                refine z_tabIn C 132 dX5_behind_104 (by decide) (by decide) (by decide) rfl (by decide) ?_
                refine z_aload_n C 2 rfl dX5_behind_132 rfl ?_
                refine y_getR C zCl5 0 flX5_10 rfl rfl rfl dX5_behind_133 ?_
                refine z_aload_n C 2 rfl dX5_behind_136 rfl ?_
                refine y_getR C zCl5 6 flX5_44 rfl rfl rfl dX5_behind_137 ?_
                refine y_callV1 C oX0_countIn iX0_countIn eX0_countIn lkX5_235 (c_X0_countIn isH_1 isS_36 (gH_sp isH_1 isS_36 hg) (gS_of hrun)) rfl (by decide) rfl rfl (by decide) (Nat.le_refl _) (Nat.le_refl _) (Nat.le_of_ble_eq_true rfl) dX5_behind_140 ?_
                exact zZ_iret C hR (Nat.le_refl _) (Nat.le_refl _) dX5_behind_143 rfl (zIs_I (by rw [uR0 (show fBehind I J s n w = 0 by unfold fBehind; rw [if_pos (by omega)]; omega)]; unfold behindN; rw [if_pos hsw]; rfl) (by rw [uI0 (show fBehind I J s n w = 0 by (try simp only [decide_eq_true_eq, decide_eq_false_iff_not, bI] at *); unfold fBehind; (repeat' split) <;> first | rfl | omega | (exfalso; simp_all; done) | (exfalso; simp_all; omega))]; (first | done | rfl)))
              · rw [hsw]
                refine z_tabIn C 144 dX5_behind_104 (by decide) (by decide) (by decide) rfl (by decide) ?_
                refine z_aload_n C 2 rfl dX5_behind_144 rfl ?_
                refine y_getR C zCl5 6 flX5_44 rfl rfl rfl dX5_behind_145 ?_
                refine y_getI C zCl3 0 flX5_150 rfl rfl dX5_behind_148 ?_
                exact zZ_iret C hR (Nat.le_refl _) (Nat.le_refl _) dX5_behind_151 rfl (zIs_I (by rw [uR0 (show fBehind I J s n w = 0 by unfold fBehind; rw [if_pos (by omega)]; omega)]; unfold behindN; rw [if_neg (by omega), if_pos hsw]; rfl) (by rw [uI0 (show fBehind I J s n w = 0 by (try simp only [decide_eq_true_eq, decide_eq_false_iff_not, bI] at *); unfold fBehind; (repeat' split) <;> first | rfl | omega | (exfalso; simp_all; done) | (exfalso; simp_all; omega))]; (first | done | rfl)))
              · rw [hsw]
                refine z_tabIn C 152 dX5_behind_104 (by decide) (by decide) (by decide) rfl (by decide) ?_
                refine z_aload_n C 2 rfl dX5_behind_152 rfl ?_
                refine y_getR C zCl5 0 flX5_10 rfl rfl rfl dX5_behind_153 ?_
                refine z_aload_n C 2 rfl dX5_behind_156 rfl ?_
                refine y_getR C zCl5 6 flX5_44 rfl rfl rfl dX5_behind_157 ?_
                refine y_callV1 C oX0_apart iX0_apart eX0_apart lkX5_261 (c_X0_apart isH_1 isS_36 (gH_sp isH_1 isS_36 hg) (gS_of hrun)) rfl (by decide) rfl rfl (by decide) (Nat.le_refl _) (Nat.le_refl _) (Nat.le_of_ble_eq_true rfl) dX5_behind_160 ?_
                exact zZ_iret C hR (Nat.le_refl _) (Nat.le_refl _) dX5_behind_163 rfl (zIs_I (by rw [uR0 (show fBehind I J s n w = 0 by unfold fBehind; rw [if_pos (by omega)]; omega)]; unfold behindN; rw [if_neg (by omega), if_neg (by omega), if_pos hsw]; rfl) (by rw [uI0 (show fBehind I J s n w = 0 by (try simp only [decide_eq_true_eq, decide_eq_false_iff_not, bI] at *); unfold fBehind; (repeat' split) <;> first | rfl | omega | (exfalso; simp_all; done) | (exfalso; simp_all; omega))]; (first | done | rfl)))
              · refine z_tabOut C 164 dX5_behind_104 (by omega) hsw (by decide) ?_
                refine z_iload C 1 rfl dX5_behind_164 ?_
                refine z_if_eq C 184 dX5_behind_166 (by decide) (by omega) (fun h166 => ?_) (fun h166 => ?_)
                · omega
                · exact absurd rfl h166
            · refine z_aload_n C 2 rfl dX5_behind_67 rfl ?_
              refine z_iload C 0 rfl dX5_behind_68 ?_
              refine y_callV1 C oX5_refuse iX5_refuse eX5_refuse lkX5_59 (c_X5_refuse (by first | assumption | omega)) rfl (by decide) rfl rfl (by decide) (Nat.le_refl _) (Nat.le_refl _) (Nat.le_of_ble_eq_true rfl) dX5_behind_70 ?_
              exact zZ_iret C hR (Nat.le_refl _) (Nat.le_refl _) dX5_behind_73 rfl (zIs_I (uRc (show fBehind I J s n w = ft by (try simp only [decide_eq_true_eq, decide_eq_false_iff_not, bI] at *); unfold fBehind; (repeat' split) <;> first | rfl | omega | (exfalso; simp_all; done) | (exfalso; simp_all; omega)) (by omega)).symm (by rw [uIc (show fBehind I J s n w = ft by (try simp only [decide_eq_true_eq, decide_eq_false_iff_not, bI] at *); unfold fBehind; (repeat' split) <;> first | rfl | omega | (exfalso; simp_all; done) | (exfalso; simp_all; omega)) (by omega)]))
          · refine z_aload_n C 1 rfl dX5_behind_47 rfl ?_
            refine z_bipush C dX5_behind_48 (by decide) ?_
            refine y_callV1 C oX5_refuse iX5_refuse eX5_refuse lkX5_59 (c_X5_refuse (by first | assumption | omega)) rfl (by decide) rfl rfl (by decide) (Nat.le_refl _) (Nat.le_refl _) (Nat.le_of_ble_eq_true rfl) dX5_behind_50 ?_
            exact zZ_iret C hR (Nat.le_refl _) (Nat.le_refl _) dX5_behind_53 rfl (zIs_I (uRc (show fBehind I J s n w = -2 by (try simp only [decide_eq_true_eq, decide_eq_false_iff_not, bI] at *); unfold fBehind; (repeat' split) <;> first | rfl | omega | (exfalso; simp_all; done) | (exfalso; simp_all; omega)) (by decide)).symm (by rw [uIc (show fBehind I J s n w = -2 by (try simp only [decide_eq_true_eq, decide_eq_false_iff_not, bI] at *); unfold fBehind; (repeat' split) <;> first | rfl | omega | (exfalso; simp_all; done) | (exfalso; simp_all; omega)) (by decide)]))
    · refine z_aload_n C 0 rfl dX5_behind_12 rfl ?_
      refine y_getR C zCl5 0 flX5_10 rfl rfl rfl dX5_behind_13 ?_
      refine z_iload_n C 3 rfl dX5_behind_16 rfl ?_
      refine z_bipush C dX5_behind_17 (by decide) ?_
      refine z_isub C dX5_behind_19 ?_
      refine y_callV1 C oX0_isEwe iX0_isEwe eX0_isEwe lkX5_103 (c_X0_isEwe isH_1 hg (by first | assumption | omega)) rfl (by decide) rfl rfl (by decide) (Nat.le_refl _) (Nat.le_refl _) (Nat.le_of_ble_eq_true rfl) dX5_behind_20 ?_
      refine y_if_eqB C 30 dX5_behind_23 (by decide) (fun h23 => ?_) (fun h23 => ?_)
      · refine z_iconst C dX5_behind_30 ?_
        refine z_istore C [(4, .int (iI 0)), (0, .ref 0), (1, .int (iI s)), (2, .int (iI n)), (3, .int (iI w))] dX5_behind_31 (by decide) rfl ?_
        refine z_iload C 0 rfl dX5_behind_33 ?_
        refine z_if_ne C 54 dX5_behind_35 (by decide) (by omega) (fun h35 => ?_) (fun h35 => ?_)
        · exact absurd rfl h35
        · refine z_iload_n C 4 rfl dX5_behind_38 rfl ?_
          refine z_if_lt C 47 dX5_behind_39 (by decide) (by omega) (fun h39 => ?_) (fun h39 => ?_)
          · refine z_aload_n C 1 rfl dX5_behind_47 rfl ?_
            refine z_bipush C dX5_behind_48 (by decide) ?_
            refine y_callV1 C oX5_refuse iX5_refuse eX5_refuse lkX5_59 (c_X5_refuse (by first | assumption | omega)) rfl (by decide) rfl rfl (by decide) (Nat.le_refl _) (Nat.le_refl _) (Nat.le_of_ble_eq_true rfl) dX5_behind_50 ?_
            exact zZ_iret C hR (Nat.le_refl _) (Nat.le_refl _) dX5_behind_53 rfl (zIs_I (uRc (show fBehind I J s n w = -2 by (try simp only [decide_eq_true_eq, decide_eq_false_iff_not, bI] at *); unfold fBehind; (repeat' split) <;> first | rfl | omega | (exfalso; simp_all; done) | (exfalso; simp_all; omega)) (by decide)).symm (by rw [uIc (show fBehind I J s n w = -2 by (try simp only [decide_eq_true_eq, decide_eq_false_iff_not, bI] at *); unfold fBehind; (repeat' split) <;> first | rfl | omega | (exfalso; simp_all; done) | (exfalso; simp_all; omega)) (by decide)]))
          · refine z_iload_n C 4 rfl dX5_behind_42 rfl ?_
            refine z_iconst C dX5_behind_43 ?_
            refine z_icmp_le C 54 dX5_behind_44 (by decide) (by omega) (by omega) (fun h44 => ?_) (fun h44 => ?_)
            · refine z_aload_n C 1 rfl dX5_behind_54 rfl ?_
              refine z_iload_n C 2 rfl dX5_behind_55 rfl ?_
              refine z_iload_n C 3 rfl dX5_behind_56 rfl ?_
              refine y_callV2 C oX5_faultOfDoable iX5_faultOfDoable eX5_faultOfDoable lkX5_325 (c_X5_faultOfDoable hl hg hq (by first | assumption | omega) (by first | assumption | omega)) rfl (by decide) rfl rfl (by decide) (Nat.le_refl _) (Nat.le_refl _) (Nat.le_of_ble_eq_true rfl) dX5_behind_57 ?_
              refine z_topI C (fun ft eft => ?_)
              refine z_istore C [(5, .int (iI ft)), (4, .int (iI 0)), (0, .ref 0), (1, .int (iI s)), (2, .int (iI n)), (3, .int (iI w))] dX5_behind_60 (by decide) rfl ?_
              refine z_iload C 0 rfl dX5_behind_62 ?_
              have eft : ft = fDone I J s n := eft
              refine z_if_eq C 74 dX5_behind_64 (by decide) (by omega) (fun h64 => ?_) (fun h64 => ?_)
              · obtain ⟨hf0, hcf⟩ := fDone_0 (show fDone I J s n = 0 by omega)
                obtain ⟨f1, f2, f3, f4⟩ := frowN_0 (I := I) (s := s) (n := n) (limit := 40) hf0
                have hrun := gP_run (J := J) (f := (fun k => (J (19 + 2 * s.toNat + 1) k).toInt)) hg (gP_of hq) n.toNat (fun e he => by have := hcf e he; simp only [isCmd, decide_eq_true_eq] at this; show 0 ≤ (J (19 + 2 * s.toNat + 1) e).toInt ∧ _; omega)
                refine z_aload_n C 2 rfl dX5_behind_74 rfl ?_
                refine y_getR C zCl5 6 flX5_44 rfl rfl rfl dX5_behind_75 ?_
                refine z_aload_n C 2 rfl dX5_behind_78 rfl ?_
                refine y_getR C zCl5 0 flX5_10 rfl rfl rfl dX5_behind_79 ?_
                refine y_getR C zCl0 9 flX5_118 rfl rfl rfl dX5_behind_82 ?_
                refine y_callV1 C oX3_setTo iX3_setTo eX3_setTo lkX5_191 (c_X3_setTo isS_36 isS_4) rfl (by decide) rfl rfl (by decide) (Nat.le_refl _) (Nat.le_refl _) (Nat.le_of_ble_eq_true rfl) dX5_behind_85 ?_
                refine z_aload_n C 2 rfl dX5_behind_88 rfl ?_
                refine z_aload_n C 2 rfl dX5_behind_89 rfl ?_
                refine y_getR C zCl5 6 flX5_44 rfl rfl rfl dX5_behind_90 ?_
                refine z_aload_n C 2 rfl dX5_behind_93 rfl ?_
                refine y_getR C zCl5 4 flX5_32 rfl rfl rfl dX5_behind_94 ?_
                refine z_iload_n C 3 rfl dX5_behind_97 rfl ?_
                refine y_aald C s.toNat 10 (by decide) (by omega) rfl (by omega) (by decide) (rt_18 (by omega)) dX5_behind_98 ?_
                refine z_iload_n C 4 rfl dX5_behind_99 rfl ?_
                refine y_callV3 C oX5_takeTold iX5_takeTold eX5_takeTold lkX5_231 (c_X5_takeTold isS_36 (isL_of (by omega)) (gH_sp isH_1 isS_36 hg) (gS_of (gP_of hq)) (by first | assumption | omega) hcf) rfl (by decide) rfl rfl (by decide) (Nat.le_refl _) (Nat.le_refl _) (Nat.le_of_ble_eq_true rfl) dX5_behind_100 ?_
                refine zZ_cast (σ' := zst (zSq I 36 (runS (hv I J 1) (spOf I 4) (fun k => (J (19 + 2 * s.toNat + 1) k).toInt) n.toNat)) J q) (by refine congrArg (fun I' => zst I' J q) ?_; exact zSp_zSp) rfl rfl ?_
                refine z_iload_n C 5 rfl dX5_behind_103 rfl ?_
                rcases (show w = 0 ∨ w = 1 ∨ w = 2 ∨ (w < 0 ∨ 2 < w) by omega) with hsw | hsw | hsw | hsw
                · rw [hsw]
                  refine z_tabIn C 132 dX5_behind_104 (by decide) (by decide) (by decide) rfl (by decide) ?_
                  refine z_aload_n C 2 rfl dX5_behind_132 rfl ?_
                  refine y_getR C zCl5 0 flX5_10 rfl rfl rfl dX5_behind_133 ?_
                  refine z_aload_n C 2 rfl dX5_behind_136 rfl ?_
                  refine y_getR C zCl5 6 flX5_44 rfl rfl rfl dX5_behind_137 ?_
                  refine y_callV1 C oX0_countIn iX0_countIn eX0_countIn lkX5_235 (c_X0_countIn isH_1 isS_36 (gH_sp isH_1 isS_36 hg) (gS_of hrun)) rfl (by decide) rfl rfl (by decide) (Nat.le_refl _) (Nat.le_refl _) (Nat.le_of_ble_eq_true rfl) dX5_behind_140 ?_
                  exact zZ_iret C hR (Nat.le_refl _) (Nat.le_refl _) dX5_behind_143 rfl (zIs_I (by rw [uR0 (show fBehind I J s n w = 0 by unfold fBehind; rw [if_pos (by omega)]; omega)]; unfold behindN; rw [if_pos hsw]; rfl) (by rw [uI0 (show fBehind I J s n w = 0 by (try simp only [decide_eq_true_eq, decide_eq_false_iff_not, bI] at *); unfold fBehind; (repeat' split) <;> first | rfl | omega | (exfalso; simp_all; done) | (exfalso; simp_all; omega))]; (first | done | rfl)))
                · rw [hsw]
                  refine z_tabIn C 144 dX5_behind_104 (by decide) (by decide) (by decide) rfl (by decide) ?_
                  refine z_aload_n C 2 rfl dX5_behind_144 rfl ?_
                  refine y_getR C zCl5 6 flX5_44 rfl rfl rfl dX5_behind_145 ?_
                  refine y_getI C zCl3 0 flX5_150 rfl rfl dX5_behind_148 ?_
                  exact zZ_iret C hR (Nat.le_refl _) (Nat.le_refl _) dX5_behind_151 rfl (zIs_I (by rw [uR0 (show fBehind I J s n w = 0 by unfold fBehind; rw [if_pos (by omega)]; omega)]; unfold behindN; rw [if_neg (by omega), if_pos hsw]; rfl) (by rw [uI0 (show fBehind I J s n w = 0 by (try simp only [decide_eq_true_eq, decide_eq_false_iff_not, bI] at *); unfold fBehind; (repeat' split) <;> first | rfl | omega | (exfalso; simp_all; done) | (exfalso; simp_all; omega))]; (first | done | rfl)))
                · rw [hsw]
                  refine z_tabIn C 152 dX5_behind_104 (by decide) (by decide) (by decide) rfl (by decide) ?_
                  refine z_aload_n C 2 rfl dX5_behind_152 rfl ?_
                  refine y_getR C zCl5 0 flX5_10 rfl rfl rfl dX5_behind_153 ?_
                  refine z_aload_n C 2 rfl dX5_behind_156 rfl ?_
                  refine y_getR C zCl5 6 flX5_44 rfl rfl rfl dX5_behind_157 ?_
                  refine y_callV1 C oX0_apart iX0_apart eX0_apart lkX5_261 (c_X0_apart isH_1 isS_36 (gH_sp isH_1 isS_36 hg) (gS_of hrun)) rfl (by decide) rfl rfl (by decide) (Nat.le_refl _) (Nat.le_refl _) (Nat.le_of_ble_eq_true rfl) dX5_behind_160 ?_
                  exact zZ_iret C hR (Nat.le_refl _) (Nat.le_refl _) dX5_behind_163 rfl (zIs_I (by rw [uR0 (show fBehind I J s n w = 0 by unfold fBehind; rw [if_pos (by omega)]; omega)]; unfold behindN; rw [if_neg (by omega), if_neg (by omega), if_pos hsw]; rfl) (by rw [uI0 (show fBehind I J s n w = 0 by (try simp only [decide_eq_true_eq, decide_eq_false_iff_not, bI] at *); unfold fBehind; (repeat' split) <;> first | rfl | omega | (exfalso; simp_all; done) | (exfalso; simp_all; omega))]; (first | done | rfl)))
                · refine z_tabOut C 164 dX5_behind_104 (by omega) hsw (by decide) ?_
                  refine z_iload C 1 rfl dX5_behind_164 ?_
                  refine z_if_eq C 184 dX5_behind_166 (by decide) (by omega) (fun h166 => ?_) (fun h166 => ?_)
                  · omega
                  · exact absurd rfl h166
              · refine z_aload_n C 2 rfl dX5_behind_67 rfl ?_
                refine z_iload C 0 rfl dX5_behind_68 ?_
                refine y_callV1 C oX5_refuse iX5_refuse eX5_refuse lkX5_59 (c_X5_refuse (by first | assumption | omega)) rfl (by decide) rfl rfl (by decide) (Nat.le_refl _) (Nat.le_refl _) (Nat.le_of_ble_eq_true rfl) dX5_behind_70 ?_
                exact zZ_iret C hR (Nat.le_refl _) (Nat.le_refl _) dX5_behind_73 rfl (zIs_I (uRc (show fBehind I J s n w = ft by (try simp only [decide_eq_true_eq, decide_eq_false_iff_not, bI] at *); unfold fBehind; (repeat' split) <;> first | rfl | omega | (exfalso; simp_all; done) | (exfalso; simp_all; omega)) (by omega)).symm (by rw [uIc (show fBehind I J s n w = ft by (try simp only [decide_eq_true_eq, decide_eq_false_iff_not, bI] at *); unfold fBehind; (repeat' split) <;> first | rfl | omega | (exfalso; simp_all; done) | (exfalso; simp_all; omega)) (by omega)]))
            · refine z_aload_n C 1 rfl dX5_behind_47 rfl ?_
              refine z_bipush C dX5_behind_48 (by decide) ?_
              refine y_callV1 C oX5_refuse iX5_refuse eX5_refuse lkX5_59 (c_X5_refuse (by first | assumption | omega)) rfl (by decide) rfl rfl (by decide) (Nat.le_refl _) (Nat.le_refl _) (Nat.le_of_ble_eq_true rfl) dX5_behind_50 ?_
              exact zZ_iret C hR (Nat.le_refl _) (Nat.le_refl _) dX5_behind_53 rfl (zIs_I (uRc (show fBehind I J s n w = -2 by (try simp only [decide_eq_true_eq, decide_eq_false_iff_not, bI] at *); unfold fBehind; (repeat' split) <;> first | rfl | omega | (exfalso; simp_all; done) | (exfalso; simp_all; omega)) (by decide)).symm (by rw [uIc (show fBehind I J s n w = -2 by (try simp only [decide_eq_true_eq, decide_eq_false_iff_not, bI] at *); unfold fBehind; (repeat' split) <;> first | rfl | omega | (exfalso; simp_all; done) | (exfalso; simp_all; omega)) (by decide)]))
      · have hwe : 0 ≤ w - 10 ∧ w - 10 < I 1 6 := by simpa using h23
        refine z_iconst C dX5_behind_26 ?_
        refine z_goto C 31 dX5_behind_27 (by decide) ?_
        refine z_istore C [(4, .int (iI 1)), (0, .ref 0), (1, .int (iI s)), (2, .int (iI n)), (3, .int (iI w))] dX5_behind_31 (by decide) rfl ?_
        refine z_iload C 0 rfl dX5_behind_33 ?_
        refine z_if_ne C 54 dX5_behind_35 (by decide) (by omega) (fun h35 => ?_) (fun h35 => ?_)
        · refine z_aload_n C 1 rfl dX5_behind_54 rfl ?_
          refine z_iload_n C 2 rfl dX5_behind_55 rfl ?_
          refine z_iload_n C 3 rfl dX5_behind_56 rfl ?_
          refine y_callV2 C oX5_faultOfDoable iX5_faultOfDoable eX5_faultOfDoable lkX5_325 (c_X5_faultOfDoable hl hg hq (by first | assumption | omega) (by first | assumption | omega)) rfl (by decide) rfl rfl (by decide) (Nat.le_refl _) (Nat.le_refl _) (Nat.le_of_ble_eq_true rfl) dX5_behind_57 ?_
          refine z_topI C (fun ft eft => ?_)
          refine z_istore C [(5, .int (iI ft)), (4, .int (iI 1)), (0, .ref 0), (1, .int (iI s)), (2, .int (iI n)), (3, .int (iI w))] dX5_behind_60 (by decide) rfl ?_
          refine z_iload C 0 rfl dX5_behind_62 ?_
          have eft : ft = fDone I J s n := eft
          refine z_if_eq C 74 dX5_behind_64 (by decide) (by omega) (fun h64 => ?_) (fun h64 => ?_)
          · obtain ⟨hf0, hcf⟩ := fDone_0 (show fDone I J s n = 0 by omega)
            obtain ⟨f1, f2, f3, f4⟩ := frowN_0 (I := I) (s := s) (n := n) (limit := 40) hf0
            have hrun := gP_run (J := J) (f := (fun k => (J (19 + 2 * s.toNat + 1) k).toInt)) hg (gP_of hq) n.toNat (fun e he => by have := hcf e he; simp only [isCmd, decide_eq_true_eq] at this; show 0 ≤ (J (19 + 2 * s.toNat + 1) e).toInt ∧ _; omega)
            refine z_aload_n C 2 rfl dX5_behind_74 rfl ?_
            refine y_getR C zCl5 6 flX5_44 rfl rfl rfl dX5_behind_75 ?_
            refine z_aload_n C 2 rfl dX5_behind_78 rfl ?_
            refine y_getR C zCl5 0 flX5_10 rfl rfl rfl dX5_behind_79 ?_
            refine y_getR C zCl0 9 flX5_118 rfl rfl rfl dX5_behind_82 ?_
            refine y_callV1 C oX3_setTo iX3_setTo eX3_setTo lkX5_191 (c_X3_setTo isS_36 isS_4) rfl (by decide) rfl rfl (by decide) (Nat.le_refl _) (Nat.le_refl _) (Nat.le_of_ble_eq_true rfl) dX5_behind_85 ?_
            refine z_aload_n C 2 rfl dX5_behind_88 rfl ?_
            refine z_aload_n C 2 rfl dX5_behind_89 rfl ?_
            refine y_getR C zCl5 6 flX5_44 rfl rfl rfl dX5_behind_90 ?_
            refine z_aload_n C 2 rfl dX5_behind_93 rfl ?_
            refine y_getR C zCl5 4 flX5_32 rfl rfl rfl dX5_behind_94 ?_
            refine z_iload_n C 3 rfl dX5_behind_97 rfl ?_
            refine y_aald C s.toNat 10 (by decide) (by omega) rfl (by omega) (by decide) (rt_18 (by omega)) dX5_behind_98 ?_
            refine z_iload_n C 4 rfl dX5_behind_99 rfl ?_
            refine y_callV3 C oX5_takeTold iX5_takeTold eX5_takeTold lkX5_231 (c_X5_takeTold isS_36 (isL_of (by omega)) (gH_sp isH_1 isS_36 hg) (gS_of (gP_of hq)) (by first | assumption | omega) hcf) rfl (by decide) rfl rfl (by decide) (Nat.le_refl _) (Nat.le_refl _) (Nat.le_of_ble_eq_true rfl) dX5_behind_100 ?_
            refine zZ_cast (σ' := zst (zSq I 36 (runS (hv I J 1) (spOf I 4) (fun k => (J (19 + 2 * s.toNat + 1) k).toInt) n.toNat)) J q) (by refine congrArg (fun I' => zst I' J q) ?_; exact zSp_zSp) rfl rfl ?_
            refine z_iload_n C 5 rfl dX5_behind_103 rfl ?_
            rcases (show w = 0 ∨ w = 1 ∨ w = 2 ∨ (w < 0 ∨ 2 < w) by omega) with hsw | hsw | hsw | hsw
            · rw [hsw]
              refine z_tabIn C 132 dX5_behind_104 (by decide) (by decide) (by decide) rfl (by decide) ?_
              refine z_aload_n C 2 rfl dX5_behind_132 rfl ?_
              refine y_getR C zCl5 0 flX5_10 rfl rfl rfl dX5_behind_133 ?_
              refine z_aload_n C 2 rfl dX5_behind_136 rfl ?_
              refine y_getR C zCl5 6 flX5_44 rfl rfl rfl dX5_behind_137 ?_
              refine y_callV1 C oX0_countIn iX0_countIn eX0_countIn lkX5_235 (c_X0_countIn isH_1 isS_36 (gH_sp isH_1 isS_36 hg) (gS_of hrun)) rfl (by decide) rfl rfl (by decide) (Nat.le_refl _) (Nat.le_refl _) (Nat.le_of_ble_eq_true rfl) dX5_behind_140 ?_
              exact zZ_iret C hR (Nat.le_refl _) (Nat.le_refl _) dX5_behind_143 rfl (zIs_I (by omega) (by rw [uI0 (show fBehind I J s n w = 0 by (try simp only [decide_eq_true_eq, decide_eq_false_iff_not, bI] at *); unfold fBehind; (repeat' split) <;> first | rfl | omega | (exfalso; simp_all; done) | (exfalso; simp_all; omega))]; (first | done | rfl)))
            · rw [hsw]
              refine z_tabIn C 144 dX5_behind_104 (by decide) (by decide) (by decide) rfl (by decide) ?_
              refine z_aload_n C 2 rfl dX5_behind_144 rfl ?_
              refine y_getR C zCl5 6 flX5_44 rfl rfl rfl dX5_behind_145 ?_
              refine y_getI C zCl3 0 flX5_150 rfl rfl dX5_behind_148 ?_
              exact zZ_iret C hR (Nat.le_refl _) (Nat.le_refl _) dX5_behind_151 rfl (zIs_I (by omega) (by rw [uI0 (show fBehind I J s n w = 0 by (try simp only [decide_eq_true_eq, decide_eq_false_iff_not, bI] at *); unfold fBehind; (repeat' split) <;> first | rfl | omega | (exfalso; simp_all; done) | (exfalso; simp_all; omega))]; (first | done | rfl)))
            · rw [hsw]
              refine z_tabIn C 152 dX5_behind_104 (by decide) (by decide) (by decide) rfl (by decide) ?_
              refine z_aload_n C 2 rfl dX5_behind_152 rfl ?_
              refine y_getR C zCl5 0 flX5_10 rfl rfl rfl dX5_behind_153 ?_
              refine z_aload_n C 2 rfl dX5_behind_156 rfl ?_
              refine y_getR C zCl5 6 flX5_44 rfl rfl rfl dX5_behind_157 ?_
              refine y_callV1 C oX0_apart iX0_apart eX0_apart lkX5_261 (c_X0_apart isH_1 isS_36 (gH_sp isH_1 isS_36 hg) (gS_of hrun)) rfl (by decide) rfl rfl (by decide) (Nat.le_refl _) (Nat.le_refl _) (Nat.le_of_ble_eq_true rfl) dX5_behind_160 ?_
              exact zZ_iret C hR (Nat.le_refl _) (Nat.le_refl _) dX5_behind_163 rfl (zIs_I (by omega) (by rw [uI0 (show fBehind I J s n w = 0 by (try simp only [decide_eq_true_eq, decide_eq_false_iff_not, bI] at *); unfold fBehind; (repeat' split) <;> first | rfl | omega | (exfalso; simp_all; done) | (exfalso; simp_all; omega))]; (first | done | rfl)))
            · refine z_tabOut C 164 dX5_behind_104 (by omega) hsw (by decide) ?_
              refine z_iload C 1 rfl dX5_behind_164 ?_
              refine z_if_eq C 184 dX5_behind_166 (by decide) (by omega) (fun h166 => ?_) (fun h166 => ?_)
              · exact absurd h166 (by decide)
              · refine z_aload_n C 2 rfl dX5_behind_169 rfl ?_
                refine y_getR C zCl5 6 flX5_44 rfl rfl rfl dX5_behind_170 ?_
                refine y_getR C zCl3 2 flX5_162 rfl rfl rfl dX5_behind_173 ?_
                refine z_iload_n C 5 rfl dX5_behind_176 rfl ?_
                refine z_bipush C dX5_behind_177 (by decide) ?_
                refine z_isub C dX5_behind_179 ?_
                refine y_iald C (w - 10).toNat (by omega) rfl (by omega) (by decide) dX5_behind_180 ?_
                refine z_goto C 185 dX5_behind_181 (by decide) ?_
                exact zZ_iret C hR (Nat.le_refl _) (Nat.le_refl _) dX5_behind_185 rfl (zIs_I (by rw [uR0 (show fBehind I J s n w = 0 by unfold fBehind; rw [if_pos (by omega)]; omega)]; unfold behindN; rw [if_neg (by omega), if_neg (by omega), if_neg (by omega)]; rfl) (by rw [uI0 (show fBehind I J s n w = 0 by (try simp only [decide_eq_true_eq, decide_eq_false_iff_not, bI] at *); unfold fBehind; (repeat' split) <;> first | rfl | omega | (exfalso; simp_all; done) | (exfalso; simp_all; omega))]; (first | done | rfl)))
          · refine z_aload_n C 2 rfl dX5_behind_67 rfl ?_
            refine z_iload C 0 rfl dX5_behind_68 ?_
            refine y_callV1 C oX5_refuse iX5_refuse eX5_refuse lkX5_59 (c_X5_refuse (by first | assumption | omega)) rfl (by decide) rfl rfl (by decide) (Nat.le_refl _) (Nat.le_refl _) (Nat.le_of_ble_eq_true rfl) dX5_behind_70 ?_
            exact zZ_iret C hR (Nat.le_refl _) (Nat.le_refl _) dX5_behind_73 rfl (zIs_I (uRc (show fBehind I J s n w = ft by (try simp only [decide_eq_true_eq, decide_eq_false_iff_not, bI] at *); unfold fBehind; (repeat' split) <;> first | rfl | omega | (exfalso; simp_all; done) | (exfalso; simp_all; omega)) (by omega)).symm (by rw [uIc (show fBehind I J s n w = ft by (try simp only [decide_eq_true_eq, decide_eq_false_iff_not, bI] at *); unfold fBehind; (repeat' split) <;> first | rfl | omega | (exfalso; simp_all; done) | (exfalso; simp_all; omega)) (by omega)]))
        · exact absurd h35 (by decide)
