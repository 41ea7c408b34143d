set_option maxHeartbeats 4000000 in
set_option maxRecDepth 100000 in
theorem c_X5_seed {g : zG} {I : Nat → Nat → Int} {J : Nat → Nat → Int64} {q : Nat × Nat} {v : Int} (hg : gH I 1) (hq : gS I 4) (hl : gL I) : zRun g mX5_seed 0 [.ref 0, .int (iI v)] (zst I J q) (some (.int (iI (I 1 4)))) (zst (zu I 1 4 v) J q) := by
  refine zRuns_intro rfl (Nat.le_of_ble_eq_true rfl) (fun X C hR => ?_)
  show zZ g X 0 0 _ 0 [(0, .ref 0), (1, .int (iI v))] []
  refine z_aload_n C 0 rfl dX5_seed_0 rfl ?_
  refine y_getR C zCl5 0 flX5_10 rfl rfl rfl dX5_seed_1 ?_
  refine y_getI C zCl0 4 flX5_341 rfl rfl dX5_seed_4 ?_
  refine z_topI C (fun w ew => ?_)
  refine z_istore_n C [(2, .int (iI w)), (0, .ref 0), (1, .int (iI v))] dX5_seed_7 rfl (by decide) rfl ?_
  refine z_aload_n C 1 rfl dX5_seed_8 rfl ?_
  refine y_getR C zCl5 0 flX5_10 rfl rfl rfl dX5_seed_9 ?_
  refine z_iload_n C 2 rfl dX5_seed_12 rfl ?_
  refine y_putI C zCl0 4 flX5_341 rfl rfl rfl rfl dX5_seed_13 ?_
  refine z_iload_n C 0 rfl dX5_seed_16 rfl ?_
  exact zZ_iret C hR (Nat.le_refl _) (Nat.le_refl _) dX5_seed_17 rfl (zIs_I ew rfl)
set_option maxHeartbeats 4000000 in
set_option maxRecDepth 100000 in
theorem c_X5_image {g : zG} {I : Nat → Nat → Int} {J : Nat → Nat → Int64} {q : Nat × Nat}  (hg : gH I 1) (hq : gS I 4) (hl : gL I) : zRun g mX5_image 3 [.ref 0] (zst I J q) (some (.int (iI (1)))) (zst (zu (zHl I 6 1) 0 2 1) (zu J 6 5 (J 1 5)) q) := by
  refine zRuns_intro rfl (Nat.le_of_ble_eq_true rfl) (fun X C hR => ?_)
  show zZ g X 0 0 _ 0 [(0, .ref 0)] []
  refine z_aload_n C 0 rfl dX5_image_0 rfl ?_
  refine y_getR C zCl5 1 flX5_16 rfl rfl rfl dX5_image_1 ?_
  refine z_aload_n C 0 rfl dX5_image_4 rfl ?_
  refine y_getR C zCl5 0 flX5_10 rfl rfl rfl dX5_image_5 ?_
  refine y_callV1 C oX0_setTo iX0_setTo eX0_setTo lkX5_179 (c_X0_setTo isH_6 isH_1 (by decide)) rfl (by decide) rfl rfl (by decide) (Nat.le_refl _) (Nat.le_refl _) (Nat.le_of_ble_eq_true rfl) dX5_image_8 ?_
  refine z_aload_n C 0 rfl dX5_image_11 rfl ?_
  refine z_iconst C dX5_image_12 ?_
  refine y_putZ C zCl5 2 flX5_19 rfl rfl rfl rfl (by decide) dX5_image_13 ?_
  refine z_iconst C dX5_image_16 ?_
  exact zZ_iret C hR (Nat.le_refl _) (Nat.le_refl _) dX5_image_17 rfl (zIs_I rfl rfl)
set_option maxHeartbeats 4000000 in
set_option maxRecDepth 100000 in
theorem c_X5_back {g : zG} {I : Nat → Nat → Int} {J : Nat → Nat → Int64} {q : Nat × Nat}  (hg : gH I 1) (hq : gS I 4) (hl : gL I) (hkg : gH I 6) (hkq : gS I 9) (h02 : I 0 2 = 0 ∨ I 0 2 = 1) : zRun g mX5_back 3 [.ref 0] (zst I J q) (some (.int (iI (if I 0 2 = 0 then -5 else 1)))) (zst (if I 0 2 = 0 then refI I (-5) else dropI (zHl I 1 6) (I 6 6) 8) (if I 0 2 = 0 then J else zu J 1 5 (J 6 5)) q) := by
  obtain ⟨kg1, kg2, kg3, kg4, kg5, kg6⟩ := id hkg
  refine zRuns_intro rfl (Nat.le_of_ble_eq_true rfl) (fun X C hR => ?_)
  show zZ g X 0 0 _ 0 [(0, .ref 0)] []
  refine z_aload_n C 0 rfl dX5_back_0 rfl ?_
  refine y_getI C zCl5 2 flX5_19 rfl rfl dX5_back_1 ?_
  refine z_if_ne C 14 dX5_back_4 (by decide) (by omega) (fun h4 => ?_) (fun h4 => ?_)
  · refine z_aload_n C 0 rfl dX5_back_14 rfl ?_
    refine y_getR C zCl5 0 flX5_10 rfl rfl rfl dX5_back_15 ?_
    refine z_aload_n C 0 rfl dX5_back_18 rfl ?_
    refine y_getR C zCl5 1 flX5_16 rfl rfl rfl dX5_back_19 ?_
    refine y_callV1 C oX0_setTo iX0_setTo eX0_setTo lkX5_179 (c_X0_setTo isH_1 isH_6 (by decide)) rfl (by decide) rfl rfl (by decide) (Nat.le_refl _) (Nat.le_refl _) (Nat.le_of_ble_eq_true rfl) dX5_back_22 ?_
    refine z_iconst C dX5_back_25 ?_
    refine z_istore_n C [(1, .int (iI 0)), (0, .ref 0)] dX5_back_26 rfl (by decide) rfl ?_
    refine zZ_sub [1, 0] rfl ?_
    refine zZ_cast (σ' := (fun e : Nat => zst (dropI (zHl I 1 6) (I 6 6) e) (zu J 1 5 (J 6 5)) q) 0) (L' := (fun e : Nat => [(0, .ref 0), (1, .int (iI (e : Int)))]) 0) rfl rfl rfl ?_
    refine zfor (8) (fun _ => True) (fun e : Nat => zst (dropI (zHl I 1 6) (I 6 6) e) (zu J 1 5 (J 6 5)) q) (fun e : Nat => [(0, .ref 0), (1, .int (iI (e : Int)))]) trivial ?_ ?_
    · intro e hee hpe kke
      have hls := hl e (by omega)
      have u1 : dropI (zHl I 1 6) (I 6 6) e (19 + 2 * e) 0 = I (19 + 2 * e) 0 := (dropI_s e (Nat.le_refl e)).trans (by simp [zHl]; omega)
      have u2 : dropI (zHl I 1 6) (I 6 6) e 1 6 = I 6 6 := dropI_o (by decide) e
      refine z_iload_n C 1 rfl dX5_back_27 rfl ?_
      refine z_bipush C dX5_back_28 (by decide) ?_
      refine z_icmp_ge C 71 dX5_back_30 (by decide) (by omega) (by omega) (fun h30 => ?_) (fun h30 => ?_)
      · omega
      · refine z_aload_n C 0 rfl dX5_back_33 rfl ?_
        refine y_getR C zCl5 4 flX5_32 rfl rfl rfl dX5_back_34 ?_
        refine z_iload_n C 1 rfl dX5_back_37 rfl ?_
        refine y_aald C e 10 (by decide) (by omega) rfl (by omega) (by decide) (rt_18 (by omega)) dX5_back_38 ?_
        refine y_getI C zCl2 0 flX5_79 rfl (lay_l (isL_of (by omega))) dX5_back_39 ?_
        refine z_bipush C dX5_back_42 (by decide) ?_
        refine z_aload_n C 0 rfl dX5_back_44 rfl ?_
        refine y_getR C zCl5 0 flX5_10 rfl rfl rfl dX5_back_45 ?_
        refine y_getI C zCl0 6 flX5_156 rfl rfl dX5_back_48 ?_
        refine z_iadd C dX5_back_51 ?_
        refine z_icmp_lt C 65 dX5_back_52 (by decide) (by omega) (by omega) (fun h52 => ?_) (fun h52 => ?_)
        · obtain ⟨v1, ev1⟩ : ∃ y : Int, y = (e : Int) + 1 := ⟨_, rfl⟩
          refine z_iinc C 1 v1 [(1, .int (iI v1)), (0, .ref 0)] dX5_back_65 rfl ev1.symm (by decide) rfl ?_
          refine z_goto C 27 dX5_back_68 (by decide) ?_
          refine zZ_sub [1, 0] rfl ?_
          refine zZ_cast (by refine congrArg (fun I' => zst I' _ q) ?_; simp only [dropI]; rw [if_neg (show ¬ 10 + I 6 6 ≤ zHl I 1 6 (19 + 2 * e) 0 by rw [show zHl I 1 6 (19 + 2 * e) 0 = I (19 + 2 * e) 0 by simp [zHl]; omega]; omega)]) (zLk (zLc (by omega) rfl)) rfl (kke trivial)
        · refine z_aload_n C 0 rfl dX5_back_55 rfl ?_
          refine y_getR C zCl5 4 flX5_32 rfl rfl rfl dX5_back_56 ?_
          refine z_iload_n C 1 rfl dX5_back_59 rfl ?_
          refine y_aald C e 10 (by decide) (by omega) rfl (by omega) (by decide) (rt_18 (by omega)) dX5_back_60 ?_
          refine z_iconst C dX5_back_61 ?_
          refine y_putI C zCl2 0 flX5_79 rfl rfl rfl (lay_l (isL_of (by omega))) dX5_back_62 ?_
          obtain ⟨v2, ev2⟩ : ∃ y : Int, y = (e : Int) + 1 := ⟨_, rfl⟩
          refine z_iinc C 1 v2 [(1, .int (iI v2)), (0, .ref 0)] dX5_back_65 rfl ev2.symm (by decide) rfl ?_
          refine z_goto C 27 dX5_back_68 (by decide) ?_
          refine zZ_sub [1, 0] rfl ?_
          refine zZ_cast (by refine congrArg (fun I' => zst I' _ q) ?_; simp only [dropI]; rw [if_pos (show 10 + I 6 6 ≤ zHl I 1 6 (19 + 2 * e) 0 by rw [show zHl I 1 6 (19 + 2 * e) 0 = I (19 + 2 * e) 0 by simp [zHl]; omega]; omega)]) (zLk (zLc (by omega) rfl)) rfl (kke trivial)
    · intro hpe
      refine z_iload_n C 1 rfl dX5_back_27 rfl ?_
      refine z_bipush C dX5_back_28 (by decide) ?_
      refine z_icmp_ge C 71 dX5_back_30 (by decide) (by omega) (by omega) (fun h30 => ?_) (fun h30 => ?_)
      · refine z_iconst C dX5_back_71 ?_
        exact zZ_iret C hR (Nat.le_refl _) (Nat.le_refl _) dX5_back_72 rfl (zIs_I (if_neg (by first | assumption | (simpa using h4) | omega)).symm (by rw [if_neg (by first | assumption | (simpa using h4) | omega), if_neg (by first | assumption | (simpa using h4) | omega)]))
      · omega
  · refine z_aload_n C 0 rfl dX5_back_7 rfl ?_
    refine z_bipush C dX5_back_8 (by decide) ?_
    refine y_callV1 C oX5_refuse iX5_refuse eX5_refuse lkX5_59 (c_X5_refuse (by first | assumption | omega)) rfl (by decide) rfl rfl (by decide) (Nat.le_refl _) (Nat.le_refl _) (Nat.le_of_ble_eq_true rfl) dX5_back_10 ?_
    exact zZ_iret C hR (Nat.le_refl _) (Nat.le_refl _) dX5_back_13 rfl (zIs_I (if_pos (by first | assumption | (simpa using h4) | omega)).symm (by rw [if_pos (by first | assumption | (simpa using h4) | omega), if_pos (by first | assumption | (simpa using h4) | omega)]))
set_option maxHeartbeats 4000000 in
set_option maxRecDepth 100000 in
theorem c_X5_judge {g : zG} {I : Nat → Nat → Int} {J : Nat → Nat → Int64} {q : Nat × Nat} {s n : Int} (hg : gH I 1) (hq : gS I 4) (hl : gL I) (hs : -2147483648 ≤ s ∧ s ≤ 2147483647) (hn : -2147483648 ≤ n ∧ n ≤ 2147483647) : zRun g mX5_judge 5 [.ref 0, .int (iI s), .int (iI n)] (zst I J q) (some (.int (iI (uR (fJudge I s n) (wrongN (I 1 0) (J 1 5) (I 1 1) (I 4 0) (J (19 + 2 * s.toNat + 1)) n.toNat))))) (zst (uI I (fJudge I s n) (I)) J q) := by
  have hfc := frowN_c I s n 40
  refine zRuns_intro rfl (Nat.le_of_ble_eq_true rfl) (fun X C hR => ?_)
  show zZ g X 0 0 _ 0 [(0, .ref 0), (1, .int (iI s)), (2, .int (iI n))] []
  refine z_aload_n C 0 rfl dX5_judge_0 rfl ?_
  refine z_iload_n C 1 rfl dX5_judge_1 rfl ?_
  refine z_iload_n C 2 rfl dX5_judge_2 rfl ?_
  refine z_bipush C dX5_judge_3 (by decide) ?_
  refine y_callV3 C oX5_faultOfRow iX5_faultOfRow eX5_faultOfRow lkX5_67 (c_X5_faultOfRow hl (by first | assumption | omega) (by first | assumption | omega) (by first | assumption | omega)) rfl (by decide) rfl rfl (by decide) (Nat.le_refl _) (Nat.le_refl _) (Nat.le_of_ble_eq_true rfl) dX5_judge_5 ?_
  refine z_topI C (fun ft eft => ?_)
  refine z_istore_n C [(3, .int (iI ft)), (0, .ref 0), (1, .int (iI s)), (2, .int (iI n))] dX5_judge_8 rfl (by decide) rfl ?_
  refine z_iload_n C 0 rfl dX5_judge_9 rfl ?_
  refine z_if_eq C 19 dX5_judge_10 (by decide) (by omega) (fun h10 => ?_) (fun h10 => ?_)
  · obtain ⟨f1, f2, f3, f4⟩ := frowN_0 (I := I) (s := s) (n := n) (limit := 40) (by omega)
    refine z_aload_n C 1 rfl dX5_judge_19 rfl ?_
    refine z_aload_n C 1 rfl dX5_judge_20 rfl ?_
    refine y_getR C zCl5 4 flX5_32 rfl rfl rfl dX5_judge_21 ?_
    refine z_iload_n C 2 rfl dX5_judge_24 rfl ?_
    refine y_aald C s.toNat 10 (by decide) (by omega) rfl (by omega) (by decide) (rt_18 (by omega)) dX5_judge_25 ?_
    refine z_iload_n C 3 rfl dX5_judge_26 rfl ?_
    refine y_callV2 C oX5_firstWrong iX5_firstWrong eX5_firstWrong lkX5_321 (c_X5_firstWrong (isL_of (by omega)) hg hq (by first | assumption | omega)) rfl (by decide) rfl rfl (by decide) (Nat.le_refl _) (Nat.le_refl _) (Nat.le_of_ble_eq_true rfl) dX5_judge_27 ?_
    exact zZ_iret C hR (Nat.le_refl _) (Nat.le_refl _) dX5_judge_30 rfl (zIs_I ((rfl).trans (uR0 (show fJudge I s n = 0 by (try simp only [decide_eq_true_eq, decide_eq_false_iff_not, bI] at *); unfold fJudge; (repeat' split) <;> first | rfl | omega | (exfalso; simp_all; done) | (exfalso; simp_all; omega))).symm) (by rw [uI0 (show fJudge I s n = 0 by (try simp only [decide_eq_true_eq, decide_eq_false_iff_not, bI] at *); unfold fJudge; (repeat' split) <;> first | rfl | omega | (exfalso; simp_all; done) | (exfalso; simp_all; omega))]))
  · refine z_aload_n C 1 rfl dX5_judge_13 rfl ?_
    refine z_iload_n C 0 rfl dX5_judge_14 rfl ?_
    refine y_callV1 C oX5_refuse iX5_refuse eX5_refuse lkX5_59 (c_X5_refuse (by first | assumption | omega)) rfl (by decide) rfl rfl (by decide) (Nat.le_refl _) (Nat.le_refl _) (Nat.le_of_ble_eq_true rfl) dX5_judge_15 ?_
    exact zZ_iret C hR (Nat.le_refl _) (Nat.le_refl _) dX5_judge_18 rfl (zIs_I (uRc (show fJudge I s n = ft by (try simp only [decide_eq_true_eq, decide_eq_false_iff_not, bI] at *); unfold fJudge; (repeat' split) <;> first | rfl | omega | (exfalso; simp_all; done) | (exfalso; simp_all; omega)) (by omega)).symm (by rw [uIc (show fJudge I s n = ft by (try simp only [decide_eq_true_eq, decide_eq_false_iff_not, bI] at *); unfold fJudge; (repeat' split) <;> first | rfl | omega | (exfalso; simp_all; done) | (exfalso; simp_all; omega)) (by omega)]))
set_option maxHeartbeats 4000000 in
set_option maxRecDepth 100000 in
theorem c_X5_turn {g : zG} {I : Nat → Nat → Int} {J : Nat → Nat → Int64} {q : Nat × Nat} {c : Int} (hg : gH I 1) (hq : gS I 4) (hl : gL I) (hc : -2147483648 ≤ c ∧ c ≤ 2147483647) : zRun g mX5_turn 6 [.ref 0, .int (iI c)] (zst I J q) (some (.int (iI (uR (fTurn I J c) (inN (hv I J 1) (turnS (hv I J 1) (spOf I 4) c).2.2))))) (zst (uI I (fTurn I J c) (zu (zSq I 4 (turnS (hv I J 1) (spOf I 4) c)) 1 3 (I 1 3 + 1))) J q) := by
  obtain ⟨g1, g2, g3, g4, g5, g6⟩ := id hg
  obtain ⟨k1, k2, k3⟩ := id hq
  refine zRuns_intro rfl (Nat.le_of_ble_eq_true rfl) (fun X C hR => ?_)
  show zZ g X 0 0 _ 0 [(0, .ref 0), (1, .int (iI c))] []
  refine z_iload_n C 1 rfl dX5_turn_0 rfl ?_
  refine z_i2l C ((iI c).toInt64) dX5_turn_1 rfl ?_
  refine y_callS1 C oX5_isCommand sX5_isCommand lkX5_331 c_X5_isCommand (by decide) (Nat.le_refl _) (Nat.le_refl _) (Nat.le_of_ble_eq_true rfl) dX5_turn_2 ?_
  refine y_if_neB C 15 dX5_turn_5 (by decide) (fun h5 => ?_) (fun h5 => ?_)
  · have hcr : 0 ≤ c ∧ c < 5 := by rw [isCmd_i hc] at h5; simpa using h5
    refine z_aload_n C 0 rfl dX5_turn_15 rfl ?_
    refine y_getR C zCl5 0 flX5_10 rfl rfl rfl dX5_turn_16 ?_
    refine z_aload_n C 0 rfl dX5_turn_19 rfl ?_
    refine y_getR C zCl5 0 flX5_10 rfl rfl rfl dX5_turn_20 ?_
    refine y_getR C zCl0 9 flX5_118 rfl rfl rfl dX5_turn_23 ?_
    refine y_getI C zCl3 0 flX5_150 rfl rfl dX5_turn_26 ?_
    refine z_iload_n C 1 rfl dX5_turn_29 rfl ?_
    refine y_callV2 C oX0_canDo iX0_canDo eX0_canDo lkX5_310 (c_X0_canDo isH_1 hg (by first | assumption | omega) (by first | assumption | omega)) rfl (by decide) rfl rfl (by decide) (Nat.le_refl _) (Nat.le_refl _) (Nat.le_of_ble_eq_true rfl) dX5_turn_30 ?_
    refine y_if_neB C 43 dX5_turn_33 (by decide) (fun h33 => ?_) (fun h33 => ?_)
    · have h33 : canN (I 1 0) (J 1 5) (I 1 1) (I 4 0) c = true := h33
      refine z_aload_n C 0 rfl dX5_turn_43 rfl ?_
      refine y_getR C zCl5 0 flX5_10 rfl rfl rfl dX5_turn_44 ?_
      refine z_aload_n C 0 rfl dX5_turn_47 rfl ?_
      refine y_getR C zCl5 0 flX5_10 rfl rfl rfl dX5_turn_48 ?_
      refine y_getR C zCl0 9 flX5_118 rfl rfl rfl dX5_turn_51 ?_
      refine z_iload_n C 1 rfl dX5_turn_54 rfl ?_
      refine y_callV2 C oX0_takeTurn iX0_takeTurn eX0_takeTurn lkX5_211 (c_X0_takeTurn isH_1 isS_4 hg hq (by first | assumption | omega)) rfl (by decide) rfl rfl (by decide) (Nat.le_refl _) (Nat.le_refl _) (Nat.le_of_ble_eq_true rfl) dX5_turn_55 ?_
      refine z_aload_n C 0 rfl dX5_turn_58 rfl ?_
      refine y_getR C zCl5 0 flX5_10 rfl rfl rfl dX5_turn_59 ?_
      refine z_dup C dX5_turn_62 rfl ?_
      refine y_getI C zCl0 3 flX5_328 rfl rfl dX5_turn_63 ?_
      refine z_iconst C dX5_turn_66 ?_
      refine z_iadd C dX5_turn_67 ?_
      refine y_putI C zCl0 3 flX5_328 rfl rfl rfl rfl dX5_turn_68 ?_
      refine z_aload_n C 0 rfl dX5_turn_71 rfl ?_
      refine y_getR C zCl5 0 flX5_10 rfl rfl rfl dX5_turn_72 ?_
      refine z_aload_n C 0 rfl dX5_turn_75 rfl ?_
      refine y_getR C zCl5 0 flX5_10 rfl rfl rfl dX5_turn_76 ?_
      refine y_getR C zCl0 9 flX5_118 rfl rfl rfl dX5_turn_79 ?_
      refine y_callV1 C oX0_countIn iX0_countIn eX0_countIn lkX5_235 (c_X0_countIn isH_1 isS_4 (gH_z3 (gH_sp isH_1 isS_4 hg)) (gS_z1 (gS_of (gP_turn hg (gP_of hq) (by omega))))) rfl (by decide) rfl rfl (by decide) (Nat.le_refl _) (Nat.le_refl _) (Nat.le_of_ble_eq_true rfl) dX5_turn_82 ?_
      exact zZ_iret C hR (Nat.le_refl _) (Nat.le_refl _) dX5_turn_85 rfl (zIs_I ((rfl).trans (uR0 (show fTurn I J c = 0 by (try simp only [decide_eq_true_eq, decide_eq_false_iff_not, bI] at *); unfold fTurn; (repeat' split) <;> first | rfl | omega | (exfalso; simp_all; done) | (exfalso; simp_all; omega))).symm) (by rw [uI0 (show fTurn I J c = 0 by (try simp only [decide_eq_true_eq, decide_eq_false_iff_not, bI] at *); unfold fTurn; (repeat' split) <;> first | rfl | omega | (exfalso; simp_all; done) | (exfalso; simp_all; omega))]; (first | done | rfl)))
    · have h33 : canN (I 1 0) (J 1 5) (I 1 1) (I 4 0) c = false := h33
      refine z_aload_n C 0 rfl dX5_turn_36 rfl ?_
      refine z_bipush C dX5_turn_37 (by decide) ?_
      refine y_callV1 C oX5_refuse iX5_refuse eX5_refuse lkX5_59 (c_X5_refuse (by first | assumption | omega)) rfl (by decide) rfl rfl (by decide) (Nat.le_refl _) (Nat.le_refl _) (Nat.le_of_ble_eq_true rfl) dX5_turn_39 ?_
      exact zZ_iret C hR (Nat.le_refl _) (Nat.le_refl _) dX5_turn_42 rfl (zIs_I (uRc (show fTurn I J c = -5 by (try simp only [decide_eq_true_eq, decide_eq_false_iff_not, bI] at *); unfold fTurn; (repeat' split) <;> first | rfl | omega | (exfalso; simp_all; done) | (exfalso; simp_all; omega)) (by decide)).symm (by rw [uIc (show fTurn I J c = -5 by (try simp only [decide_eq_true_eq, decide_eq_false_iff_not, bI] at *); unfold fTurn; (repeat' split) <;> first | rfl | omega | (exfalso; simp_all; done) | (exfalso; simp_all; omega)) (by decide)]))
  · rw [isCmd_i hc] at h5
    refine z_aload_n C 0 rfl dX5_turn_8 rfl ?_
    refine z_bipush C dX5_turn_9 (by decide) ?_
    refine y_callV1 C oX5_refuse iX5_refuse eX5_refuse lkX5_59 (c_X5_refuse (by first | assumption | omega)) rfl (by decide) rfl rfl (by decide) (Nat.le_refl _) (Nat.le_refl _) (Nat.le_of_ble_eq_true rfl) dX5_turn_11 ?_
    exact zZ_iret C hR (Nat.le_refl _) (Nat.le_refl _) dX5_turn_14 rfl (zIs_I (uRc (show fTurn I J c = -2 by (try simp only [decide_eq_true_eq, decide_eq_false_iff_not, bI] at *); unfold fTurn; (repeat' split) <;> first | rfl | omega | (exfalso; simp_all; done) | (exfalso; simp_all; omega)) (by decide)).symm (by rw [uIc (show fTurn I J c = -2 by (try simp only [decide_eq_true_eq, decide_eq_false_iff_not, bI] at *); unfold fTurn; (repeat' split) <;> first | rfl | omega | (exfalso; simp_all; done) | (exfalso; simp_all; omega)) (by decide)]))
set_option maxHeartbeats 4000000 in
set_option maxRecDepth 100000 in
theorem c_X5_done {g : zG} {I : Nat → Nat → Int} {J : Nat → Nat → Int64} {q : Nat × Nat} {s n : Int} (hg : gH I 1) (hq : gS I 4) (hl : gL I) (hs : -2147483648 ≤ s ∧ s ≤ 2147483647) (hn : -2147483648 ≤ n ∧ n ≤ 2147483647) : zRun g mX5_done 7 [.ref 0, .int (iI s), .int (iI n)] (zst I J q) (some (.int (iI (uR (fDone I J s n) (inN (hv I J 1) (runS (hv I J 1) (spOf I 4) (fun k => (J (19 + 2 * s.toNat + 1) k).toInt) n.toNat).2.2))))) (zst (uI I (fDone I J s n) (zu (zSq I 4 (runS (hv I J 1) (spOf I 4) (fun k => (J (19 + 2 * s.toNat + 1) k).toInt) n.toNat)) 1 3 (I 1 3 + n))) J q) := by
  obtain ⟨g1, g2, g3, g4, g5, g6⟩ := id hg
  obtain ⟨k1, k2, k3⟩ := id hq
  have hfd := fDone_r I J s n
  have hFD : fDone I J s n = if ¬ frowN I s n 40 = 0 then frowN I s n 40 else if wrongN (I 1 0) (J 1 5) (I 1 1) (I 4 0) (J (19 + 2 * s.toNat + 1)) n.toNat = -1 then 0 else -5 := rfl
  refine zRuns_intro rfl (Nat.le_of_ble_eq_true rfl) (fun X C hR => ?_)
  show zZ g X 0 0 _ 0 [(0, .ref 0), (1, .int (iI s)), (2, .int (iI n))] []
  refine z_aload_n C 0 rfl dX5_done_0 rfl ?_
  refine z_iload_n C 1 rfl dX5_done_1 rfl ?_
  refine z_iload_n C 2 rfl dX5_done_2 rfl ?_
  refine y_callV2 C oX5_faultOfDoable iX5_faultOfDoable eX5_faultOfDoable lkX5_325 (c_X5_faultOfDoable hl hg hq (by first | assumption | omega) (by first | assumption | omega)) rfl (by decide) rfl rfl (by decide) (Nat.le_refl _) (Nat.le_refl _) (Nat.le_of_ble_eq_true rfl) dX5_done_3 ?_
  refine z_topI C (fun ft eft => ?_)
  refine z_istore_n C [(3, .int (iI ft)), (0, .ref 0), (1, .int (iI s)), (2, .int (iI n))] dX5_done_6 rfl (by decide) rfl ?_
  have eft : ft = fDone I J s n := eft
  refine z_iload_n C 0 rfl dX5_done_7 rfl ?_
  refine z_if_eq C 17 dX5_done_8 (by decide) (by omega) (fun h8 => ?_) (fun h8 => ?_)
  · obtain ⟨hf0, hcf⟩ := fDone_0 (eft ▸ h8 : fDone I J s n = 0)
    obtain ⟨f1, f2, f3, f4⟩ := frowN_0 (I := I) (s := s) (n := n) (limit := 40) hf0
    have hrun := gP_run (J := J) (f := fun k => (J (19 + 2 * s.toNat + 1) k).toInt) hg (gP_of hq) n.toNat (fun e he => by have := hcf e he; simp only [isCmd, decide_eq_true_eq] at this; show 0 ≤ (J (19 + 2 * s.toNat + 1) e).toInt ∧ _; omega)
    refine z_aload_n C 1 rfl dX5_done_17 rfl ?_
    refine z_aload_n C 1 rfl dX5_done_18 rfl ?_
    refine y_getR C zCl5 0 flX5_10 rfl rfl rfl dX5_done_19 ?_
    refine y_getR C zCl0 9 flX5_118 rfl rfl rfl dX5_done_22 ?_
    refine z_aload_n C 1 rfl dX5_done_25 rfl ?_
    refine y_getR C zCl5 4 flX5_32 rfl rfl rfl dX5_done_26 ?_
    refine z_iload_n C 2 rfl dX5_done_29 rfl ?_
    refine y_aald C s.toNat 10 (by decide) (by omega) rfl (by omega) (by decide) (rt_18 (by omega)) dX5_done_30 ?_
    refine z_iload_n C 3 rfl dX5_done_31 rfl ?_
    refine y_callV3 C oX5_takeTold iX5_takeTold eX5_takeTold lkX5_231 (c_X5_takeTold isS_4 (isL_of (by omega)) hg hq (by first | assumption | omega) hcf) rfl (by decide) rfl rfl (by decide) (Nat.le_refl _) (Nat.le_refl _) (Nat.le_of_ble_eq_true rfl) dX5_done_32 ?_
    refine z_aload_n C 1 rfl dX5_done_35 rfl ?_
    refine y_getR C zCl5 0 flX5_10 rfl rfl rfl dX5_done_36 ?_
    refine z_dup C dX5_done_39 rfl ?_
    refine y_getI C zCl0 3 flX5_328 rfl rfl dX5_done_40 ?_
    refine z_iload_n C 3 rfl dX5_done_43 rfl ?_
    refine z_iadd C dX5_done_44 ?_
    refine y_putI C zCl0 3 flX5_328 rfl rfl rfl rfl dX5_done_45 ?_
    refine z_aload_n C 1 rfl dX5_done_48 rfl ?_
    refine y_getR C zCl5 0 flX5_10 rfl rfl rfl dX5_done_49 ?_
    refine z_aload_n C 1 rfl dX5_done_52 rfl ?_
    refine y_getR C zCl5 0 flX5_10 rfl rfl rfl dX5_done_53 ?_
    refine y_getR C zCl0 9 flX5_118 rfl rfl rfl dX5_done_56 ?_
    refine y_callV1 C oX0_countIn iX0_countIn eX0_countIn lkX5_235 (c_X0_countIn isH_1 isS_4 (gH_z3 (gH_sp isH_1 isS_4 hg)) (gS_z1 (gS_of hrun))) rfl (by decide) rfl rfl (by decide) (Nat.le_refl _) (Nat.le_refl _) (Nat.le_of_ble_eq_true rfl) dX5_done_59 ?_
    exact zZ_iret C hR (Nat.le_refl _) (Nat.le_refl _) dX5_done_62 rfl (zIs_I ((rfl).trans (uR0 (show fDone I J s n = 0 by (try simp only [decide_eq_true_eq, decide_eq_false_iff_not, bI] at *); unfold fDone; (repeat' split) <;> first | rfl | omega | (exfalso; simp_all; done) | (exfalso; simp_all; omega))).symm) (by rw [uI0 (show fDone I J s n = 0 by (try simp only [decide_eq_true_eq, decide_eq_false_iff_not, bI] at *); unfold fDone; (repeat' split) <;> first | rfl | omega | (exfalso; simp_all; done) | (exfalso; simp_all; omega))]; (first | done | rfl)))
  · refine z_aload_n C 1 rfl dX5_done_11 rfl ?_
    refine z_iload_n C 0 rfl dX5_done_12 rfl ?_
    refine y_callV1 C oX5_refuse iX5_refuse eX5_refuse lkX5_59 (c_X5_refuse (by first | assumption | omega)) rfl (by decide) rfl rfl (by decide) (Nat.le_refl _) (Nat.le_refl _) (Nat.le_of_ble_eq_true rfl) dX5_done_13 ?_
    exact zZ_iret C hR (Nat.le_refl _) (Nat.le_refl _) dX5_done_16 rfl (zIs_I (uRc (show fDone I J s n = ft by (try simp only [decide_eq_true_eq, decide_eq_false_iff_not, bI] at *); unfold fDone; (repeat' split) <;> first | rfl | omega | (exfalso; simp_all; done) | (exfalso; simp_all; omega)) (by omega)).symm (by rw [uIc (show fDone I J s n = ft by (try simp only [decide_eq_true_eq, decide_eq_false_iff_not, bI] at *); unfold fDone; (repeat' split) <;> first | rfl | omega | (exfalso; simp_all; done) | (exfalso; simp_all; omega)) (by omega)]))
set_option maxHeartbeats 4000000 in
set_option maxRecDepth 100000 in
theorem c_X5_evening {g : zG} {I : Nat → Nat → Int} {J : Nat → Nat → Int64} {q : Nat × Nat} {n : Int} (hg : gH I 1) (hq : gS I 4) (hl : gL I) (hn : -2147483648 ≤ n ∧ n ≤ 2147483647) : zRun g mX5_evening 7 [.ref 0, .int (iI n)] (zst I J q) (some (.int (iI (uR (fEve n) (inN (hv (eveI I J n.toNat) J 1) (eveI I J n.toNat 5) - inN (hv I J 1) (I 5)))))) (zst (uI I (fEve n) (eveI I J n.toNat)) J q) := by
  obtain ⟨g1, g2, g3, g4, g5, g6⟩ := id hg
  obtain ⟨k1, k2, k3⟩ := id hq
  obtain ⟨hgK9, hqK9⟩ := eve_ok (J := J) hg hq n.toNat
  refine zRuns_intro rfl (Nat.le_of_ble_eq_true rfl) (fun X C hR => ?_)
  show zZ g X 0 0 _ 0 [(0, .ref 0), (1, .int (iI n))] []
  refine z_iload_n C 1 rfl dX5_evening_0 rfl ?_
  refine z_iconst C dX5_evening_1 ?_
  refine z_icmp_lt C 11 dX5_evening_2 (by decide) (by omega) (by omega) (fun h2 => ?_) (fun h2 => ?_)
  · refine z_aload_n C 0 rfl dX5_evening_11 rfl ?_
    refine z_bipush C dX5_evening_12 (by decide) ?_
    refine y_callV1 C oX5_refuse iX5_refuse eX5_refuse lkX5_59 (c_X5_refuse (by first | assumption | omega)) rfl (by decide) rfl rfl (by decide) (Nat.le_refl _) (Nat.le_refl _) (Nat.le_of_ble_eq_true rfl) dX5_evening_14 ?_
    exact zZ_iret C hR (Nat.le_refl _) (Nat.le_refl _) dX5_evening_17 rfl (zIs_I (uRc (show fEve n = -2 by unfold fEve; rw [if_neg (by omega)]) (by decide)).symm (by rw [uIc (show fEve n = -2 by unfold fEve; rw [if_neg (by omega)]) (by decide)]))
  · refine z_iload_n C 1 rfl dX5_evening_5 rfl ?_
    refine z_bipush C dX5_evening_6 (by decide) ?_
    refine z_icmp_le C 18 dX5_evening_8 (by decide) (by omega) (by omega) (fun h8 => ?_) (fun h8 => ?_)
    · refine z_aload_n C 0 rfl dX5_evening_18 rfl ?_
      refine y_getR C zCl5 0 flX5_10 rfl rfl rfl dX5_evening_19 ?_
      refine z_aload_n C 0 rfl dX5_evening_22 rfl ?_
      refine y_getR C zCl5 0 flX5_10 rfl rfl rfl dX5_evening_23 ?_
      refine y_getR C zCl0 9 flX5_118 rfl rfl rfl dX5_evening_26 ?_
      refine y_callV1 C oX0_countIn iX0_countIn eX0_countIn lkX5_235 (c_X0_countIn isH_1 isS_4 hg hq) rfl (by decide) rfl rfl (by decide) (Nat.le_refl _) (Nat.le_refl _) (Nat.le_of_ble_eq_true rfl) dX5_evening_29 ?_
      refine z_topI C (fun w0 ew0 => ?_)
      refine z_istore_n C [(2, .int (iI w0)), (0, .ref 0), (1, .int (iI n))] dX5_evening_32 rfl (by decide) rfl ?_
      refine z_iconst C dX5_evening_33 ?_
      refine z_istore_n C [(3, .int (iI 0)), (2, .int (iI w0)), (0, .ref 0), (1, .int (iI n))] dX5_evening_34 rfl (by decide) rfl ?_
      refine zZ_sub [2, 3, 1, 0] rfl ?_
      refine zZ_cast (σ' := (fun e : Nat => zst (eveI I J e) J q) 0) (L' := (fun e : Nat => [(0, .ref 0), (1, .int (iI n)), (2, .int (iI w0)), (3, .int (iI (e : Int)))]) 0) rfl rfl rfl ?_
      refine zfor (n.toNat) (fun _ => True) (fun e : Nat => zst (eveI I J e) J q) (fun e : Nat => [(0, .ref 0), (1, .int (iI n)), (2, .int (iI w0)), (3, .int (iI (e : Int)))]) trivial ?_ ?_
      · intro e hee hpe kke
        obtain ⟨hgK, hqK⟩ := eve_ok (J := J) hg hq e
        have u1 := ush16_r (seedN (eveI I J e 1 4))
        have u2 := ush16_r (seedN (zu (eveI I J e) 1 4 (seedN (eveI I J e 1 4)) 1 4))
        have u3 : 0 ≤ zu (zu (eveI I J e) 1 4 (seedN (eveI I J e 1 4))) 1 4 (seedN (zu (eveI I J e) 1 4 (seedN (eveI I J e 1 4)) 1 4)) 1 2 ∧ zu (zu (eveI I J e) 1 4 (seedN (eveI I J e 1 4))) 1 4 (seedN (zu (eveI I J e) 1 4 (seedN (eveI I J e 1 4)) 1 4)) 1 2 ≤ 12 := hgK.2.2.1
        have u4 : 0 ≤ zu (zu (eveI I J e) 1 4 (seedN (eveI I J e 1 4))) 1 4 (seedN (zu (eveI I J e) 1 4 (seedN (eveI I J e 1 4)) 1 4)) (1 + 3) 1 ∧ zu (zu (eveI I J e) 1 4 (seedN (eveI I J e 1 4))) 1 4 (seedN (zu (eveI I J e) 1 4 (seedN (eveI I J e 1 4)) 1 4)) (1 + 3) 1 ≤ 4 := hqK.2.1
        refine z_iload_n C 3 rfl dX5_evening_35 rfl ?_
        refine z_iload_n C 1 rfl dX5_evening_36 rfl ?_
        refine z_icmp_ge C 129 dX5_evening_37 (by decide) (by omega) (by omega) (fun h37 => ?_) (fun h37 => ?_)
        · omega
        · refine z_aload_n C 0 rfl dX5_evening_40 rfl ?_
          refine y_getR C zCl5 0 flX5_10 rfl rfl rfl dX5_evening_41 ?_
          refine z_iconst C dX5_evening_44 ?_
          refine y_callV1 C oX0_draw iX0_draw eX0_draw lkX5_335 (c_X0_draw isH_1 (by first | assumption | omega)) rfl (by decide) rfl rfl (by decide) (Nat.le_refl _) (Nat.le_refl _) (Nat.le_of_ble_eq_true rfl) dX5_evening_45 ?_
          refine z_topI C (fun dr edr => ?_)
          refine z_istore C [(4, .int (iI dr)), (0, .ref 0), (1, .int (iI n)), (2, .int (iI w0)), (3, .int (iI ((e : Int))))] dX5_evening_48 (by decide) rfl ?_
          refine z_aload_n C 1 rfl dX5_evening_50 rfl ?_
          refine y_getR C zCl5 0 flX5_10 rfl rfl rfl dX5_evening_51 ?_
          refine z_bipush C dX5_evening_54 (by decide) ?_
          refine y_callV1 C oX0_draw iX0_draw eX0_draw lkX5_335 (c_X0_draw isH_1 (by first | assumption | omega)) rfl (by decide) rfl rfl (by decide) (Nat.le_refl _) (Nat.le_refl _) (Nat.le_of_ble_eq_true rfl) dX5_evening_56 ?_
          refine z_aload_n C 1 rfl dX5_evening_59 rfl ?_
          refine y_getR C zCl5 0 flX5_10 rfl rfl rfl dX5_evening_60 ?_
          refine y_getI C zCl0 2 flX5_165 rfl rfl dX5_evening_63 ?_
          refine z_icmp_lt C 73 dX5_evening_66 (by decide) (by omega) (by omega) (fun h66 => ?_) (fun h66 => ?_)
          · refine z_iconst C dX5_evening_73 ?_
            refine z_istore C [(5, .int (iI 0)), (4, .int (iI dr)), (0, .ref 0), (1, .int (iI n)), (2, .int (iI w0)), (3, .int (iI ((e : Int))))] dX5_evening_74 (by decide) rfl ?_
            refine z_aload_n C 2 rfl dX5_evening_76 rfl ?_
            refine y_getR C zCl5 0 flX5_10 rfl rfl rfl dX5_evening_77 ?_
            refine z_aload_n C 2 rfl dX5_evening_80 rfl ?_
            refine y_getR C zCl5 0 flX5_10 rfl rfl rfl dX5_evening_81 ?_
            refine y_getR C zCl0 9 flX5_118 rfl rfl rfl dX5_evening_84 ?_
            refine z_iload C 0 rfl dX5_evening_87 ?_
            refine z_if_eq C 97 dX5_evening_89 (by decide) (by omega) (fun h89 => ?_) (fun h89 => ?_)
            · refine z_aload_n C 2 rfl dX5_evening_97 rfl ?_
              refine y_getR C zCl5 0 flX5_10 rfl rfl rfl dX5_evening_98 ?_
              refine y_getR C zCl0 9 flX5_118 rfl rfl rfl dX5_evening_101 ?_
              refine y_getI C zCl3 1 flX5_338 rfl rfl dX5_evening_104 ?_
              refine y_callV2 C oX0_takeTurn iX0_takeTurn eX0_takeTurn lkX5_211 (c_X0_takeTurn isH_1 isS_4 (gH_z4 (gH_z4 hgK)) (gS_z1 (gS_z1 hqK)) (by first | assumption | omega)) rfl (by decide) rfl rfl (by decide) (Nat.le_refl _) (Nat.le_refl _) (Nat.le_of_ble_eq_true rfl) dX5_evening_107 ?_
              refine z_aload_n C 2 rfl dX5_evening_110 rfl ?_
              refine y_getR C zCl5 0 flX5_10 rfl rfl rfl dX5_evening_111 ?_
              refine z_dup C dX5_evening_114 rfl ?_
              refine y_getI C zCl0 3 flX5_328 rfl rfl dX5_evening_115 ?_
              refine z_iconst C dX5_evening_118 ?_
              refine z_iadd C dX5_evening_119 ?_
              refine y_putI C zCl0 3 flX5_328 rfl rfl rfl rfl dX5_evening_120 ?_
              obtain ⟨v1, ev1⟩ : ∃ y : Int, y = (e : Int) + 1 := ⟨_, rfl⟩
              refine z_iinc C 5 v1 [(3, .int (iI v1)), (5, .int (iI 0)), (4, .int (iI dr)), (0, .ref 0), (1, .int (iI n)), (2, .int (iI w0))] dX5_evening_123 rfl ev1.symm (by decide) rfl ?_
              refine z_goto C 35 dX5_evening_126 (by decide) ?_
              refine zZ_sub [3, 4, 5, 0] rfl ?_
              refine zZ_cast (by refine congrArg (fun I' => zst I' J q) ?_; simp only [eveI]; rw [show eveC (eveI I J e) = eveI I J e 4 1 from if_pos h66]; rfl) (zLk (zLk (zLk (zLc (by omega) rfl)))) rfl (kke trivial)
            · exact absurd rfl h89
          · refine z_iconst C dX5_evening_69 ?_
            refine z_goto C 74 dX5_evening_70 (by decide) ?_
            refine z_istore C [(5, .int (iI 1)), (4, .int (iI dr)), (0, .ref 0), (1, .int (iI n)), (2, .int (iI w0)), (3, .int (iI ((e : Int))))] dX5_evening_74 (by decide) rfl ?_
            refine z_aload_n C 2 rfl dX5_evening_76 rfl ?_
            refine y_getR C zCl5 0 flX5_10 rfl rfl rfl dX5_evening_77 ?_
            refine z_aload_n C 2 rfl dX5_evening_80 rfl ?_
            refine y_getR C zCl5 0 flX5_10 rfl rfl rfl dX5_evening_81 ?_
            refine y_getR C zCl0 9 flX5_118 rfl rfl rfl dX5_evening_84 ?_
            refine z_iload C 0 rfl dX5_evening_87 ?_
            refine z_if_eq C 97 dX5_evening_89 (by decide) (by omega) (fun h89 => ?_) (fun h89 => ?_)
            · exact absurd h89 (by decide)
            · refine z_iload C 1 rfl dX5_evening_92 ?_
              refine z_goto C 107 dX5_evening_94 (by decide) ?_
              refine y_callV2 C oX0_takeTurn iX0_takeTurn eX0_takeTurn lkX5_211 (c_X0_takeTurn isH_1 isS_4 (gH_z4 (gH_z4 hgK)) (gS_z1 (gS_z1 hqK)) (by first | assumption | omega)) rfl (by decide) rfl rfl (by decide) (Nat.le_refl _) (Nat.le_refl _) (Nat.le_of_ble_eq_true rfl) dX5_evening_107 ?_
              refine z_aload_n C 2 rfl dX5_evening_110 rfl ?_
              refine y_getR C zCl5 0 flX5_10 rfl rfl rfl dX5_evening_111 ?_
              refine z_dup C dX5_evening_114 rfl ?_
              refine y_getI C zCl0 3 flX5_328 rfl rfl dX5_evening_115 ?_
              refine z_iconst C dX5_evening_118 ?_
              refine z_iadd C dX5_evening_119 ?_
              refine y_putI C zCl0 3 flX5_328 rfl rfl rfl rfl dX5_evening_120 ?_
              obtain ⟨v2, ev2⟩ : ∃ y : Int, y = (e : Int) + 1 := ⟨_, rfl⟩
              refine z_iinc C 5 v2 [(3, .int (iI v2)), (5, .int (iI 1)), (4, .int (iI dr)), (0, .ref 0), (1, .int (iI n)), (2, .int (iI w0))] dX5_evening_123 rfl ev2.symm (by decide) rfl ?_
              refine z_goto C 35 dX5_evening_126 (by decide) ?_
              refine zZ_sub [3, 4, 5, 0] rfl ?_
              refine zZ_cast (by refine congrArg (fun I' => zst I' J q) ?_; simp only [eveI]; rw [show eveC (eveI I J e) = dr from (if_neg h66).trans edr.symm]; rfl) (zLk (zLk (zLk (zLc (by omega) rfl)))) rfl (kke trivial)
      · intro hpe
        refine z_iload_n C 3 rfl dX5_evening_35 rfl ?_
        refine z_iload_n C 1 rfl dX5_evening_36 rfl ?_
        refine z_icmp_ge C 129 dX5_evening_37 (by decide) (by omega) (by omega) (fun h37 => ?_) (fun h37 => ?_)
        · refine z_aload_n C 0 rfl dX5_evening_129 rfl ?_
          refine y_getR C zCl5 0 flX5_10 rfl rfl rfl dX5_evening_130 ?_
          refine z_aload_n C 0 rfl dX5_evening_133 rfl ?_
          refine y_getR C zCl5 0 flX5_10 rfl rfl rfl dX5_evening_134 ?_
          refine y_getR C zCl0 9 flX5_118 rfl rfl rfl dX5_evening_137 ?_
          refine y_callV1 C oX0_countIn iX0_countIn eX0_countIn lkX5_235 (c_X0_countIn isH_1 isS_4 hgK9 hqK9) rfl (by decide) rfl rfl (by decide) (Nat.le_refl _) (Nat.le_refl _) (Nat.le_of_ble_eq_true rfl) dX5_evening_140 ?_
          refine z_iload_n C 2 rfl dX5_evening_143 rfl ?_
          refine z_isub C dX5_evening_144 ?_
          exact zZ_iret C hR (Nat.le_refl _) (Nat.le_refl _) dX5_evening_145 rfl (zIs_I (by rw [uR0 (show fEve n = 0 by unfold fEve; rw [if_pos (by omega)]), ew0]) (by rw [uI0 (show fEve n = 0 by unfold fEve; rw [if_pos (by omega)])]))
        · omega
    · refine z_aload_n C 0 rfl dX5_evening_11 rfl ?_
      refine z_bipush C dX5_evening_12 (by decide) ?_
      refine y_callV1 C oX5_refuse iX5_refuse eX5_refuse lkX5_59 (c_X5_refuse (by first | assumption | omega)) rfl (by decide) rfl rfl (by decide) (Nat.le_refl _) (Nat.le_refl _) (Nat.le_of_ble_eq_true rfl) dX5_evening_14 ?_
      exact zZ_iret C hR (Nat.le_refl _) (Nat.le_refl _) dX5_evening_17 rfl (zIs_I (uRc (show fEve n = -2 by unfold fEve; rw [if_neg (by omega)]) (by decide)).symm (by rw [uIc (show fEve n = -2 by unfold fEve; rw [if_neg (by omega)]) (by decide)]))
