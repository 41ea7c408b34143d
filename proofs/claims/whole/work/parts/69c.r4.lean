set_option maxHeartbeats 4000000 in
set_option maxRecDepth 100000 in
theorem c_X6_turn {g : zG} {I : Nat → Nat → Int} {J : Nat → Nat → Int64} {q : Nat × Nat} {c : Int} (hgr : gR I) (hrs : gRS (spR I)) (hrl : gRL I) (hdo : openN (I 58 0) (maskW (I 59)) (I 58 3) = true) (hc : -2147483648 ≤ c ∧ c ≤ 2147483647) : zRun g mX6_turn 6 [.ref 58, .int (iI c)] (zst I J q) (some (.int (iI (uR (fTurn (VI I) (VJ I J) c) (inN (hvR I) (turnS (hvR I) (spR I) c).2.2))))) (zst (uK I (fTurn (VI I) (VJ I J) c) (zu (zRq I (turnS (hvR I) (spR I) c)) 58 10 (I 58 10 + 1))) J q) := by
  obtain ⟨b1, b2, b3, b4, b5, b6, b7⟩ := id hgr
  obtain ⟨k1, k2, k3⟩ := id hrs
  have k1 : gC7 (I 58 3) := k1
  have k2 : 0 ≤ I 58 4 ∧ I 58 4 ≤ 4 := k2
  have k3 : ∀ e, e < 5 → gC7 (I 62 e) := k3
  have k1' := k1.1
  have b2' := b2.1
  have v10 : VI I 1 0 = I 58 0 := congrArg (fun x => x) rfl
  have v11 : VI I 1 1 = I 58 2 := congrArg (fun x => x) rfl
  have v12 : VI I 1 2 = I 58 9 := congrArg (fun x => x) rfl
  have v16 : VI I 1 6 = I 58 5 := congrArg (fun x => x) rfl
  have v40 : VI I 4 0 = I 58 3 := congrArg (fun x => x) rfl
  have v41 : VI I 4 1 = I 58 4 := congrArg (fun x => x) rfl
  have v111 : VI I 11 1 = I 58 12 := congrArg (fun x => x) rfl
  have v13 : VI I 1 3 = I 58 10 := congrArg (fun x => x) rfl
  have v14 : VI I 1 4 = I 58 11 := congrArg (fun x => x) rfl
  refine zRuns_intro rfl (Nat.le_of_ble_eq_true rfl) (fun X C hR => ?_)
  show zZ g X 0 0 _ 0 [(0, .ref 58), (1, .int (iI c))] []
  refine z_iload_n C 1 rfl dX6_turn_0 rfl ?_
  refine z_iconst C dX6_turn_1 ?_
  refine z_iconst C dX6_turn_2 ?_
  refine y_callS3 C oX6_within sX6_within lkX6_75 (c_X6_within (by first | assumption | omega) (by first | assumption | omega) (by first | assumption | omega)) (by decide) (Nat.le_refl _) (Nat.le_refl _) (Nat.le_of_ble_eq_true rfl) dX6_turn_3 ?_
  refine y_if_neB C 16 dX6_turn_6 (by decide) (fun h6 => ?_) (fun h6 => ?_)
  · have hcr : 0 ≤ c ∧ c ≤ 4 := by simpa using h6
    obtain ⟨k, hk⟩ : ∃ k : Nat, c = k := ⟨c.toNat, by omega⟩
    rw [hk]
    have hrt := gRS_turn hgr hrs (c := (k : Int)) (by omega)
    refine z_aload_n C 0 rfl dX6_turn_16 rfl ?_
    refine z_iload_n C 1 rfl dX6_turn_17 rfl ?_
    refine y_callV1 C oX6_can iX6_can eX6_can lkX6_232 (c_X6_can hgr hrs (by first | assumption | omega)) rfl (by decide) rfl rfl (by decide) (Nat.le_refl _) (Nat.le_refl _) (Nat.le_of_ble_eq_true rfl) dX6_turn_18 ?_
    refine y_if_neB C 31 dX6_turn_21 (by decide) (fun h21 => ?_) (fun h21 => ?_)
    · refine z_aload_n C 0 rfl dX6_turn_31 rfl ?_
      refine z_iload_n C 1 rfl dX6_turn_32 rfl ?_
      refine y_callV1 C oX6_goes iX6_goes eX6_goes lkX6_238 (c_X6_goes hgr hrs hdo (by first | assumption | omega)) rfl (by decide) rfl rfl (by decide) (Nat.le_refl _) (Nat.le_refl _) (Nat.le_of_ble_eq_true rfl) dX6_turn_33 ?_
      refine z_aload_n C 0 rfl dX6_turn_36 rfl ?_
      refine z_dup C dX6_turn_37 rfl ?_
      refine y_getI C zCl6 10 flX6_299 rfl rfl dX6_turn_38 ?_
      refine z_top C (I 58 10) (rfl) ?_
      refine z_iconst C dX6_turn_41 ?_
      refine z_iadd C dX6_turn_42 ?_
      refine y_putI C zCl6 10 flX6_299 rfl rfl rfl rfl dX6_turn_43 ?_
      refine z_aload_n C 0 rfl dX6_turn_46 rfl ?_
      refine y_callV0 C oX6_in iX6_in eX6_in lkX6_135 (c_X6_in (gR_t1 (gR_q hgr)) (show gRS (spR (zRq I (turnS (hvR I) (spR I) (k : Int)))) from hrt)) rfl (by decide) rfl rfl (by decide) (Nat.le_refl _) (Nat.le_refl _) (Nat.le_of_ble_eq_true rfl) dX6_turn_47 ?_
      exact zZ_iret C hR (Nat.le_refl _) (Nat.le_refl _) dX6_turn_50 rfl (zIs_I (by rw [uR0 (show fTurn (VI I) (VJ I J) c = 0 by (unfold fTurn; rw [VJ_15, v10, v11, v40, if_neg (by omega), if_neg (by rw [hk, h21]; decide)]))]; rw [hk, show hvR (zu (zRq I (turnS (hvR I) (spR I) (k : Int))) 58 10 (I 58 10 + 1)) = hvR (zRq I (turnS (hvR I) (spR I) (k : Int))) from rfl, hvR_q]; rfl) (by rw [uK0 (show fTurn (VI I) (VJ I J) c = 0 by (unfold fTurn; rw [VJ_15, v10, v11, v40, if_neg (by omega), if_neg (by rw [hk, h21]; decide)]))]; (first | done | rw [hk])))
    · refine z_aload_n C 0 rfl dX6_turn_24 rfl ?_
      refine z_bipush C dX6_turn_25 (by decide) ?_
      refine y_callV1 C oX6_no iX6_no eX6_no lkX6_83 (c_X6_no (by first | assumption | omega)) rfl (by decide) rfl rfl (by decide) (Nat.le_refl _) (Nat.le_refl _) (Nat.le_of_ble_eq_true rfl) dX6_turn_27 ?_
      exact zZ_iret C hR (Nat.le_refl _) (Nat.le_refl _) dX6_turn_30 rfl (zIs_I (uRc (show fTurn (VI I) (VJ I J) c = -5 by (try simp only [decide_eq_true_eq, decide_eq_false_iff_not, bI] at *); (unfold fTurn; simp only [VJ_15, v10, v11, v40]; (try rw [hk]); (repeat' split) <;> first | rfl | omega | (exfalso; simp_all; done) | (exfalso; simp_all; omega))) (by decide)).symm (by rw [uKc (show fTurn (VI I) (VJ I J) c = -5 by (try simp only [decide_eq_true_eq, decide_eq_false_iff_not, bI] at *); (unfold fTurn; simp only [VJ_15, v10, v11, v40]; (try rw [hk]); (repeat' split) <;> first | rfl | omega | (exfalso; simp_all; done) | (exfalso; simp_all; omega))) (by decide)]))
  · refine z_aload_n C 0 rfl dX6_turn_9 rfl ?_
    refine z_bipush C dX6_turn_10 (by decide) ?_
    refine y_callV1 C oX6_no iX6_no eX6_no lkX6_83 (c_X6_no (by first | assumption | omega)) rfl (by decide) rfl rfl (by decide) (Nat.le_refl _) (Nat.le_refl _) (Nat.le_of_ble_eq_true rfl) dX6_turn_12 ?_
    exact zZ_iret C hR (Nat.le_refl _) (Nat.le_refl _) dX6_turn_15 rfl (zIs_I (uRc (show fTurn (VI I) (VJ I J) c = -2 by (try simp only [decide_eq_true_eq, decide_eq_false_iff_not, bI] at *); (unfold fTurn; simp only [VJ_15, v10, v11, v40]; (try rw [hk]); (repeat' split) <;> first | rfl | omega | (exfalso; simp_all; done) | (exfalso; simp_all; omega))) (by decide)).symm (by rw [uKc (show fTurn (VI I) (VJ I J) c = -2 by (try simp only [decide_eq_true_eq, decide_eq_false_iff_not, bI] at *); (unfold fTurn; simp only [VJ_15, v10, v11, v40]; (try rw [hk]); (repeat' split) <;> first | rfl | omega | (exfalso; simp_all; done) | (exfalso; simp_all; omega))) (by decide)]))
set_option maxHeartbeats 4000000 in
set_option maxRecDepth 100000 in
theorem c_X6_saves {g : zG} {I : Nat → Nat → Int} {J : Nat → Nat → Int64} {q : Nat × Nat} {d : Nat} (hd : d ≤ 7) : zRun g mX6_saves 0 [.ref 58, .int (iI ((d : Int)))] (zst I J q) (none) (zst (svI I d (spR I)) J q) := by
  refine zRuns_intro rfl (Nat.le_of_ble_eq_true rfl) (fun X C hR => ?_)
  show zZ g X 0 0 _ 0 [(0, .ref 58), (1, .int (iI ((d : Int))))] []
  refine z_aload_n C 0 rfl dX6_saves_0 rfl ?_
  refine y_getR C zCl6 25 flX6_45 rfl rfl rfl dX6_saves_1 ?_
  refine z_bipush C dX6_saves_4 (by decide) ?_
  refine z_iload_n C 1 rfl dX6_saves_6 rfl ?_
  refine z_imul C dX6_saves_7 ?_
  refine z_aload_n C 0 rfl dX6_saves_8 rfl ?_
  refine y_getI C zCl6 3 flX6_61 rfl rfl dX6_saves_9 ?_
  refine y_iast C (7 * d) (by omega) rfl (by omega) (by decide) dX6_saves_12 ?_
  refine z_aload_n C 0 rfl dX6_saves_13 rfl ?_
  refine y_getR C zCl6 25 flX6_45 rfl rfl rfl dX6_saves_14 ?_
  refine z_bipush C dX6_saves_17 (by decide) ?_
  refine z_iload_n C 1 rfl dX6_saves_19 rfl ?_
  refine z_imul C dX6_saves_20 ?_
  refine z_iconst C dX6_saves_21 ?_
  refine z_iadd C dX6_saves_22 ?_
  refine z_aload_n C 0 rfl dX6_saves_23 rfl ?_
  refine y_getI C zCl6 4 flX6_235 rfl rfl dX6_saves_24 ?_
  refine z_top C (I 58 4) (rfl) ?_
  refine y_iast C (7 * d + 1) (by omega) rfl (by omega) (by decide) dX6_saves_27 ?_
  refine z_iconst C dX6_saves_28 ?_
  refine z_istore_n C [(2, .int (iI 0)), (0, .ref 58), (1, .int (iI ((d : Int))))] dX6_saves_29 rfl (by decide) rfl ?_
  refine zZ_sub [1, 2, 0] rfl ?_
  refine zZ_cast (σ' := (fun e : Nat => zst (svK I d (spR I) e) J q) 0) (L' := (fun e : Nat => [(0, .ref 58), (1, .int (iI ((d : Int)))), (2, .int (iI (e : Int)))]) 0) (congrArg (fun I' => zst I' J q) (svK_0 (p := spR I))) rfl rfl ?_
  refine zfor (5) (fun _ => True) (fun e : Nat => zst (svK I d (spR I) e) J q) (fun e : Nat => [(0, .ref 58), (1, .int (iI ((d : Int)))), (2, .int (iI (e : Int)))]) trivial ?_ ?_
  · intro e hee hpe kke
    refine z_iload_n C 2 rfl dX6_saves_30 rfl ?_
    refine z_iconst C dX6_saves_31 ?_
    refine z_icmp_ge C 60 dX6_saves_32 (by decide) (by omega) (by omega) (fun h32 => ?_) (fun h32 => ?_)
    · omega
    · refine z_aload_n C 0 rfl dX6_saves_35 rfl ?_
      refine y_getR C zCl6 25 flX6_45 rfl rfl rfl dX6_saves_36 ?_
      refine z_bipush C dX6_saves_39 (by decide) ?_
      refine z_iload_n C 1 rfl dX6_saves_41 rfl ?_
      refine z_imul C dX6_saves_42 ?_
      refine z_iconst C dX6_saves_43 ?_
      refine z_iadd C dX6_saves_44 ?_
      refine z_iload_n C 2 rfl dX6_saves_45 rfl ?_
      refine z_iadd C dX6_saves_46 ?_
      refine z_aload_n C 0 rfl dX6_saves_47 rfl ?_
      refine y_getR C zCl6 8 flX6_20 rfl rfl rfl dX6_saves_48 ?_
      refine z_iload_n C 2 rfl dX6_saves_51 rfl ?_
      refine y_iald C e (by omega) rfl (by omega) (by decide) dX6_saves_52 ?_
      refine z_top C (I 62 e) (by rw [svK_n (by decide)]) ?_
      refine y_iast C (7 * d + 2 + e) (by omega) rfl (by omega) (by decide) dX6_saves_53 ?_
      obtain ⟨v1, ev1⟩ : ∃ y : Int, y = (e : Int) + 1 := ⟨_, rfl⟩
      refine z_iinc C 2 v1 [(2, .int (iI v1)), (0, .ref 58), (1, .int (iI ((d : Int))))] dX6_saves_54 rfl ev1.symm (by decide) rfl ?_
      refine z_goto C 30 dX6_saves_57 (by decide) ?_
      refine zZ_sub [1, 2, 0] rfl ?_
      refine zZ_cast (congrArg (fun I' => zst I' J q) (svK_s (p := spR I))) (zLk (zLk (zLc (by omega) rfl))) rfl (kke trivial)
  · intro hpe
    refine z_iload_n C 2 rfl dX6_saves_30 rfl ?_
    refine z_iconst C dX6_saves_31 ?_
    refine z_icmp_ge C 60 dX6_saves_32 (by decide) (by omega) (by omega) (fun h32 => ?_) (fun h32 => ?_)
    · exact zZ_vret C hR (Nat.le_refl _) (Nat.le_refl _) dX6_saves_60 rfl (zIs_V rfl)
    · omega
set_option maxHeartbeats 4000000 in
set_option maxRecDepth 100000 in
theorem c_X6_again {g : zG} {I : Nat → Nat → Int} {J : Nat → Nat → Int64} {q : Nat × Nat} {d : Nat} {p : SP} (hd : d ≤ 7) (hsv : svAt I d p) : zRun g mX6_again 0 [.ref 58, .int (iI ((d : Int)))] (zst I J q) (none) (zst (zRq I p) J q) := by
  refine zRuns_intro rfl (Nat.le_of_ble_eq_true rfl) (fun X C hR => ?_)
  show zZ g X 0 0 _ 0 [(0, .ref 58), (1, .int (iI ((d : Int))))] []
  refine z_aload_n C 0 rfl dX6_again_0 rfl ?_
  refine z_aload_n C 0 rfl dX6_again_1 rfl ?_
  refine y_getR C zCl6 25 flX6_45 rfl rfl rfl dX6_again_2 ?_
  refine z_bipush C dX6_again_5 (by decide) ?_
  refine z_iload_n C 1 rfl dX6_again_7 rfl ?_
  refine z_imul C dX6_again_8 ?_
  refine y_iald C (7 * d) (by omega) rfl (by omega) (by decide) dX6_again_9 ?_
  refine z_top C (p.1) (hsv.1) ?_
  refine y_putI C zCl6 3 flX6_61 rfl rfl rfl rfl dX6_again_10 ?_
  refine z_aload_n C 0 rfl dX6_again_13 rfl ?_
  refine z_aload_n C 0 rfl dX6_again_14 rfl ?_
  refine y_getR C zCl6 25 flX6_45 rfl rfl rfl dX6_again_15 ?_
  refine z_bipush C dX6_again_18 (by decide) ?_
  refine z_iload_n C 1 rfl dX6_again_20 rfl ?_
  refine z_imul C dX6_again_21 ?_
  refine z_iconst C dX6_again_22 ?_
  refine z_iadd C dX6_again_23 ?_
  refine y_iald C (7 * d + 1) (by omega) rfl (by omega) (by decide) dX6_again_24 ?_
  refine z_top C (p.2.1) (by rw [zu_ne (by decide)]; exact hsv.2.1) ?_
  refine y_putI C zCl6 4 flX6_235 rfl rfl rfl rfl dX6_again_25 ?_
  refine z_iconst C dX6_again_28 ?_
  refine z_istore_n C [(2, .int (iI 0)), (0, .ref 58), (1, .int (iI ((d : Int))))] dX6_again_29 rfl (by decide) rfl ?_
  refine zZ_sub [1, 2, 0] rfl ?_
  refine zZ_cast (σ' := (fun e : Nat => zst (zRq I (p.1, p.2.1, cpK (I 62) p.2.2 e)) J q) 0) (L' := (fun e : Nat => [(0, .ref 58), (1, .int (iI ((d : Int)))), (2, .int (iI (e : Int)))]) 0) (by refine congrArg (fun I' => zst I' J q) ?_; rw [zu583, zRq_p4, show cpK (I 62) p.2.2 0 = I 62 from by funext k; unfold cpK; exact if_neg (by omega)]) rfl rfl ?_
  refine zfor (5) (fun _ => True) (fun e : Nat => zst (zRq I (p.1, p.2.1, cpK (I 62) p.2.2 e)) J q) (fun e : Nat => [(0, .ref 58), (1, .int (iI ((d : Int)))), (2, .int (iI (e : Int)))]) trivial ?_ ?_
  · intro e hee hpe kke
    refine z_iload_n C 2 rfl dX6_again_30 rfl ?_
    refine z_iconst C dX6_again_31 ?_
    refine z_icmp_ge C 60 dX6_again_32 (by decide) (by omega) (by omega) (fun h32 => ?_) (fun h32 => ?_)
    · omega
    · refine z_aload_n C 0 rfl dX6_again_35 rfl ?_
      refine y_getR C zCl6 8 flX6_20 rfl rfl rfl dX6_again_36 ?_
      refine z_iload_n C 2 rfl dX6_again_39 rfl ?_
      refine z_aload_n C 0 rfl dX6_again_40 rfl ?_
      refine y_getR C zCl6 25 flX6_45 rfl rfl rfl dX6_again_41 ?_
      refine z_bipush C dX6_again_44 (by decide) ?_
      refine z_iload_n C 1 rfl dX6_again_46 rfl ?_
      refine z_imul C dX6_again_47 ?_
      refine z_iconst C dX6_again_48 ?_
      refine z_iadd C dX6_again_49 ?_
      refine z_iload_n C 2 rfl dX6_again_50 rfl ?_
      refine z_iadd C dX6_again_51 ?_
      refine y_iald C (7 * d + 2 + e) (by omega) rfl (by omega) (by decide) dX6_again_52 ?_
      refine z_top C (p.2.2 e) (by rw [zRq_n (by decide) (by decide)]; exact hsv.2.2 e (by omega)) ?_
      refine y_iast C e (by omega) rfl (by omega) (by decide) dX6_again_53 ?_
      obtain ⟨v1, ev1⟩ : ∃ y : Int, y = (e : Int) + 1 := ⟨_, rfl⟩
      refine z_iinc C 2 v1 [(2, .int (iI v1)), (0, .ref 58), (1, .int (iI ((d : Int))))] dX6_again_54 rfl ev1.symm (by decide) rfl ?_
      refine z_goto C 30 dX6_again_57 (by decide) ?_
      refine zZ_sub [1, 2, 0] rfl ?_
      refine zZ_cast (by refine congrArg (fun I' => zst I' J q) ?_; rw [zRq_pc]; dsimp only; rw [cpK_s]) (zLk (zLk (zLc (by omega) rfl))) rfl (kke trivial)
  · intro hpe
    refine z_iload_n C 2 rfl dX6_again_30 rfl ?_
    refine z_iconst C dX6_again_31 ?_
    refine z_icmp_ge C 60 dX6_again_32 (by decide) (by omega) (by omega) (fun h32 => ?_) (fun h32 => ?_)
    · refine zZ_st (zst_tail (I' := zRq I p) (fun i k kd n hn hk => ?_)) ?_
      · by_cases h : i = 62
        · subst h
          have hn5 : n = 5 := by have h2 : LAY[62]? = some (7, 5) := rfl; rw [h2] at hn; cases hn; rfl
          show cpK (I 62) p.2.2 5 k = p.2.2 k
          unfold cpK
          rw [if_pos (by omega)]
        · simp only [zRq]
          rw [if_neg h, if_neg h]
      exact zZ_vret C hR (Nat.le_refl _) (Nat.le_refl _) dX6_again_60 rfl (zIs_V rfl)
    · omega
