set_option maxHeartbeats 4000000 in
set_option maxRecDepth 100000 in
theorem c_X5_stand {g : zG} {I : Nat → Nat → Int} {J : Nat → Nat → Int64} {q : Nat × Nat}  (hg : gH I 1) (hq : gS I 4) (hl : gL I) : zRuns g mX5_stand 6 0 0 [.ref 0] (zst I J q) (zEx (some (.int (iI ((leastF (fun (c : Nat) => dogsN (I 1 0) (J 1 5) (I 1 1) (c : Int)) (fun (c : Nat) => penN (hv I J 1) (turnS (hv I J 1) ((c : Int), I 4 1, I 5) 0).2.2) 67).1)))) (fun p : SP => zst (zSq I 36 p) J q)) := by
  obtain ⟨g1, g2, g3, g4, g5, g6⟩ := id hg
  obtain ⟨k1, k2, k3⟩ := id hq
  have k3 : ∀ e, e < 5 → 0 ≤ I 5 e ∧ I 5 e ≤ 66 := k3
  obtain ⟨P, hP⟩ : ∃ P : Nat → Bool, P = fun (c : Nat) => dogsN (I 1 0) (J 1 5) (I 1 1) (c : Int) := ⟨_, rfl⟩
  obtain ⟨V, hV⟩ : ∃ V : Nat → Int, V = fun (c : Nat) => penN (hv I J 1) (turnS (hv I J 1) ((c : Int), I 4 1, I 5) 0).2.2 := ⟨_, rfl⟩
  rw [← hP, ← hV]
  refine zRuns_intro rfl (Nat.le_of_ble_eq_true rfl) (fun X C hR => ?_)
  show zZ g X 0 0 _ 0 [(0, .ref 0)] []
  refine z_iconst C dX5_stand_0 ?_
  refine z_istore_n C [(1, .int (iI ((-1)))), (0, .ref 0)] dX5_stand_1 rfl (by decide) rfl ?_
  refine z_iconst C dX5_stand_2 ?_
  refine z_istore_n C [(2, .int (iI 0)), (1, .int (iI ((-1)))), (0, .ref 0)] dX5_stand_3 rfl (by decide) rfl ?_
  refine z_iconst C dX5_stand_4 ?_
  refine z_istore_n C [(3, .int (iI 0)), (2, .int (iI 0)), (1, .int (iI ((-1)))), (0, .ref 0)] dX5_stand_5 rfl (by decide) rfl ?_
  refine zZ_sub [3, 2, 1, 0] rfl ?_
  refine zZ_cast (σ' := (fun (_ : Nat) (p : SP) => zst (zSq I 36 p) J q) 0 (spOf I 36)) (L' := (fun (e : Nat) (p : SP) => [(0, .ref 0), (1, .int (iI (leastF P V e).1)), (2, .int (iI (leastF P V e).2)), (3, .int (iI (e : Int)))]) 0 (spOf I 36)) (congrArg (fun I' => zst I' J q) zSq_self.symm) rfl rfl ?_
  refine zforE (67) (fun _ _ => True) (fun (_ : Nat) (p : SP) => zst (zSq I 36 p) J q) (fun (e : Nat) (p : SP) => [(0, .ref 0), (1, .int (iI (leastF P V e).1)), (2, .int (iI (leastF P V e).2)), (3, .int (iI (e : Int)))]) (spOf I 36) trivial ?_ ?_
  · intro e p hee hpe kke
    have hr := leastF_r (P := P) (v := V) (k := e) (by omega) (fun c hc hPc => by rw [hV]; have hgc : gP (turnS (hv I J 1) ((c : Int), I 4 1, I 5) 0) := (gP_turn (J := J) (c := 0) hg ⟨⟨by omega, by omega⟩, k2, k3⟩ (by decide)); have := penN_b (J := J) hg hgc.2.2; simp only; omega)
    obtain ⟨nr, ls, hnl⟩ : ∃ nr ls, leastF P V e = (nr, ls) := ⟨_, _, rfl⟩
    rw [hnl] at hr ⊢
    simp only at hr
    refine z_iload_n C 3 rfl dX5_stand_6 rfl ?_
    refine z_bipush C dX5_stand_7 (by decide) ?_
    refine z_icmp_ge C 92 dX5_stand_9 (by decide) (by omega) (by omega) (fun h9 => ?_) (fun h9 => ?_)
    · omega
    · refine z_aload_n C 0 rfl dX5_stand_12 rfl ?_
      refine y_getR C zCl5 0 flX5_10 rfl rfl rfl dX5_stand_13 ?_
      refine z_iload_n C 3 rfl dX5_stand_16 rfl ?_
      refine y_callV1 C oX0_mayBeDogs iX0_mayBeDogs eX0_mayBeDogs lkX5_147 (c_X0_mayBeDogs isH_1 (gH_sp isH_1 isS_36 hg) (by first | assumption | omega)) rfl (by decide) rfl rfl (by decide) (Nat.le_refl _) (Nat.le_refl _) (Nat.le_of_ble_eq_true rfl) dX5_stand_17 ?_
      refine y_if_eqB C 86 dX5_stand_20 (by decide) (fun h20 => ?_) (fun h20 => ?_)
      · obtain ⟨v1, ev1⟩ : ∃ y : Int, y = (e : Int) + 1 := ⟨_, rfl⟩
        refine z_iinc C 3 v1 [(3, .int (iI v1)), (0, .ref 0), (1, .int (iI nr)), (2, .int (iI ls))] dX5_stand_86 rfl ev1.symm (by decide) rfl ?_
        refine z_goto C 6 dX5_stand_89 (by decide) ?_
        refine zZ_sub [1, 2, 3, 0] rfl ?_
        refine zZ_cast rfl (zLk (zLc (by simp only [leastF, hnl]; rw [if_neg (by rw [hP]; simp [show dogsN (I 1 0) (J 1 5) (I 1 1) (e : Int) = false from h20])]) (zLc (by simp only [leastF, hnl]; rw [if_neg (by rw [hP]; simp [show dogsN (I 1 0) (J 1 5) (I 1 1) (e : Int) = false from h20])]) (zLc (by omega) rfl)))) rfl (kke p trivial)
      · refine z_aload_n C 0 rfl dX5_stand_23 rfl ?_
        refine y_getR C zCl5 6 flX5_44 rfl rfl rfl dX5_stand_24 ?_
        refine z_aload_n C 0 rfl dX5_stand_27 rfl ?_
        refine y_getR C zCl5 0 flX5_10 rfl rfl rfl dX5_stand_28 ?_
        refine y_getR C zCl0 9 flX5_118 rfl rfl rfl dX5_stand_31 ?_
        refine y_callV1 C oX3_setTo iX3_setTo eX3_setTo lkX5_191 (c_X3_setTo isS_36 isS_4) rfl (by decide) rfl rfl (by decide) (Nat.le_refl _) (Nat.le_refl _) (Nat.le_of_ble_eq_true rfl) dX5_stand_34 ?_
        refine zZ_cast (σ' := zst (zSq I 36 (spOf I 4)) J q) (by refine congrArg (fun I' => zst I' J q) ?_; exact zSp_zSp) rfl rfl ?_
        refine z_aload_n C 0 rfl dX5_stand_37 rfl ?_
        refine y_getR C zCl5 6 flX5_44 rfl rfl rfl dX5_stand_38 ?_
        refine z_iload_n C 3 rfl dX5_stand_41 rfl ?_
        refine y_putI C zCl3 0 flX5_150 rfl rfl rfl rfl dX5_stand_42 ?_
        refine zZ_cast (σ' := zst (zSq I 36 ((e : Int), I 4 1, I 5)) J q) (by refine congrArg (fun I' => zst I' J q) ?_; exact zSp_put0.trans zSp_zSp) rfl rfl ?_
        refine z_aload_n C 0 rfl dX5_stand_45 rfl ?_
        refine y_getR C zCl5 0 flX5_10 rfl rfl rfl dX5_stand_46 ?_
        refine z_aload_n C 0 rfl dX5_stand_49 rfl ?_
        refine y_getR C zCl5 6 flX5_44 rfl rfl rfl dX5_stand_50 ?_
        refine z_iconst C dX5_stand_53 ?_
        refine y_callV2 C oX0_takeTurn iX0_takeTurn eX0_takeTurn lkX5_211 (c_X0_takeTurn isH_1 isS_36 (gH_sp isH_1 isS_36 hg) (gS_of (⟨⟨by omega, by omega⟩, k2, k3⟩ : gP ((e : Int), I 4 1, I 5))) (by first | assumption | omega)) rfl (by decide) rfl rfl (by decide) (Nat.le_refl _) (Nat.le_refl _) (Nat.le_of_ble_eq_true rfl) dX5_stand_54 ?_
        refine zZ_cast (σ' := zst (zSq I 36 (turnS (hv I J 1) ((e : Int), I 4 1, I 5) 0)) J q) (by refine congrArg (fun I' => zst I' J q) ?_; exact zSp_zSp) rfl rfl ?_
        refine z_aload_n C 0 rfl dX5_stand_57 rfl ?_
        refine y_getR C zCl5 0 flX5_10 rfl rfl rfl dX5_stand_58 ?_
        refine z_aload_n C 0 rfl dX5_stand_61 rfl ?_
        refine y_getR C zCl5 6 flX5_44 rfl rfl rfl dX5_stand_62 ?_
        refine y_callV1 C oX0_stepsToPen iX0_stepsToPen eX0_stepsToPen lkX5_215 (c_X0_stepsToPen isH_1 isS_36 (gH_sp isH_1 isS_36 hg) (gS_of (gP_turn (J := J) (c := 0) hg (⟨⟨by omega, by omega⟩, k2, k3⟩ : gP ((e : Int), I 4 1, I 5)) (by decide)))) rfl (by decide) rfl rfl (by decide) (Nat.le_refl _) (Nat.le_refl _) (Nat.le_of_ble_eq_true rfl) dX5_stand_65 ?_
        refine z_topI C (fun aw eaw => ?_)
        refine z_istore C [(4, .int (iI aw)), (0, .ref 0), (1, .int (iI nr)), (2, .int (iI ls)), (3, .int (iI ((e : Int))))] dX5_stand_68 (by decide) rfl ?_
        have eaw : aw = penN (hv I J 1) (turnS (hv I J 1) ((e : Int), I 4 1, I 5) 0).2.2 := eaw
        have haw := penN_b (J := J) hg (gP_turn (J := J) (c := 0) hg (⟨⟨by omega, by omega⟩, k2, k3⟩ : gP ((e : Int), I 4 1, I 5)) (by decide)).2.2
        have hVe : V e = aw := by rw [hV, eaw]
        refine z_iload_n C 2 rfl dX5_stand_70 rfl ?_
        refine z_iconst C dX5_stand_71 ?_
        refine z_icmp_eq C 81 dX5_stand_72 (by decide) (by omega) (by omega) (fun h72 => ?_) (fun h72 => ?_)
        · refine z_iload_n C 4 rfl dX5_stand_81 rfl ?_
          refine z_istore_n C [(1, .int (iI ((e : Int)))), (4, .int (iI aw)), (0, .ref 0), (2, .int (iI ls)), (3, .int (iI ((e : Int))))] dX5_stand_82 rfl (by decide) rfl ?_
          refine z_iload C 1 rfl dX5_stand_83 ?_
          refine z_istore_n C [(2, .int (iI aw)), (1, .int (iI ((e : Int)))), (4, .int (iI aw)), (0, .ref 0), (3, .int (iI ((e : Int))))] dX5_stand_85 rfl (by decide) rfl ?_
          obtain ⟨v2, ev2⟩ : ∃ y : Int, y = (e : Int) + 1 := ⟨_, rfl⟩
          refine z_iinc C 4 v2 [(3, .int (iI v2)), (2, .int (iI aw)), (1, .int (iI ((e : Int)))), (4, .int (iI aw)), (0, .ref 0)] dX5_stand_86 rfl ev2.symm (by decide) rfl ?_
          refine z_goto C 6 dX5_stand_89 (by decide) ?_
          refine zZ_sub [4, 2, 1, 0] rfl ?_
          refine zZ_cast rfl (zLk (zLc (by simp only [leastF, hnl]; rw [if_pos ⟨by rw [hP]; exact h20, by omega⟩] <;> (try simp only) <;> (try omega)) (zLc (by simp only [leastF, hnl]; rw [if_pos ⟨by rw [hP]; exact h20, by omega⟩] <;> (try simp only) <;> (try omega)) (zLc (by omega) rfl)))) rfl (kke (turnS (hv I J 1) ((e : Int), I 4 1, I 5) 0) trivial)
        · refine z_iload C 0 rfl dX5_stand_75 ?_
          refine z_iload_n C 3 rfl dX5_stand_77 rfl ?_
          refine z_icmp_ge C 86 dX5_stand_78 (by decide) (by omega) (by omega) (fun h78 => ?_) (fun h78 => ?_)
          · obtain ⟨v3, ev3⟩ : ∃ y : Int, y = (e : Int) + 1 := ⟨_, rfl⟩
            refine z_iinc C 4 v3 [(3, .int (iI v3)), (4, .int (iI aw)), (0, .ref 0), (1, .int (iI nr)), (2, .int (iI ls))] dX5_stand_86 rfl ev3.symm (by decide) rfl ?_
            refine z_goto C 6 dX5_stand_89 (by decide) ?_
            refine zZ_sub [2, 3, 4, 0] rfl ?_
            refine zZ_cast rfl (zLk (zLc (by simp only [leastF, hnl]; rw [if_neg (by omega)]) (zLc (by simp only [leastF, hnl]; rw [if_neg (by omega)]) (zLc (by omega) rfl)))) rfl (kke (turnS (hv I J 1) ((e : Int), I 4 1, I 5) 0) trivial)
          · refine z_iload_n C 4 rfl dX5_stand_81 rfl ?_
            refine z_istore_n C [(1, .int (iI ((e : Int)))), (4, .int (iI aw)), (0, .ref 0), (2, .int (iI ls)), (3, .int (iI ((e : Int))))] dX5_stand_82 rfl (by decide) rfl ?_
            refine z_iload C 1 rfl dX5_stand_83 ?_
            refine z_istore_n C [(2, .int (iI aw)), (1, .int (iI ((e : Int)))), (4, .int (iI aw)), (0, .ref 0), (3, .int (iI ((e : Int))))] dX5_stand_85 rfl (by decide) rfl ?_
            obtain ⟨v4, ev4⟩ : ∃ y : Int, y = (e : Int) + 1 := ⟨_, rfl⟩
            refine z_iinc C 4 v4 [(3, .int (iI v4)), (2, .int (iI aw)), (1, .int (iI ((e : Int)))), (4, .int (iI aw)), (0, .ref 0)] dX5_stand_86 rfl ev4.symm (by decide) rfl ?_
            refine z_goto C 6 dX5_stand_89 (by decide) ?_
            refine zZ_sub [4, 2, 1, 0] rfl ?_
            refine zZ_cast rfl (zLk (zLc (by simp only [leastF, hnl]; rw [if_pos ⟨by rw [hP]; exact h20, by omega⟩] <;> (try simp only) <;> (try omega)) (zLc (by simp only [leastF, hnl]; rw [if_pos ⟨by rw [hP]; exact h20, by omega⟩] <;> (try simp only) <;> (try omega)) (zLc (by omega) rfl)))) rfl (kke (turnS (hv I J 1) ((e : Int), I 4 1, I 5) 0) trivial)
  · intro p hpe
    refine z_iload_n C 3 rfl dX5_stand_6 rfl ?_
    refine z_bipush C dX5_stand_7 (by decide) ?_
    refine z_icmp_ge C 92 dX5_stand_9 (by decide) (by omega) (by omega) (fun h9 => ?_) (fun h9 => ?_)
    · refine z_iload_n C 1 rfl dX5_stand_92 rfl ?_
      exact zZ_iret C hR (Nat.le_refl _) (Nat.le_refl _) dX5_stand_93 rfl (zEx_I rfl p rfl)
    · omega
set_option maxHeartbeats 4000000 in
set_option maxRecDepth 100000 in
theorem c_X5_best {g : zG} {I : Nat → Nat → Int} {J : Nat → Nat → Int64} {q : Nat × Nat}  (hg : gH I 1) (hq : gS I 4) (hl : gL I) : zRuns g mX5_best 6 0 0 [.ref 0] (zst I J q) (zEx (some (.int (iI ((leastF (fun (c : Nat) => canN (I 1 0) (J 1 5) (I 1 1) (I 4 0) (c : Int)) (fun (c : Nat) => penN (hv I J 1) (turnS (hv I J 1) (spOf I 4) (c : Int)).2.2) 5).1)))) (fun p : SP => zst (zSq I 36 p) J q)) := by
  obtain ⟨g1, g2, g3, g4, g5, g6⟩ := id hg
  obtain ⟨k1, k2, k3⟩ := id hq
  have k3 : ∀ e, e < 5 → 0 ≤ I 5 e ∧ I 5 e ≤ 66 := k3
  obtain ⟨P, hP⟩ : ∃ P : Nat → Bool, P = fun (c : Nat) => canN (I 1 0) (J 1 5) (I 1 1) (I 4 0) (c : Int) := ⟨_, rfl⟩
  obtain ⟨V, hV⟩ : ∃ V : Nat → Int, V = fun (c : Nat) => penN (hv I J 1) (turnS (hv I J 1) (spOf I 4) (c : Int)).2.2 := ⟨_, rfl⟩
  rw [← hP, ← hV]
  refine zRuns_intro rfl (Nat.le_of_ble_eq_true rfl) (fun X C hR => ?_)
  show zZ g X 0 0 _ 0 [(0, .ref 0)] []
  refine z_iconst C dX5_best_0 ?_
  refine z_istore_n C [(1, .int (iI ((-1)))), (0, .ref 0)] dX5_best_1 rfl (by decide) rfl ?_
  refine z_iconst C dX5_best_2 ?_
  refine z_istore_n C [(2, .int (iI 0)), (1, .int (iI ((-1)))), (0, .ref 0)] dX5_best_3 rfl (by decide) rfl ?_
  refine z_iconst C dX5_best_4 ?_
  refine z_istore_n C [(3, .int (iI 0)), (2, .int (iI 0)), (1, .int (iI ((-1)))), (0, .ref 0)] dX5_best_5 rfl (by decide) rfl ?_
  refine zZ_sub [3, 2, 1, 0] rfl ?_
  refine zZ_cast (σ' := (fun (_ : Nat) (p : SP) => zst (zSq I 36 p) J q) 0 (spOf I 36)) (L' := (fun (e : Nat) (p : SP) => [(0, .ref 0), (1, .int (iI (leastF P V e).1)), (2, .int (iI (leastF P V e).2)), (3, .int (iI (e : Int)))]) 0 (spOf I 36)) (congrArg (fun I' => zst I' J q) zSq_self.symm) rfl rfl ?_
  refine zforE (5) (fun _ _ => True) (fun (_ : Nat) (p : SP) => zst (zSq I 36 p) J q) (fun (e : Nat) (p : SP) => [(0, .ref 0), (1, .int (iI (leastF P V e).1)), (2, .int (iI (leastF P V e).2)), (3, .int (iI (e : Int)))]) (spOf I 36) trivial ?_ ?_
  · intro e p hee hpe kke
    have hr := leastF_r (P := P) (v := V) (k := e) (by omega) (fun c hc hPc => by rw [hV]; have hgc : gP (turnS (hv I J 1) (spOf I 4) (c : Int)) := (gP_turn (J := J) (c := (c : Int)) hg (gP_of hq) (by omega)); have := penN_b (J := J) hg hgc.2.2; simp only; omega)
    obtain ⟨nr, ls, hnl⟩ : ∃ nr ls, leastF P V e = (nr, ls) := ⟨_, _, rfl⟩
    rw [hnl] at hr ⊢
    simp only at hr
    have qd : 0 ≤ zSq I 36 p (1 + 3) 0 ∧ zSq I 36 p (1 + 3) 0 ≤ 66 := k1
    refine z_iload_n C 3 rfl dX5_best_6 rfl ?_
    refine z_iconst C dX5_best_7 ?_
    refine z_icmp_ge C 93 dX5_best_8 (by decide) (by omega) (by omega) (fun h8 => ?_) (fun h8 => ?_)
    · omega
    · refine z_aload_n C 0 rfl dX5_best_11 rfl ?_
      refine y_getR C zCl5 0 flX5_10 rfl rfl rfl dX5_best_12 ?_
      refine z_aload_n C 0 rfl dX5_best_15 rfl ?_
      refine y_getR C zCl5 0 flX5_10 rfl rfl rfl dX5_best_16 ?_
      refine y_getR C zCl0 9 flX5_118 rfl rfl rfl dX5_best_19 ?_
      refine y_getI C zCl3 0 flX5_150 rfl rfl dX5_best_22 ?_
      refine z_iload_n C 3 rfl dX5_best_25 rfl ?_
      refine y_callV2 C oX0_canDo iX0_canDo eX0_canDo lkX5_310 (c_X0_canDo isH_1 (gH_sp isH_1 isS_36 hg) (by first | assumption | omega) (by first | assumption | omega)) rfl (by decide) rfl rfl (by decide) (Nat.le_refl _) (Nat.le_refl _) (Nat.le_of_ble_eq_true rfl) dX5_best_26 ?_
      refine y_if_eqB C 87 dX5_best_29 (by decide) (fun h29 => ?_) (fun h29 => ?_)
      · obtain ⟨v1, ev1⟩ : ∃ y : Int, y = (e : Int) + 1 := ⟨_, rfl⟩
        refine z_iinc C 3 v1 [(3, .int (iI v1)), (0, .ref 0), (1, .int (iI nr)), (2, .int (iI ls))] dX5_best_87 rfl ev1.symm (by decide) rfl ?_
        refine z_goto C 6 dX5_best_90 (by decide) ?_
        refine zZ_sub [1, 2, 3, 0] rfl ?_
        refine zZ_cast rfl (zLk (zLc (by simp only [leastF, hnl]; rw [if_neg (by rw [hP]; simp [show canN (I 1 0) (J 1 5) (I 1 1) (I 4 0) (e : Int) = false from h29])]) (zLc (by simp only [leastF, hnl]; rw [if_neg (by rw [hP]; simp [show canN (I 1 0) (J 1 5) (I 1 1) (I 4 0) (e : Int) = false from h29])]) (zLc (by omega) rfl)))) rfl (kke p trivial)
      · refine z_aload_n C 0 rfl dX5_best_32 rfl ?_
        refine y_getR C zCl5 6 flX5_44 rfl rfl rfl dX5_best_33 ?_
        refine z_aload_n C 0 rfl dX5_best_36 rfl ?_
        refine y_getR C zCl5 0 flX5_10 rfl rfl rfl dX5_best_37 ?_
        refine y_getR C zCl0 9 flX5_118 rfl rfl rfl dX5_best_40 ?_
        refine y_callV1 C oX3_setTo iX3_setTo eX3_setTo lkX5_191 (c_X3_setTo isS_36 isS_4) rfl (by decide) rfl rfl (by decide) (Nat.le_refl _) (Nat.le_refl _) (Nat.le_of_ble_eq_true rfl) dX5_best_43 ?_
        refine zZ_cast (σ' := zst (zSq I 36 (spOf I 4)) J q) (by refine congrArg (fun I' => zst I' J q) ?_; exact zSp_zSp) rfl rfl ?_
        refine z_aload_n C 0 rfl dX5_best_46 rfl ?_
        refine y_getR C zCl5 0 flX5_10 rfl rfl rfl dX5_best_47 ?_
        refine z_aload_n C 0 rfl dX5_best_50 rfl ?_
        refine y_getR C zCl5 6 flX5_44 rfl rfl rfl dX5_best_51 ?_
        refine z_iload_n C 3 rfl dX5_best_54 rfl ?_
        refine y_callV2 C oX0_takeTurn iX0_takeTurn eX0_takeTurn lkX5_211 (c_X0_takeTurn isH_1 isS_36 (gH_sp isH_1 isS_36 hg) (gS_of (gP_of hq)) (by first | assumption | omega)) rfl (by decide) rfl rfl (by decide) (Nat.le_refl _) (Nat.le_refl _) (Nat.le_of_ble_eq_true rfl) dX5_best_55 ?_
        refine zZ_cast (σ' := zst (zSq I 36 (turnS (hv I J 1) (spOf I 4) (e : Int))) J q) (by refine congrArg (fun I' => zst I' J q) ?_; exact zSp_zSp) rfl rfl ?_
        refine z_aload_n C 0 rfl dX5_best_58 rfl ?_
        refine y_getR C zCl5 0 flX5_10 rfl rfl rfl dX5_best_59 ?_
        refine z_aload_n C 0 rfl dX5_best_62 rfl ?_
        refine y_getR C zCl5 6 flX5_44 rfl rfl rfl dX5_best_63 ?_
        refine y_callV1 C oX0_stepsToPen iX0_stepsToPen eX0_stepsToPen lkX5_215 (c_X0_stepsToPen isH_1 isS_36 (gH_sp isH_1 isS_36 hg) (gS_of (gP_turn (J := J) (c := (e : Int)) hg (gP_of hq) (by omega)))) rfl (by decide) rfl rfl (by decide) (Nat.le_refl _) (Nat.le_refl _) (Nat.le_of_ble_eq_true rfl) dX5_best_66 ?_
        refine z_topI C (fun aw eaw => ?_)
        refine z_istore C [(4, .int (iI aw)), (0, .ref 0), (1, .int (iI nr)), (2, .int (iI ls)), (3, .int (iI ((e : Int))))] dX5_best_69 (by decide) rfl ?_
        have eaw : aw = penN (hv I J 1) (turnS (hv I J 1) (spOf I 4) (e : Int)).2.2 := eaw
        have haw := penN_b (J := J) hg (gP_turn (J := J) (c := (e : Int)) hg (gP_of hq) (by omega)).2.2
        have hVe : V e = aw := by rw [hV, eaw]
        refine z_iload_n C 2 rfl dX5_best_71 rfl ?_
        refine z_iconst C dX5_best_72 ?_
        refine z_icmp_eq C 82 dX5_best_73 (by decide) (by omega) (by omega) (fun h73 => ?_) (fun h73 => ?_)
        · refine z_iload_n C 4 rfl dX5_best_82 rfl ?_
          refine z_istore_n C [(1, .int (iI ((e : Int)))), (4, .int (iI aw)), (0, .ref 0), (2, .int (iI ls)), (3, .int (iI ((e : Int))))] dX5_best_83 rfl (by decide) rfl ?_
          refine z_iload C 1 rfl dX5_best_84 ?_
          refine z_istore_n C [(2, .int (iI aw)), (1, .int (iI ((e : Int)))), (4, .int (iI aw)), (0, .ref 0), (3, .int (iI ((e : Int))))] dX5_best_86 rfl (by decide) rfl ?_
          obtain ⟨v2, ev2⟩ : ∃ y : Int, y = (e : Int) + 1 := ⟨_, rfl⟩
          refine z_iinc C 4 v2 [(3, .int (iI v2)), (2, .int (iI aw)), (1, .int (iI ((e : Int)))), (4, .int (iI aw)), (0, .ref 0)] dX5_best_87 rfl ev2.symm (by decide) rfl ?_
          refine z_goto C 6 dX5_best_90 (by decide) ?_
          refine zZ_sub [4, 2, 1, 0] rfl ?_
          refine zZ_cast rfl (zLk (zLc (by simp only [leastF, hnl]; rw [if_pos ⟨by rw [hP]; exact h29, by omega⟩] <;> (try simp only) <;> (try omega)) (zLc (by simp only [leastF, hnl]; rw [if_pos ⟨by rw [hP]; exact h29, by omega⟩] <;> (try simp only) <;> (try omega)) (zLc (by omega) rfl)))) rfl (kke (turnS (hv I J 1) (spOf I 4) (e : Int)) trivial)
        · refine z_iload C 0 rfl dX5_best_76 ?_
          refine z_iload_n C 3 rfl dX5_best_78 rfl ?_
          refine z_icmp_ge C 87 dX5_best_79 (by decide) (by omega) (by omega) (fun h79 => ?_) (fun h79 => ?_)
          · obtain ⟨v3, ev3⟩ : ∃ y : Int, y = (e : Int) + 1 := ⟨_, rfl⟩
            refine z_iinc C 4 v3 [(3, .int (iI v3)), (4, .int (iI aw)), (0, .ref 0), (1, .int (iI nr)), (2, .int (iI ls))] dX5_best_87 rfl ev3.symm (by decide) rfl ?_
            refine z_goto C 6 dX5_best_90 (by decide) ?_
            refine zZ_sub [2, 3, 4, 0] rfl ?_
            refine zZ_cast rfl (zLk (zLc (by simp only [leastF, hnl]; rw [if_neg (by omega)]) (zLc (by simp only [leastF, hnl]; rw [if_neg (by omega)]) (zLc (by omega) rfl)))) rfl (kke (turnS (hv I J 1) (spOf I 4) (e : Int)) trivial)
          · refine z_iload_n C 4 rfl dX5_best_82 rfl ?_
            refine z_istore_n C [(1, .int (iI ((e : Int)))), (4, .int (iI aw)), (0, .ref 0), (2, .int (iI ls)), (3, .int (iI ((e : Int))))] dX5_best_83 rfl (by decide) rfl ?_
            refine z_iload C 1 rfl dX5_best_84 ?_
            refine z_istore_n C [(2, .int (iI aw)), (1, .int (iI ((e : Int)))), (4, .int (iI aw)), (0, .ref 0), (3, .int (iI ((e : Int))))] dX5_best_86 rfl (by decide) rfl ?_
            obtain ⟨v4, ev4⟩ : ∃ y : Int, y = (e : Int) + 1 := ⟨_, rfl⟩
            refine z_iinc C 4 v4 [(3, .int (iI v4)), (2, .int (iI aw)), (1, .int (iI ((e : Int)))), (4, .int (iI aw)), (0, .ref 0)] dX5_best_87 rfl ev4.symm (by decide) rfl ?_
            refine z_goto C 6 dX5_best_90 (by decide) ?_
            refine zZ_sub [4, 2, 1, 0] rfl ?_
            refine zZ_cast rfl (zLk (zLc (by simp only [leastF, hnl]; rw [if_pos ⟨by rw [hP]; exact h29, by omega⟩] <;> (try simp only) <;> (try omega)) (zLc (by simp only [leastF, hnl]; rw [if_pos ⟨by rw [hP]; exact h29, by omega⟩] <;> (try simp only) <;> (try omega)) (zLc (by omega) rfl)))) rfl (kke (turnS (hv I J 1) (spOf I 4) (e : Int)) trivial)
  · intro p hpe
    refine z_iload_n C 3 rfl dX5_best_6 rfl ?_
    refine z_iconst C dX5_best_7 ?_
    refine z_icmp_ge C 93 dX5_best_8 (by decide) (by omega) (by omega) (fun h8 => ?_) (fun h8 => ?_)
    · refine z_iload_n C 1 rfl dX5_best_93 rfl ?_
      exact zZ_iret C hR (Nat.le_refl _) (Nat.le_refl _) dX5_best_94 rfl (zEx_I rfl p rfl)
    · omega
set_option maxHeartbeats 4000000 in
set_option maxRecDepth 100000 in
theorem c_X5_late {g : zG} {I : Nat → Nat → Int} {J : Nat → Nat → Int64} {q : Nat × Nat} {s n l : Int} (hg : gH I 1) (hq : gS I 4) (hl : gL I) (hs : -2147483648 ≤ s ∧ s ≤ 2147483647) (hn : -2147483648 ≤ n ∧ n ≤ 2147483647) (hlr : -2147483648 ≤ l ∧ l ≤ 2147483647) : zRun g mX5_late 7 [.ref 0, .int (iI s), .int (iI n), .int (iI l)] (zst I J q) (some (.int (iI (uR (fLate I J s n l) (inN (hv I J 1) (runS (hv I J 1) (runS (hv I J 1) (spOf I 4) (fun _ => 0) l.toNat) (fun k => (J (19 + 2 * s.toNat + 1) k).toInt) n.toNat).2.2))))) (zst (uI I (fLate I J s n l) (zSq I 36 (runS (hv I J 1) (runS (hv I J 1) (spOf I 4) (fun _ => 0) l.toNat) (fun k => (J (19 + 2 * s.toNat + 1) k).toInt) n.toNat))) J q) := by
  obtain ⟨g1, g2, g3, g4, g5, g6⟩ := id hg
  obtain ⟨k1, k2, k3⟩ := id hq
  have k3 : ∀ e, e < 5 → 0 ≤ I 5 e ∧ I 5 e ≤ 66 := k3
  have hfc := fcomN_c I J s n 40
  have hrl := fun k : Nat => gP_run (J := J) (f := fun _ => 0) hg (gP_of hq) k (fun e he => by simp)
  refine zRuns_intro rfl (Nat.le_of_ble_eq_true rfl) (fun X C hR => ?_)
  show zZ g X 0 0 _ 0 [(0, .ref 0), (1, .int (iI s)), (2, .int (iI n)), (3, .int (iI l))] []
  refine z_iload_n C 3 rfl dX5_late_0 rfl ?_
  refine z_if_lt C 9 dX5_late_1 (by decide) (by omega) (fun h1 => ?_) (fun h1 => ?_)
  · refine z_aload_n C 0 rfl dX5_late_9 rfl ?_
    refine z_bipush C dX5_late_10 (by decide) ?_
    refine y_callV1 C oX5_refuse iX5_refuse eX5_refuse lkX5_59 (c_X5_refuse (by first | assumption | omega)) rfl (by decide) rfl rfl (by decide) (Nat.le_refl _) (Nat.le_refl _) (Nat.le_of_ble_eq_true rfl) dX5_late_12 ?_
    exact zZ_iret C hR (Nat.le_refl _) (Nat.le_refl _) dX5_late_15 rfl (zIs_I (uRc (show fLate I J s n l = -2 by (try simp only [decide_eq_true_eq, decide_eq_false_iff_not, bI] at *); unfold fLate; (repeat' split) <;> first | rfl | omega | (exfalso; simp_all; done) | (exfalso; simp_all; omega)) (by decide)).symm (by rw [uIc (show fLate I J s n l = -2 by (try simp only [decide_eq_true_eq, decide_eq_false_iff_not, bI] at *); unfold fLate; (repeat' split) <;> first | rfl | omega | (exfalso; simp_all; done) | (exfalso; simp_all; omega)) (by decide)]))
  · refine z_iload_n C 3 rfl dX5_late_4 rfl ?_
    refine z_iconst C dX5_late_5 ?_
    refine z_icmp_le C 16 dX5_late_6 (by decide) (by omega) (by omega) (fun h6 => ?_) (fun h6 => ?_)
    · refine z_aload_n C 0 rfl dX5_late_16 rfl ?_
      refine z_iload_n C 1 rfl dX5_late_17 rfl ?_
      refine z_iload_n C 2 rfl dX5_late_18 rfl ?_
      refine z_bipush C dX5_late_19 (by decide) ?_
      refine y_callV3 C oX5_faultOfCommands iX5_faultOfCommands eX5_faultOfCommands lkX5_228 (c_X5_faultOfCommands hl (by first | assumption | omega) (by first | assumption | omega) (by first | assumption | omega)) rfl (by decide) rfl rfl (by decide) (Nat.le_refl _) (Nat.le_refl _) (Nat.le_of_ble_eq_true rfl) dX5_late_21 ?_
      refine z_topI C (fun ft eft => ?_)
      refine z_istore C [(4, .int (iI ft)), (0, .ref 0), (1, .int (iI s)), (2, .int (iI n)), (3, .int (iI l))] dX5_late_24 (by decide) rfl ?_
      refine z_iload C 0 rfl dX5_late_26 ?_
      refine z_if_eq C 38 dX5_late_28 (by decide) (by omega) (fun h28 => ?_) (fun h28 => ?_)
      · obtain ⟨hf0, hcf⟩ := fcomN_0 (show fcomN I J s n 40 = 0 by omega)
        obtain ⟨f1, f2, f3, f4⟩ := frowN_0 (I := I) (s := s) (n := n) (limit := 40) hf0
        have hrun := gP_run (J := J) (f := (fun k => (J (19 + 2 * s.toNat + 1) k).toInt)) hg (hrl l.toNat) n.toNat (fun e he => by have := hcf e he; simp only [isCmd, decide_eq_true_eq] at this; show 0 ≤ (J (19 + 2 * s.toNat + 1) e).toInt ∧ _; omega)
        refine z_aload_n C 1 rfl dX5_late_38 rfl ?_
        refine y_getR C zCl5 6 flX5_44 rfl rfl rfl dX5_late_39 ?_
        refine z_aload_n C 1 rfl dX5_late_42 rfl ?_
        refine y_getR C zCl5 0 flX5_10 rfl rfl rfl dX5_late_43 ?_
        refine y_getR C zCl0 9 flX5_118 rfl rfl rfl dX5_late_46 ?_
        refine y_callV1 C oX3_setTo iX3_setTo eX3_setTo lkX5_191 (c_X3_setTo isS_36 isS_4) rfl (by decide) rfl rfl (by decide) (Nat.le_refl _) (Nat.le_refl _) (Nat.le_of_ble_eq_true rfl) dX5_late_49 ?_
        refine z_iconst C dX5_late_52 ?_
        refine z_istore C [(5, .int (iI 0)), (4, .int (iI ft)), (0, .ref 0), (1, .int (iI s)), (2, .int (iI n)), (3, .int (iI l))] dX5_late_53 (by decide) rfl ?_
        refine zZ_sub [2, 3, 4, 5, 1, 0] rfl ?_
        refine zZ_cast (σ' := (fun e : Nat => zst (zSq I 36 (runS (hv I J 1) (spOf I 4) (fun _ => 0) e)) J q) 0) (L' := (fun e : Nat => [(0, .ref 0), (1, .int (iI s)), (2, .int (iI n)), (3, .int (iI l)), (4, .int (iI ft)), (5, .int (iI (e : Int)))]) 0) rfl rfl rfl ?_
        refine zfor (l.toNat) (fun _ => True) (fun e : Nat => zst (zSq I 36 (runS (hv I J 1) (spOf I 4) (fun _ => 0) e)) J q) (fun e : Nat => [(0, .ref 0), (1, .int (iI s)), (2, .int (iI n)), (3, .int (iI l)), (4, .int (iI ft)), (5, .int (iI (e : Int)))]) trivial ?_ ?_
        · intro e hee hpe kke
          refine z_iload C 5 rfl dX5_late_55 ?_
          refine z_iload_n C 3 rfl dX5_late_57 rfl ?_
          refine z_icmp_ge C 79 dX5_late_58 (by decide) (by omega) (by omega) (fun h58 => ?_) (fun h58 => ?_)
          · omega
          · refine z_aload_n C 0 rfl dX5_late_61 rfl ?_
            refine y_getR C zCl5 0 flX5_10 rfl rfl rfl dX5_late_62 ?_
            refine z_aload_n C 0 rfl dX5_late_65 rfl ?_
            refine y_getR C zCl5 6 flX5_44 rfl rfl rfl dX5_late_66 ?_
            refine z_iconst C dX5_late_69 ?_
            refine y_callV2 C oX0_takeTurn iX0_takeTurn eX0_takeTurn lkX5_211 (c_X0_takeTurn isH_1 isS_36 (gH_sp isH_1 isS_36 hg) (gS_of (hrl e)) (by first | assumption | omega)) rfl (by decide) rfl rfl (by decide) (Nat.le_refl _) (Nat.le_refl _) (Nat.le_of_ble_eq_true rfl) dX5_late_70 ?_
            obtain ⟨v1, ev1⟩ : ∃ y : Int, y = (e : Int) + 1 := ⟨_, rfl⟩
            refine z_iinc C 5 v1 [(5, .int (iI v1)), (0, .ref 0), (1, .int (iI s)), (2, .int (iI n)), (3, .int (iI l)), (4, .int (iI ft))] dX5_late_73 rfl ev1.symm (by decide) rfl ?_
            refine z_goto C 55 dX5_late_76 (by decide) ?_
            refine zZ_sub [1, 2, 3, 4, 5, 0] rfl ?_
            refine zZ_cast (by refine congrArg (fun I' => zst I' J q) ?_; exact zSp_zSp) (zLk (zLk (zLk (zLk (zLk (zLc (by omega) rfl)))))) rfl (kke trivial)
        · intro hpe
          refine z_iload C 5 rfl dX5_late_55 ?_
          refine z_iload_n C 3 rfl dX5_late_57 rfl ?_
          refine z_icmp_ge C 79 dX5_late_58 (by decide) (by omega) (by omega) (fun h58 => ?_) (fun h58 => ?_)
          · refine z_aload_n C 0 rfl dX5_late_79 rfl ?_
            refine z_aload_n C 0 rfl dX5_late_80 rfl ?_
            refine y_getR C zCl5 6 flX5_44 rfl rfl rfl dX5_late_81 ?_
            refine z_aload_n C 0 rfl dX5_late_84 rfl ?_
            refine y_getR C zCl5 4 flX5_32 rfl rfl rfl dX5_late_85 ?_
            refine z_iload_n C 1 rfl dX5_late_88 rfl ?_
            refine y_aald C s.toNat 10 (by decide) (by omega) rfl (by omega) (by decide) (rt_18 (by omega)) dX5_late_89 ?_
            refine z_iload_n C 2 rfl dX5_late_90 rfl ?_
            refine y_callV3 C oX5_takeTold iX5_takeTold eX5_takeTold lkX5_231 (c_X5_takeTold isS_36 (isL_of (by omega)) (gH_sp isH_1 isS_36 hg) (gS_of (hrl l.toNat)) (by first | assumption | omega) hcf) rfl (by decide) rfl rfl (by decide) (Nat.le_refl _) (Nat.le_refl _) (Nat.le_of_ble_eq_true rfl) dX5_late_91 ?_
            refine zZ_cast (σ' := zst (zSq I 36 (runS (hv I J 1) (runS (hv I J 1) (spOf I 4) (fun _ => 0) l.toNat) (fun k => (J (19 + 2 * s.toNat + 1) k).toInt) n.toNat)) J q) (by refine congrArg (fun I' => zst I' J q) ?_; exact zSp_zSp) rfl rfl ?_
            refine z_aload_n C 0 rfl dX5_late_94 rfl ?_
            refine y_getR C zCl5 0 flX5_10 rfl rfl rfl dX5_late_95 ?_
            refine z_aload_n C 0 rfl dX5_late_98 rfl ?_
            refine y_getR C zCl5 6 flX5_44 rfl rfl rfl dX5_late_99 ?_
            refine y_callV1 C oX0_countIn iX0_countIn eX0_countIn lkX5_235 (c_X0_countIn isH_1 isS_36 (gH_sp isH_1 isS_36 hg) (gS_of hrun)) rfl (by decide) rfl rfl (by decide) (Nat.le_refl _) (Nat.le_refl _) (Nat.le_of_ble_eq_true rfl) dX5_late_102 ?_
            exact zZ_iret C hR (Nat.le_refl _) (Nat.le_refl _) dX5_late_105 rfl (zIs_I ((rfl).trans (uR0 (show fLate I J s n l = 0 by (try simp only [decide_eq_true_eq, decide_eq_false_iff_not, bI] at *); unfold fLate; (repeat' split) <;> first | rfl | omega | (exfalso; simp_all; done) | (exfalso; simp_all; omega))).symm) (by rw [uI0 (show fLate I J s n l = 0 by (try simp only [decide_eq_true_eq, decide_eq_false_iff_not, bI] at *); unfold fLate; (repeat' split) <;> first | rfl | omega | (exfalso; simp_all; done) | (exfalso; simp_all; omega))]; (first | done | rfl)))
          · omega
      · refine z_aload_n C 1 rfl dX5_late_31 rfl ?_
        refine z_iload C 0 rfl dX5_late_32 ?_
        refine y_callV1 C oX5_refuse iX5_refuse eX5_refuse lkX5_59 (c_X5_refuse (by first | assumption | omega)) rfl (by decide) rfl rfl (by decide) (Nat.le_refl _) (Nat.le_refl _) (Nat.le_of_ble_eq_true rfl) dX5_late_34 ?_
        exact zZ_iret C hR (Nat.le_refl _) (Nat.le_refl _) dX5_late_37 rfl (zIs_I (uRc (show fLate I J s n l = ft by (try simp only [decide_eq_true_eq, decide_eq_false_iff_not, bI] at *); unfold fLate; (repeat' split) <;> first | rfl | omega | (exfalso; simp_all; done) | (exfalso; simp_all; omega)) (by omega)).symm (by rw [uIc (show fLate I J s n l = ft by (try simp only [decide_eq_true_eq, decide_eq_false_iff_not, bI] at *); unfold fLate; (repeat' split) <;> first | rfl | omega | (exfalso; simp_all; done) | (exfalso; simp_all; omega)) (by omega)]))
    · refine z_aload_n C 0 rfl dX5_late_9 rfl ?_
      refine z_bipush C dX5_late_10 (by decide) ?_
      refine y_callV1 C oX5_refuse iX5_refuse eX5_refuse lkX5_59 (c_X5_refuse (by first | assumption | omega)) rfl (by decide) rfl rfl (by decide) (Nat.le_refl _) (Nat.le_refl _) (Nat.le_of_ble_eq_true rfl) dX5_late_12 ?_
      exact zZ_iret C hR (Nat.le_refl _) (Nat.le_refl _) dX5_late_15 rfl (zIs_I (uRc (show fLate I J s n l = -2 by (try simp only [decide_eq_true_eq, decide_eq_false_iff_not, bI] at *); unfold fLate; (repeat' split) <;> first | rfl | omega | (exfalso; simp_all; done) | (exfalso; simp_all; omega)) (by decide)).symm (by rw [uIc (show fLate I J s n l = -2 by (try simp only [decide_eq_true_eq, decide_eq_false_iff_not, bI] at *); unfold fLate; (repeat' split) <;> first | rfl | omega | (exfalso; simp_all; done) | (exfalso; simp_all; omega)) (by decide)]))
