set_option maxHeartbeats 4000000 in
set_option maxRecDepth 100000 in
theorem c_X5_faultOfCommands {g : zG} {I : Nat → Nat → Int} {J : Nat → Nat → Int64} {q : Nat × Nat} {s n limit : Int} (hl : gL I) (hs : -2147483648 ≤ s ∧ s ≤ 2147483647) (hn : -2147483648 ≤ n ∧ n ≤ 2147483647) (hlim : 0 ≤ limit ∧ limit ≤ 40) : zRun g mX5_faultOfCommands 2 [.ref 0, .int (iI s), .int (iI n), .int (iI limit)] (zst I J q) (some (.int (iI (fcomN I J s n limit)))) (zst I J q) := by
  have hfr := frowN_r I s n limit
  refine zRuns_intro rfl (Nat.le_of_ble_eq_true rfl) (fun X C hR => ?_)
  show zZ g X 0 0 _ 0 [(0, .ref 0), (1, .int (iI s)), (2, .int (iI n)), (3, .int (iI limit))] []
  refine z_aload_n C 0 rfl dX5_faultOfCommands_0 rfl ?_
  refine z_iload_n C 1 rfl dX5_faultOfCommands_1 rfl ?_
  refine z_iload_n C 2 rfl dX5_faultOfCommands_2 rfl ?_
  refine z_iload_n C 3 rfl dX5_faultOfCommands_3 rfl ?_
  refine y_callV3 C oX5_faultOfRow iX5_faultOfRow eX5_faultOfRow lkX5_67 (c_X5_faultOfRow hl (by first | assumption | omega) (by first | assumption | omega) (by first | assumption | omega)) rfl (by decide) rfl rfl (by decide) (Nat.le_refl _) (Nat.le_refl _) (Nat.le_of_ble_eq_true rfl) dX5_faultOfCommands_4 ?_
  refine z_topI C (fun ft eft => ?_)
  refine z_istore C [(4, .int (iI ft)), (0, .ref 0), (1, .int (iI s)), (2, .int (iI n)), (3, .int (iI limit))] dX5_faultOfCommands_7 (by decide) rfl ?_
  refine z_iload C 0 rfl dX5_faultOfCommands_9 ?_
  refine z_if_eq C 17 dX5_faultOfCommands_11 (by decide) (by omega) (fun h11 => ?_) (fun h11 => ?_)
  · refine z_iconst C dX5_faultOfCommands_17 ?_
    refine z_istore C [(5, .int (iI 0)), (4, .int (iI ft)), (0, .ref 0), (1, .int (iI s)), (2, .int (iI n)), (3, .int (iI limit))] dX5_faultOfCommands_18 (by decide) rfl ?_
    obtain ⟨f1, f2, f3, f4⟩ := frowN_0 (I := I) (s := s) (n := n) (limit := limit) (by omega)
    obtain ⟨m, hm, hm2⟩ : ∃ m : Nat, n = m ∧ n.toNat = m := ⟨n.toNat, by omega, rfl⟩
    have hls := hl s.toNat (by omega)
    refine zZ_sub [2, 3, 4, 0] rfl ?_
    refine zZ_cast (σ' := (fun _ : Nat => zst I J q) 0) (L' := (fun e : Nat => [(0, .ref 0), (1, .int (iI s)), (2, .int (iI n)), (5, .int (iI (e : Int)))]) 0) rfl rfl rfl ?_
    refine zfor (m) (fun e => firstN (fun k => !isCmd (J (19 + 2 * s.toNat + 1) k)) e = none) (fun _ : Nat => zst I J q) (fun e : Nat => [(0, .ref 0), (1, .int (iI s)), (2, .int (iI n)), (5, .int (iI (e : Int)))]) rfl ?_ ?_
    · intro e hee hpe kke
      refine z_iload C 3 rfl dX5_faultOfCommands_20 ?_
      refine z_iload_n C 2 rfl dX5_faultOfCommands_22 rfl ?_
      refine z_icmp_ge C 53 dX5_faultOfCommands_23 (by decide) (by omega) (by omega) (fun h23 => ?_) (fun h23 => ?_)
      · omega
      · refine z_aload_n C 0 rfl dX5_faultOfCommands_26 rfl ?_
        refine y_getR C zCl5 4 flX5_32 rfl rfl rfl dX5_faultOfCommands_27 ?_
        refine z_iload_n C 1 rfl dX5_faultOfCommands_30 rfl ?_
        refine y_aald C s.toNat 10 (by decide) (by omega) rfl (by omega) (by decide) (rt_18 (by omega)) dX5_faultOfCommands_31 ?_
        refine y_getR C zCl2 2 flX5_75 rfl (lay_l (isL_of (by omega))) (rt_l (isL_of (by omega))) dX5_faultOfCommands_32 ?_
        refine z_iload C 3 rfl dX5_faultOfCommands_35 ?_
        refine y_lald C e (by omega) (lay_l1 (isL_of (by omega))) (by omega) (by decide) dX5_faultOfCommands_37 ?_
        refine y_callS1 C oX5_isCommand sX5_isCommand lkX5_331 c_X5_isCommand (by decide) (Nat.le_refl _) (Nat.le_refl _) (Nat.le_of_ble_eq_true rfl) dX5_faultOfCommands_38 ?_
        refine y_if_neB C 47 dX5_faultOfCommands_41 (by decide) (fun h41 => ?_) (fun h41 => ?_)
        · obtain ⟨v1, ev1⟩ : ∃ y : Int, y = (e : Int) + 1 := ⟨_, rfl⟩
          refine z_iinc C 3 v1 [(5, .int (iI v1)), (0, .ref 0), (1, .int (iI s)), (2, .int (iI n))] dX5_faultOfCommands_47 rfl ev1.symm (by decide) rfl ?_
          refine z_goto C 20 dX5_faultOfCommands_50 (by decide) ?_
          refine zZ_sub [1, 2, 3, 0] rfl ?_
          refine zZ_cast rfl (zLk (zLk (zLk (zLc (by omega) rfl)))) rfl (kke (by simp only [firstN, hpe, h41]; rfl))
        · refine z_bipush C dX5_faultOfCommands_44 (by decide) ?_
          exact zZ_iret C hR (Nat.le_refl _) (Nat.le_refl _) dX5_faultOfCommands_46 rfl (zIs_I (by unfold fcomN; rw [if_neg (by omega), if_neg (by rw [hm2, firstN_some hee hpe (by rw [h41]; rfl)]; exact fun z => by cases z)]) rfl)
    · intro hpe
      refine z_iload C 3 rfl dX5_faultOfCommands_20 ?_
      refine z_iload_n C 2 rfl dX5_faultOfCommands_22 rfl ?_
      refine z_icmp_ge C 53 dX5_faultOfCommands_23 (by decide) (by omega) (by omega) (fun h23 => ?_) (fun h23 => ?_)
      · refine z_iconst C dX5_faultOfCommands_53 ?_
        exact zZ_iret C hR (Nat.le_refl _) (Nat.le_refl _) dX5_faultOfCommands_54 rfl (zIs_I (by unfold fcomN; rw [if_neg (by omega), if_pos (by rw [hm2]; exact hpe)]) rfl)
      · omega
  · refine z_iload C 0 rfl dX5_faultOfCommands_14 ?_
    exact zZ_iret C hR (Nat.le_refl _) (Nat.le_refl _) dX5_faultOfCommands_16 rfl (zIs_I (by unfold fcomN; rw [if_pos (by omega)]; exact eft) rfl)
set_option maxHeartbeats 4000000 in
set_option maxRecDepth 100000 in
theorem c_X5_firstWrong {g : zG} {I : Nat → Nat → Int} {J : Nat → Nat → Int64} {q : Nat × Nat} {s : Nat} {n : Int} (iss : isL s) (hg : gH I 1) (hs : gS I 4) (hn : 0 ≤ n ∧ n ≤ 40) : zRun g mX5_firstWrong 4 [.ref 0, .ref s, .int (iI n)] (zst I J q) (some (.int (iI (wrongN (I 1 0) (J 1 5) (I 1 1) (I 4 0) (J (s + 1)) n.toNat)))) (zst I J q) := by
  obtain ⟨g1, g2, g3, g4, g5, g6⟩ := id hg
  obtain ⟨k1, k2, k3⟩ := id hs
  obtain ⟨m, hm, hm2⟩ : ∃ m : Nat, n = m ∧ n.toNat = m := ⟨n.toNat, by omega, rfl⟩
  refine zRuns_intro rfl (Nat.le_of_ble_eq_true rfl) (fun X C hR => ?_)
  show zZ g X 0 0 _ 0 [(0, .ref 0), (1, .ref s), (2, .int (iI n))] []
  refine z_aload_n C 0 rfl dX5_firstWrong_0 rfl ?_
  refine y_getR C zCl5 0 flX5_10 rfl rfl rfl dX5_firstWrong_1 ?_
  refine y_getR C zCl0 9 flX5_118 rfl rfl rfl dX5_firstWrong_4 ?_
  refine y_getI C zCl3 0 flX5_150 rfl rfl dX5_firstWrong_7 ?_
  refine z_topI C (fun d0 ed0 => ?_)
  refine z_istore_n C [(3, .int (iI d0)), (0, .ref 0), (1, .ref s), (2, .int (iI n))] dX5_firstWrong_10 rfl (by decide) rfl ?_
  refine z_iconst C dX5_firstWrong_11 ?_
  refine z_istore C [(4, .int (iI 0)), (3, .int (iI d0)), (0, .ref 0), (1, .ref s), (2, .int (iI n))] dX5_firstWrong_12 (by decide) rfl ?_
  refine zZ_sub [2, 3, 4, 1, 0] rfl ?_
  refine zZ_cast (σ' := (fun _ : Nat => zst I J q) 0) (L' := (fun e : Nat => [(0, .ref 0), (1, .ref s), (2, .int (iI n)), (3, .int (iI (walkC (I 4 0) (J (s + 1)) e))), (4, .int (iI (e : Int)))]) 0) rfl (by subst ed0; rfl) rfl ?_
  refine zfor (m) (fun e => firstN (wrongP (I 1 0) (J 1 5) (I 1 1) (I 4 0) (J (s + 1))) e = none) (fun _ : Nat => zst I J q) (fun e : Nat => [(0, .ref 0), (1, .ref s), (2, .int (iI n)), (3, .int (iI (walkC (I 4 0) (J (s + 1)) e))), (4, .int (iI (e : Int)))]) rfl ?_ ?_
  · intro e hee hpe kke
    have hwr := walkC_r (f := J (s + 1)) g1.2 k1 e hpe
    refine z_iload C 4 rfl dX5_firstWrong_14 ?_
    refine z_iload_n C 2 rfl dX5_firstWrong_16 rfl ?_
    refine z_icmp_ge C 70 dX5_firstWrong_17 (by decide) (by omega) (by omega) (fun h17 => ?_) (fun h17 => ?_)
    · omega
    · refine z_aload_n C 1 rfl dX5_firstWrong_20 rfl ?_
      refine y_getR C zCl2 2 flX5_75 rfl (lay_l iss) (rt_l iss) dX5_firstWrong_21 ?_
      refine z_iload C 4 rfl dX5_firstWrong_24 ?_
      refine y_lald C e (by omega) (lay_l1 iss) (by omega) (by decide) dX5_firstWrong_26 ?_
      refine z_topL C (fun cm ecm => ?_)
      refine z_lstore C [(5, .long cm), (0, .ref 0), (1, .ref s), (2, .int (iI n)), (3, .int (iI ((walkC (I 4 0) (J (s + 1)) e)))), (4, .int (iI ((e : Int))))] dX5_firstWrong_27 (by decide) rfl ?_
      refine z_lload C 0 rfl dX5_firstWrong_29 ?_
      refine y_callS1 C oX5_isCommand sX5_isCommand lkX5_331 c_X5_isCommand (by decide) (Nat.le_refl _) (Nat.le_refl _) (Nat.le_of_ble_eq_true rfl) dX5_firstWrong_31 ?_
      refine y_if_eqB C 51 dX5_firstWrong_34 (by decide) (fun h34 => ?_) (fun h34 => ?_)
      · refine z_iload C 5 rfl dX5_firstWrong_51 ?_
        exact zZ_iret C hR (Nat.le_refl _) (Nat.le_refl _) dX5_firstWrong_53 rfl (zIs_I (by rw [hm2]; unfold wrongN; rw [firstN_some hee hpe (by simp only [wrongP]; rw [← ecm, h34]; simp)]) rfl)
      · have hcm : 0 ≤ cm.toInt ∧ cm.toInt < 5 := by simpa [isCmd] using h34
        refine z_aload_n C 1 rfl dX5_firstWrong_37 rfl ?_
        refine y_getR C zCl5 0 flX5_10 rfl rfl rfl dX5_firstWrong_38 ?_
        refine z_iload_n C 4 rfl dX5_firstWrong_41 rfl ?_
        refine z_lload C 0 rfl dX5_firstWrong_42 ?_
        refine z_l2i C cm.toInt dX5_firstWrong_44 (l2i_eq _) ?_
        refine y_callV2 C oX0_canDo iX0_canDo eX0_canDo lkX5_310 (c_X0_canDo isH_1 hg (by first | assumption | omega) (by first | assumption | omega)) rfl (by decide) rfl rfl (by decide) (Nat.le_refl _) (Nat.le_refl _) (Nat.le_of_ble_eq_true rfl) dX5_firstWrong_45 ?_
        refine y_if_neB C 54 dX5_firstWrong_48 (by decide) (fun h48 => ?_) (fun h48 => ?_)
        · refine z_iload_n C 4 rfl dX5_firstWrong_54 rfl ?_
          refine z_gets C (k := 0) rfl flX5_294 dX5_firstWrong_55 ?_
          refine z_lload C 0 rfl dX5_firstWrong_58 ?_
          refine z_l2i C cm.toInt dX5_firstWrong_60 (l2i_eq _) ?_
          refine z_ialdS C (k := 0) rfl cm.toInt.toNat (by omega) (show _ < 5 by omega) (by decide) dX5_firstWrong_61 ?_
          show zZ g X 0 0 (zst I J q) _ _ (.int (iI (shN cm.toInt.toNat)) :: _)
          refine z_iadd C dX5_firstWrong_62 ?_
          refine z_topI C (fun po epo => ?_)
          refine z_istore_n C [(3, .int (iI po)), (5, .long cm), (0, .ref 0), (1, .ref s), (2, .int (iI n)), (4, .int (iI ((e : Int))))] dX5_firstWrong_63 rfl (by decide) rfl ?_
          obtain ⟨v1, ev1⟩ : ∃ y : Int, y = (e : Int) + 1 := ⟨_, rfl⟩
          refine z_iinc C 5 v1 [(4, .int (iI v1)), (3, .int (iI po)), (5, .long cm), (0, .ref 0), (1, .ref s), (2, .int (iI n))] dX5_firstWrong_64 rfl ev1.symm (by decide) rfl ?_
          refine z_goto C 14 dX5_firstWrong_67 (by decide) ?_
          refine zZ_sub [3, 4, 5, 1, 0] rfl ?_
          refine zZ_cast rfl (zLk (zLk (zLk (zLc (by simp only [walkC]; rw [← ecm]; exact epo) (zLc (by omega) rfl))))) rfl (kke (by simp only [firstN, hpe]; rw [if_neg]; simp only [wrongP]; rw [← ecm, h34, h48]; decide))
        · refine z_iload C 5 rfl dX5_firstWrong_51 ?_
          exact zZ_iret C hR (Nat.le_refl _) (Nat.le_refl _) dX5_firstWrong_53 rfl (zIs_I (by rw [hm2]; unfold wrongN; rw [firstN_some hee hpe (by simp only [wrongP]; rw [← ecm, h34, h48]; simp)]) rfl)
  · intro hpe
    refine z_iload C 4 rfl dX5_firstWrong_14 ?_
    refine z_iload_n C 2 rfl dX5_firstWrong_16 rfl ?_
    refine z_icmp_ge C 70 dX5_firstWrong_17 (by decide) (by omega) (by omega) (fun h17 => ?_) (fun h17 => ?_)
    · refine z_iconst C dX5_firstWrong_70 ?_
      exact zZ_iret C hR (Nat.le_refl _) (Nat.le_refl _) dX5_firstWrong_71 rfl (zIs_I (by rw [hm2]; unfold wrongN; rw [hpe]) rfl)
    · omega
set_option maxHeartbeats 4000000 in
set_option maxRecDepth 100000 in
theorem c_X5_faultOfDoable {g : zG} {I : Nat → Nat → Int} {J : Nat → Nat → Int64} {q : Nat × Nat} {s n : Int} (hl : gL I) (hg : gH I 1) (hq : gS I 4) (hs : -2147483648 ≤ s ∧ s ≤ 2147483647) (hn : -2147483648 ≤ n ∧ n ≤ 2147483647) : zRun g mX5_faultOfDoable 5 [.ref 0, .int (iI s), .int (iI n)] (zst I J q) (some (.int (iI (if ¬ frowN I s n 40 = 0 then frowN I s n 40 else if wrongN (I 1 0) (J 1 5) (I 1 1) (I 4 0) (J (19 + 2 * s.toNat + 1)) n.toNat = -1 then 0 else -5)))) (zst I J q) := by
  have hfr := frowN_r I s n 40
  refine zRuns_intro rfl (Nat.le_of_ble_eq_true rfl) (fun X C hR => ?_)
  show zZ g X 0 0 _ 0 [(0, .ref 0), (1, .int (iI s)), (2, .int (iI n))] []
  refine z_aload_n C 0 rfl dX5_faultOfDoable_0 rfl ?_
  refine z_iload_n C 1 rfl dX5_faultOfDoable_1 rfl ?_
  refine z_iload_n C 2 rfl dX5_faultOfDoable_2 rfl ?_
  refine z_bipush C dX5_faultOfDoable_3 (by decide) ?_
  refine y_callV3 C oX5_faultOfRow iX5_faultOfRow eX5_faultOfRow lkX5_67 (c_X5_faultOfRow hl (by first | assumption | omega) (by first | assumption | omega) (by first | assumption | omega)) rfl (by decide) rfl rfl (by decide) (Nat.le_refl _) (Nat.le_refl _) (Nat.le_of_ble_eq_true rfl) dX5_faultOfDoable_5 ?_
  refine z_topI C (fun ft eft => ?_)
  refine z_istore_n C [(3, .int (iI ft)), (0, .ref 0), (1, .int (iI s)), (2, .int (iI n))] dX5_faultOfDoable_8 rfl (by decide) rfl ?_
  refine z_iload_n C 0 rfl dX5_faultOfDoable_9 rfl ?_
  refine z_if_eq C 15 dX5_faultOfDoable_10 (by decide) (by omega) (fun h10 => ?_) (fun h10 => ?_)
  · obtain ⟨f1, f2, f3, f4⟩ := frowN_0 (I := I) (s := s) (n := n) (limit := 40) (by omega)
    refine z_aload_n C 1 rfl dX5_faultOfDoable_15 rfl ?_
    refine z_aload_n C 1 rfl dX5_faultOfDoable_16 rfl ?_
    refine y_getR C zCl5 4 flX5_32 rfl rfl rfl dX5_faultOfDoable_17 ?_
    refine z_iload_n C 2 rfl dX5_faultOfDoable_20 rfl ?_
    refine y_aald C s.toNat 10 (by decide) (by omega) rfl (by omega) (by decide) (rt_18 (by omega)) dX5_faultOfDoable_21 ?_
    refine z_iload_n C 3 rfl dX5_faultOfDoable_22 rfl ?_
    refine y_callV2 C oX5_firstWrong iX5_firstWrong eX5_firstWrong lkX5_321 (c_X5_firstWrong (isL_of (by omega)) hg hq (by first | assumption | omega)) rfl (by decide) rfl rfl (by decide) (Nat.le_refl _) (Nat.le_refl _) (Nat.le_of_ble_eq_true rfl) dX5_faultOfDoable_23 ?_
    refine z_iconst C dX5_faultOfDoable_26 ?_
    refine z_icmp_ne C 34 dX5_faultOfDoable_27 (by decide) (wrongN_r (by omega)) (by omega) (fun h27 => ?_) (fun h27 => ?_)
    · refine z_bipush C dX5_faultOfDoable_34 (by decide) ?_
      exact zZ_iret C hR (Nat.le_refl _) (Nat.le_refl _) dX5_faultOfDoable_36 rfl (zIs_I (by rw [if_neg (by omega), if_neg h27]) rfl)
    · refine z_iconst C dX5_faultOfDoable_30 ?_
      refine z_goto C 36 dX5_faultOfDoable_31 (by decide) ?_
      exact zZ_iret C hR (Nat.le_refl _) (Nat.le_refl _) dX5_faultOfDoable_36 rfl (zIs_I (by rw [if_neg (by omega), if_pos h27]) rfl)
  · refine z_iload_n C 0 rfl dX5_faultOfDoable_13 rfl ?_
    exact zZ_iret C hR (Nat.le_refl _) (Nat.le_refl _) dX5_faultOfDoable_14 rfl (zIs_I (by rw [if_pos (by omega)]; exact eft) rfl)
set_option maxHeartbeats 4000000 in
set_option maxRecDepth 100000 in
theorem c_X5_takeTold {g : zG} {I : Nat → Nat → Int} {J : Nat → Nat → Int64} {q : Nat × Nat} {s t : Nat} {n : Int} (iss : isS s) (itt : isL t) (hg : gH I 1) (hs : gS I s) (hn : 0 ≤ n ∧ n ≤ 40) (hf : ∀ k, k < n.toNat → isCmd (J (t + 1) k) = true) : zRun g mX5_takeTold 6 [.ref 0, .ref s, .ref t, .int (iI n)] (zst I J q) (none) (zst (zSq I s (runS (hv I J 1) (spOf I s) (fun k => (J (t + 1) k).toInt) n.toNat)) J q) := by
  obtain ⟨m, hm, hm2⟩ : ∃ m : Nat, n = m ∧ n.toNat = m := ⟨n.toNat, by omega, rfl⟩
  rw [hm2] at hf ⊢
  have hF : ∀ k, k < m → 0 ≤ (J (t + 1) k).toInt ∧ (J (t + 1) k).toInt ≤ 4 := fun k hk => by have := hf k hk; simp only [isCmd, decide_eq_true_eq] at this; omega
  have hgp := fun k (hk : k ≤ m) => gP_run (J := J) (f := fun k => (J (t + 1) k).toInt) hg (gP_of hs) k (fun e he => hF e (by omega))
  refine zRuns_intro rfl (Nat.le_of_ble_eq_true rfl) (fun X C hR => ?_)
  show zZ g X 0 0 _ 0 [(0, .ref 0), (1, .ref s), (2, .ref t), (3, .int (iI n))] []
  refine z_iconst C dX5_takeTold_0 ?_
  refine z_istore C [(4, .int (iI 0)), (0, .ref 0), (1, .ref s), (2, .ref t), (3, .int (iI n))] dX5_takeTold_1 (by decide) rfl ?_
  refine zZ_sub [1, 2, 3, 4, 0] rfl ?_
  refine zZ_cast (σ' := (fun e : Nat => zst (zSq I s (runS (hv I J 1) (spOf I s) (fun k => (J (t + 1) k).toInt) e)) J q) 0) (L' := (fun e : Nat => [(0, .ref 0), (1, .ref s), (2, .ref t), (3, .int (iI n)), (4, .int (iI (e : Int)))]) 0) (by simp only [runS]; rw [zSq_self]) rfl rfl ?_
  refine zfor (m) (fun _ => True) (fun e : Nat => zst (zSq I s (runS (hv I J 1) (spOf I s) (fun k => (J (t + 1) k).toInt) e)) J q) (fun e : Nat => [(0, .ref 0), (1, .ref s), (2, .ref t), (3, .int (iI n)), (4, .int (iI (e : Int)))]) trivial ?_ ?_
  · intro e hee hpe kke
    have hfe := hF e hee
    have hge := hgp e (by omega)
    refine z_iload C 4 rfl dX5_takeTold_3 ?_
    refine z_iload_n C 3 rfl dX5_takeTold_5 rfl ?_
    refine z_icmp_ge C 31 dX5_takeTold_6 (by decide) (by omega) (by omega) (fun h6 => ?_) (fun h6 => ?_)
    · omega
    · refine z_aload_n C 0 rfl dX5_takeTold_9 rfl ?_
      refine y_getR C zCl5 0 flX5_10 rfl rfl rfl dX5_takeTold_10 ?_
      refine z_aload_n C 1 rfl dX5_takeTold_13 rfl ?_
      refine z_aload_n C 2 rfl dX5_takeTold_14 rfl ?_
      refine y_getR C zCl2 2 flX5_75 rfl (lay_l itt) (rt_l itt) dX5_takeTold_15 ?_
      refine z_iload C 4 rfl dX5_takeTold_18 ?_
      refine y_lald C e (by omega) (lay_l1 itt) (by omega) (by decide) dX5_takeTold_20 ?_
      refine z_l2i C (J (t + 1) e).toInt dX5_takeTold_21 (l2i_eq _) ?_
      refine y_callV2 C oX0_takeTurn iX0_takeTurn eX0_takeTurn lkX5_211 (c_X0_takeTurn isH_1 iss (gH_sp isH_1 iss hg) (gS_of hge) (by first | assumption | omega)) rfl (by decide) rfl rfl (by decide) (Nat.le_refl _) (Nat.le_refl _) (Nat.le_of_ble_eq_true rfl) dX5_takeTold_22 ?_
      obtain ⟨v1, ev1⟩ : ∃ y : Int, y = (e : Int) + 1 := ⟨_, rfl⟩
      refine z_iinc C 4 v1 [(4, .int (iI v1)), (0, .ref 0), (1, .ref s), (2, .ref t), (3, .int (iI n))] dX5_takeTold_25 rfl ev1.symm (by decide) rfl ?_
      refine z_goto C 3 dX5_takeTold_28 (by decide) ?_
      refine zZ_sub [1, 2, 3, 4, 0] rfl ?_
      refine zZ_cast (by refine congrArg (fun I' => zst I' J q) ?_; show zSp (zSq I s _) s _ _ _ = _; simp only [zSq, hv_sp isH_1 iss, zSp_0, zSp_c, zSp_zSp]; rfl) (zLk (zLk (zLk (zLk (zLc (by omega) rfl))))) rfl (kke trivial)
  · intro hpe
    refine z_iload C 4 rfl dX5_takeTold_3 ?_
    refine z_iload_n C 3 rfl dX5_takeTold_5 rfl ?_
    refine z_icmp_ge C 31 dX5_takeTold_6 (by decide) (by omega) (by omega) (fun h6 => ?_) (fun h6 => ?_)
    · exact zZ_vret C hR (Nat.le_refl _) (Nat.le_refl _) dX5_takeTold_31 rfl (zIs_V rfl)
    · omega
set_option maxHeartbeats 4000000 in
set_option maxRecDepth 100000 in
theorem c_X5_countFilledShelves {g : zG} {I : Nat → Nat → Int} {J : Nat → Nat → Int64} {q : Nat × Nat}  (hl : gL I) : zRun g mX5_countFilledShelves 0 [.ref 0] (zst I J q) (some (.int (iI (filledN I 8)))) (zst I J q) := by
  refine zRuns_intro rfl (Nat.le_of_ble_eq_true rfl) (fun X C hR => ?_)
  show zZ g X 0 0 _ 0 [(0, .ref 0)] []
  refine z_iconst C dX5_countFilledShelves_0 ?_
  refine z_istore_n C [(1, .int (iI 0)), (0, .ref 0)] dX5_countFilledShelves_1 rfl (by decide) rfl ?_
  refine z_iconst C dX5_countFilledShelves_2 ?_
  refine z_istore_n C [(2, .int (iI 0)), (1, .int (iI 0)), (0, .ref 0)] dX5_countFilledShelves_3 rfl (by decide) rfl ?_
  refine zZ_sub [2, 1, 0] rfl ?_
  refine zZ_cast (σ' := (fun _ : Nat => zst I J q) 0) (L' := (fun e : Nat => [(0, .ref 0), (1, .int (iI (filledN I e))), (2, .int (iI (e : Int)))]) 0) rfl rfl rfl ?_
  refine zfor (8) (fun _ => True) (fun _ : Nat => zst I J q) (fun e : Nat => [(0, .ref 0), (1, .int (iI (filledN I e))), (2, .int (iI (e : Int)))]) trivial ?_ ?_
  · intro e hee hpe kke
    have hls := hl e (by omega)
    refine z_iload_n C 2 rfl dX5_countFilledShelves_4 rfl ?_
    refine z_bipush C dX5_countFilledShelves_5 (by decide) ?_
    refine z_icmp_ge C 32 dX5_countFilledShelves_7 (by decide) (by omega) (by omega) (fun h7 => ?_) (fun h7 => ?_)
    · omega
    · refine z_aload_n C 0 rfl dX5_countFilledShelves_10 rfl ?_
      refine y_getR C zCl5 4 flX5_32 rfl rfl rfl dX5_countFilledShelves_11 ?_
      refine z_iload_n C 2 rfl dX5_countFilledShelves_14 rfl ?_
      refine y_aald C e 10 (by decide) (by omega) rfl (by omega) (by decide) (rt_18 (by omega)) dX5_countFilledShelves_15 ?_
      refine y_getI C zCl2 0 flX5_79 rfl (lay_l (isL_of (by omega))) dX5_countFilledShelves_16 ?_
      refine z_iconst C dX5_countFilledShelves_19 ?_
      refine z_icmp_eq C 26 dX5_countFilledShelves_20 (by decide) (by omega) (by omega) (fun h20 => ?_) (fun h20 => ?_)
      · obtain ⟨v1, ev1⟩ : ∃ y : Int, y = (e : Int) + 1 := ⟨_, rfl⟩
        refine z_iinc C 2 v1 [(2, .int (iI v1)), (0, .ref 0), (1, .int (iI ((filledN I e))))] dX5_countFilledShelves_26 rfl ev1.symm (by decide) rfl ?_
        refine z_goto C 4 dX5_countFilledShelves_29 (by decide) ?_
        refine zZ_sub [1, 2, 0] rfl ?_
        refine zZ_cast rfl (zLk (zLc (by simp only [filledN]; simp [bI, h20]) (zLc (by omega) rfl))) rfl (kke trivial)
      · obtain ⟨cf, ecf⟩ : ∃ y : Int, y = (filledN I e) + 1 := ⟨_, rfl⟩
        refine z_iinc C 1 cf [(1, .int (iI cf)), (0, .ref 0), (2, .int (iI ((e : Int))))] dX5_countFilledShelves_23 rfl ecf.symm (by decide) rfl ?_
        obtain ⟨v2, ev2⟩ : ∃ y : Int, y = (e : Int) + 1 := ⟨_, rfl⟩
        refine z_iinc C 2 v2 [(2, .int (iI v2)), (1, .int (iI cf)), (0, .ref 0)] dX5_countFilledShelves_26 rfl ev2.symm (by decide) rfl ?_
        refine z_goto C 4 dX5_countFilledShelves_29 (by decide) ?_
        refine zZ_sub [2, 1, 0] rfl ?_
        refine zZ_cast rfl (zLk (zLc (by simp only [filledN]; rw [ecf]; simp [bI, h20]) (zLc (by omega) rfl))) rfl (kke trivial)
  · intro hpe
    refine z_iload_n C 2 rfl dX5_countFilledShelves_4 rfl ?_
    refine z_bipush C dX5_countFilledShelves_5 (by decide) ?_
    refine z_icmp_ge C 32 dX5_countFilledShelves_7 (by decide) (by omega) (by omega) (fun h7 => ?_) (fun h7 => ?_)
    · refine z_iload_n C 1 rfl dX5_countFilledShelves_32 rfl ?_
      exact zZ_iret C hR (Nat.le_refl _) (Nat.le_refl _) dX5_countFilledShelves_33 rfl (zIs_I rfl rfl)
    · omega
set_option maxHeartbeats 4000000 in
set_option maxRecDepth 100000 in
theorem c_X5_cutTo {g : zG} {I : Nat → Nat → Int} {J : Nat → Nat → Int64} {q : Nat × Nat} {so : Int} {v : Int64} (hso : 0 ≤ so ∧ so ≤ 4) : zRun g mX5_cutTo 0 [.int (iI so), .long v] (zst I J q) (some (.long (cutN so v))) (zst I J q) := by
  refine zRuns_intro rfl (Nat.le_of_ble_eq_true rfl) (fun X C hR => ?_)
  show zZ g X 0 0 _ 0 [(0, .int (iI so)), (1, .long v)] []
  refine z_iload_n C 0 rfl dX5_cutTo_0 rfl ?_
  rcases (show so = 0 ∨ so = 1 ∨ so = 2 ∨ so = 3 ∨ so = 4 ∨ (so < 0 ∨ 4 < so) by omega) with hsw | hsw | hsw | hsw | hsw | hsw
  · subst hsw
    refine z_tabIn C 36 dX5_cutTo_1 (by decide) (by decide) (by decide) rfl (by decide) ?_
    refine z_lload_n C 1 rfl dX5_cutTo_36 rfl ?_
    refine z_l2i C v.toInt dX5_cutTo_37 (l2i_eq _) ?_
    refine z_i2b C v.toInt32.toInt8.toInt32.toInt dX5_cutTo_38 (by rw [← l2i_eq]; exact iI_of _) ?_
    refine z_i2l C (v.toInt32.toInt8.toInt32.toInt64) dX5_cutTo_39 (by rw [← iI_of]) ?_
    exact zZ_lret C hR (Nat.le_refl _) (Nat.le_refl _) dX5_cutTo_40 rfl (zIs_J (by simp [cutN, *]) rfl)
  · subst hsw
    refine z_tabIn C 41 dX5_cutTo_1 (by decide) (by decide) (by decide) rfl (by decide) ?_
    refine z_lload_n C 1 rfl dX5_cutTo_41 rfl ?_
    refine z_l2i C v.toInt dX5_cutTo_42 (l2i_eq _) ?_
    refine z_i2s C v.toInt32.toInt16.toInt32.toInt dX5_cutTo_43 (by rw [← l2i_eq]; exact iI_of _) ?_
    refine z_i2l C (v.toInt32.toInt16.toInt32.toInt64) dX5_cutTo_44 (by rw [← iI_of]) ?_
    exact zZ_lret C hR (Nat.le_refl _) (Nat.le_refl _) dX5_cutTo_45 rfl (zIs_J (by simp [cutN, *]) rfl)
  · subst hsw
    refine z_tabIn C 46 dX5_cutTo_1 (by decide) (by decide) (by decide) rfl (by decide) ?_
    refine z_lload_n C 1 rfl dX5_cutTo_46 rfl ?_
    refine z_l2i C v.toInt dX5_cutTo_47 (l2i_eq _) ?_
    refine z_i2l C v.toInt32.toInt64 dX5_cutTo_48 (by rw [← l2i_eq]) ?_
    exact zZ_lret C hR (Nat.le_refl _) (Nat.le_refl _) dX5_cutTo_49 rfl (zIs_J (by simp [cutN, *]) rfl)
  · subst hsw
    refine z_tabIn C 62 dX5_cutTo_1 (by decide) (by decide) (by decide) rfl (by decide) ?_
    refine z_lload_n C 1 rfl dX5_cutTo_62 rfl ?_
    exact zZ_lret C hR (Nat.le_refl _) (Nat.le_refl _) dX5_cutTo_63 rfl (zIs_J (by simp [cutN, *]) rfl)
  · subst hsw
    refine z_tabIn C 50 dX5_cutTo_1 (by decide) (by decide) (by decide) rfl (by decide) ?_
    refine z_lload_n C 1 rfl dX5_cutTo_50 rfl ?_
    refine z_lconst C 0 dX5_cutTo_51 rfl ?_
    refine z_lcmp_eq C 60 dX5_cutTo_52 dX5_cutTo_53 (by decide) (fun h52 => ?_) (fun h52 => ?_)
    · refine z_lconst C 0 dX5_cutTo_60 rfl ?_
      exact zZ_lret C hR (Nat.le_refl _) (Nat.le_refl _) dX5_cutTo_61 rfl (zIs_J (by simp [cutN, *]) rfl)
    · refine z_lconst C 1 dX5_cutTo_56 rfl ?_
      refine z_goto C 61 dX5_cutTo_57 (by decide) ?_
      exact zZ_lret C hR (Nat.le_refl _) (Nat.le_refl _) dX5_cutTo_61 rfl (zIs_J (by simp [cutN, *]) rfl)
  · omega
