set_option maxHeartbeats 4000000 in
set_option maxRecDepth 100000 in
theorem c_X5_odds {g : zG} {I : Nat → Nat → Int} {J : Nat → Nat → Int64} {q : Nat × Nat} {s n : Int} (hg : gH I 1) (hq : gS I 4) (hl : gL I) (hs : -2147483648 ≤ s ∧ s ≤ 2147483647) (hn : -2147483648 ≤ n ∧ n ≤ 2147483647) : zRuns g mX5_odds 8 0 0 [.ref 0, .int (iI s), .int (iI n)] (zst I J q) (zEx (some (.int (iI (uR (fOdds I J s n) (oddsN (hv I J 1) (I 1 2) (spOf I 4) (J (19 + 2 * s.toNat + 1)) n.toNat))))) (fun p : SP => zst (uI I (fOdds I J s n) (zSq I 36 p)) J q)) := by
  obtain ⟨g1, g2, g3, g4, g5, g6⟩ := id hg
  obtain ⟨k1, k2, k3⟩ := id hq
  have k3 : ∀ e, e < 5 → 0 ≤ I 5 e ∧ I 5 e ≤ 66 := k3
  have hfc := fcomN_c I J s n 6
  refine zRuns_intro rfl (Nat.le_of_ble_eq_true rfl) (fun X C hR => ?_)
  show zZ g X 0 0 _ 0 [(0, .ref 0), (1, .int (iI s)), (2, .int (iI n))] []
  refine z_aload_n C 0 rfl dX5_odds_0 rfl ?_
  refine z_iload_n C 1 rfl dX5_odds_1 rfl ?_
  refine z_iload_n C 2 rfl dX5_odds_2 rfl ?_
  refine z_bipush C dX5_odds_3 (by decide) ?_
  refine y_callV3 C oX5_faultOfCommands iX5_faultOfCommands eX5_faultOfCommands lkX5_228 (c_X5_faultOfCommands hl (by first | assumption | omega) (by first | assumption | omega) (by first | assumption | omega)) rfl (by decide) rfl rfl (by decide) (Nat.le_refl _) (Nat.le_refl _) (Nat.le_of_ble_eq_true rfl) dX5_odds_5 ?_
  refine z_topI C (fun ft eft => ?_)
  refine z_istore_n C [(3, .int (iI ft)), (0, .ref 0), (1, .int (iI s)), (2, .int (iI n))] dX5_odds_8 rfl (by decide) rfl ?_
  have eft : ft = fOdds I J s n := eft
  refine z_iload_n C 0 rfl dX5_odds_9 rfl ?_
  refine z_if_eq C 19 dX5_odds_10 (by decide) (by omega) (fun h10 => ?_) (fun h10 => ?_)
  · obtain ⟨hf0, hcf⟩ := fcomN_0 (show fcomN I J s n 6 = 0 from eft.symm.trans h10)
    obtain ⟨f1, f2, f3, f4⟩ := frowN_0 (I := I) (s := s) (n := n) (limit := 6) hf0
    obtain ⟨m, hm⟩ : ∃ m : Nat, n = m := ⟨n.toNat, by omega⟩
    rw [hm]
    have hm2 : n.toNat = m := by omega
    rw [hm2] at hcf
    obtain ⟨pw, hpw0⟩ : ∃ pw : Nat, pw = 2 ^ m := ⟨_, rfl⟩
    have hpw : pw ≤ 64 := by rw [hpw0]; exact Nat.pow_le_pow_right (n := 2) (by decide) (show m ≤ 6 by omega)
    obtain ⟨W, hW⟩ : ∃ W : Nat → Int64, W = fun (k : Nat) => weightN (hv I J 1) (I 1 2) (spOf I 4) (J (19 + 2 * s.toNat + 1)) k m := ⟨_, rfl⟩
    have hsplit : oddsN (hv I J 1) (I 1 2) (spOf I 4) (J (19 + 2 * s.toNat + 1)) n.toNat = if pow12 m < 1 then 0 else (sumL W pw * 1000000 / pow12 m).toInt := by rw [hW, hpw0, ← hm2]; rfl
    refine z_lconst C 1 dX5_odds_19 rfl ?_
    refine z_lstore C [(4, .long 1), (3, .int (iI ft)), (0, .ref 0), (1, .int (iI s)), (2, .int (iI ((m : Int))))] dX5_odds_20 (by decide) rfl ?_
    refine z_iconst C dX5_odds_22 ?_
    refine z_istore C [(6, .int (iI 0)), (4, .long 1), (3, .int (iI ft)), (0, .ref 0), (1, .int (iI s)), (2, .int (iI ((m : Int))))] dX5_odds_23 (by decide) rfl ?_
    refine zZ_sub [3, 4, 5, 2, 1, 0] rfl ?_
    refine zZ_cast (σ' := (fun _ : Nat => zst I J q) 0) (L' := (fun e : Nat => [(0, .ref 0), (1, .int (iI s)), (2, .int (iI ((m : Int)))), (3, .int (iI ft)), (4, .long (pow12 e)), (6, .int (iI (e : Int)))]) 0) rfl rfl rfl ?_
    refine zfor (m) (fun _ => True) (fun _ : Nat => zst I J q) (fun e : Nat => [(0, .ref 0), (1, .int (iI s)), (2, .int (iI ((m : Int)))), (3, .int (iI ft)), (4, .long (pow12 e)), (6, .int (iI (e : Int)))]) trivial ?_ ?_
    · intro e hee hpe kke
      refine z_iload C 5 rfl dX5_odds_25 ?_
      refine z_iload_n C 2 rfl dX5_odds_27 rfl ?_
      refine z_icmp_ge C 45 dX5_odds_28 (by decide) (by omega) (by omega) (fun h28 => ?_) (fun h28 => ?_)
      · omega
      · refine z_lload C 4 rfl dX5_odds_31 ?_
        refine z_ldc2 C 12 dX5_odds_33 kcX5_253 ?_
        refine z_lmul C dX5_odds_36 ?_
        refine z_topL C (fun v1 ev1 => ?_)
        refine z_lstore C [(4, .long v1), (0, .ref 0), (1, .int (iI s)), (2, .int (iI ((m : Int)))), (3, .int (iI ft)), (6, .int (iI ((e : Int))))] dX5_odds_37 (by decide) rfl ?_
        obtain ⟨v2, ev2⟩ : ∃ y : Int, y = (e : Int) + 1 := ⟨_, rfl⟩
        refine z_iinc C 5 v2 [(6, .int (iI v2)), (4, .long v1), (0, .ref 0), (1, .int (iI s)), (2, .int (iI ((m : Int)))), (3, .int (iI ft))] dX5_odds_39 rfl ev2.symm (by decide) rfl ?_
        refine z_goto C 25 dX5_odds_42 (by decide) ?_
        refine zZ_sub [2, 3, 4, 5, 1, 0] rfl ?_
        refine zZ_cast rfl (zLk (zLk (zLk (zLk (zLj (by rw [ev1]; rfl) (zLc (by omega) rfl)))))) rfl (kke trivial)
    · intro hpe
      refine z_iload C 5 rfl dX5_odds_25 ?_
      refine z_iload_n C 2 rfl dX5_odds_27 rfl ?_
      refine z_icmp_ge C 45 dX5_odds_28 (by decide) (by omega) (by omega) (fun h28 => ?_) (fun h28 => ?_)
      · refine z_lconst C 0 dX5_odds_45 rfl ?_
        refine z_lstore C [(6, .long 0), (0, .ref 0), (1, .int (iI s)), (2, .int (iI ((m : Int)))), (3, .int (iI ft)), (4, .long ((pow12 m)))] dX5_odds_46 (by decide) rfl ?_
        refine z_iconst C dX5_odds_48 ?_
        refine z_istore C [(8, .int (iI 0)), (6, .long 0), (0, .ref 0), (1, .int (iI s)), (2, .int (iI ((m : Int)))), (3, .int (iI ft)), (4, .long ((pow12 m)))] dX5_odds_49 (by decide) rfl ?_
        refine zZ_sub [2, 3, 4, 5, 6, 1, 0] rfl ?_
        refine zZ_cast (σ' := (fun (_ : Nat) (p : SP) => zst (zSq I 36 p) J q) 0 (spOf I 36)) (L' := (fun (e : Nat) (p : SP) => [(0, .ref 0), (1, .int (iI s)), (2, .int (iI ((m : Int)))), (3, .int (iI ft)), (4, .long ((pow12 m))), (6, .long (sumL W e)), (8, .int (iI (e : Int)))]) 0 (spOf I 36)) (congrArg (fun I' => zst I' J q) zSq_self.symm) rfl rfl ?_
        refine zforE (pw) (fun _ _ => True) (fun (_ : Nat) (p : SP) => zst (zSq I 36 p) J q) (fun (e : Nat) (p : SP) => [(0, .ref 0), (1, .int (iI s)), (2, .int (iI ((m : Int)))), (3, .int (iI ft)), (4, .long ((pow12 m))), (6, .long (sumL W e)), (8, .int (iI (e : Int)))]) (spOf I 36) trivial ?_ ?_
        · intro e p hee hpe kke
          refine z_iload C 6 rfl dX5_odds_51 ?_
          refine z_iconst C dX5_odds_53 ?_
          refine z_iload_n C 2 rfl dX5_odds_54 rfl ?_
          refine z_ishl C (pw : Int) dX5_odds_55 (by rw [hpw0]; exact iI_sh1 (by omega)) ?_
          refine z_icmp_ge C 83 dX5_odds_56 (by decide) (by omega) (by omega) (fun h56 => ?_) (fun h56 => ?_)
          · omega
          · refine z_lload C 5 rfl dX5_odds_59 ?_
            refine z_aload_n C 0 rfl dX5_odds_61 rfl ?_
            refine z_aload_n C 0 rfl dX5_odds_62 rfl ?_
            refine y_getR C zCl5 4 flX5_32 rfl rfl rfl dX5_odds_63 ?_
            refine z_iload_n C 1 rfl dX5_odds_66 rfl ?_
            refine y_aald C s.toNat 10 (by decide) (by omega) rfl (by omega) (by decide) (rt_18 (by omega)) dX5_odds_67 ?_
            refine z_iload_n C 2 rfl dX5_odds_68 rfl ?_
            refine z_iload C 6 rfl dX5_odds_69 ?_
            refine y_callV3 C oX5_weightIfAllIn iX5_weightIfAllIn eX5_weightIfAllIn lkX5_255 (c_X5_weightIfAllIn (isL_of (by omega)) (gH_sp isH_1 isS_36 hg) hq (by first | assumption | omega) (by first | assumption | omega) hcf) rfl (by decide) rfl rfl (by decide) (Nat.le_refl _) (Nat.le_refl _) (Nat.le_of_ble_eq_true rfl) dX5_odds_71 ?_
            refine zZ_cast (σ' := zst (zSq I 36 (lostS (hv I J 1) (spOf I 4) (J (19 + 2 * s.toNat + 1)) e (m : Int).toNat)) J q) (by refine congrArg (fun I' => zst I' J q) ?_; exact zSp_zSp) rfl rfl ?_
            refine z_ladd C dX5_odds_74 ?_
            refine z_topL C (fun v3 ev3 => ?_)
            refine z_lstore C [(6, .long v3), (0, .ref 0), (1, .int (iI s)), (2, .int (iI ((m : Int)))), (3, .int (iI ft)), (4, .long ((pow12 m))), (8, .int (iI ((e : Int))))] dX5_odds_75 (by decide) rfl ?_
            obtain ⟨v4, ev4⟩ : ∃ y : Int, y = (e : Int) + 1 := ⟨_, rfl⟩
            refine z_iinc C 6 v4 [(8, .int (iI v4)), (6, .long v3), (0, .ref 0), (1, .int (iI s)), (2, .int (iI ((m : Int)))), (3, .int (iI ft)), (4, .long ((pow12 m)))] dX5_odds_77 rfl ev4.symm (by decide) rfl ?_
            refine z_goto C 51 dX5_odds_80 (by decide) ?_
            refine zZ_sub [2, 3, 4, 5, 6, 1, 0] rfl ?_
            refine zZ_cast rfl (zLk (zLk (zLk (zLk (zLk (zLj (by rw [ev3]; simp only [sumL, hW]; rfl) (zLc (by omega) rfl))))))) rfl (kke _ trivial)
        · intro p hpe
          refine z_iload C 6 rfl dX5_odds_51 ?_
          refine z_iconst C dX5_odds_53 ?_
          refine z_iload_n C 2 rfl dX5_odds_54 rfl ?_
          refine z_ishl C (pw : Int) dX5_odds_55 (by rw [hpw0]; exact iI_sh1 (by omega)) ?_
          refine z_icmp_ge C 83 dX5_odds_56 (by decide) (by omega) (by omega) (fun h56 => ?_) (fun h56 => ?_)
          · refine z_lload C 4 rfl dX5_odds_83 ?_
            refine z_lconst C 1 dX5_odds_85 rfl ?_
            refine z_lcmp_ge C 94 dX5_odds_86 dX5_odds_87 (by decide) (fun h86 => ?_) (fun h86 => ?_)
            · refine z_lload C 5 rfl dX5_odds_94 ?_
              refine z_ldc2 C 1000000 dX5_odds_96 kcX5_259 ?_
              refine z_lmul C dX5_odds_99 ?_
              refine z_lload C 4 rfl dX5_odds_100 ?_
              refine z_ldiv C dX5_odds_102 (by intro z; rw [z] at h86; revert h86; decide) ?_
              refine z_l2i C (sumL W pw * 1000000 / pow12 m).toInt dX5_odds_103 (l2i_eq _) ?_
              exact zZ_iret C hR (Nat.le_refl _) (Nat.le_refl _) dX5_odds_104 rfl (zEx_I (by rw [uR0 (show fOdds I J s n = 0 by (try simp only [decide_eq_true_eq, decide_eq_false_iff_not, bI] at *); unfold fOdds; (repeat' split) <;> first | rfl | omega | (exfalso; simp_all; done) | (exfalso; simp_all; omega))]; rw [hsplit]; exact (if_neg (by simpa using h86)).symm) p (by rw [uI0 (show fOdds I J s n = 0 by (try simp only [decide_eq_true_eq, decide_eq_false_iff_not, bI] at *); unfold fOdds; (repeat' split) <;> first | rfl | omega | (exfalso; simp_all; done) | (exfalso; simp_all; omega))]; (first | done | rfl)))
            · refine z_iconst C dX5_odds_90 ?_
              refine z_goto C 104 dX5_odds_91 (by decide) ?_
              exact zZ_iret C hR (Nat.le_refl _) (Nat.le_refl _) dX5_odds_104 rfl (zEx_I (by rw [uR0 (show fOdds I J s n = 0 by (try simp only [decide_eq_true_eq, decide_eq_false_iff_not, bI] at *); unfold fOdds; (repeat' split) <;> first | rfl | omega | (exfalso; simp_all; done) | (exfalso; simp_all; omega))]; rw [hsplit]; exact (if_pos (by simpa using h86)).symm) p (by rw [uI0 (show fOdds I J s n = 0 by (try simp only [decide_eq_true_eq, decide_eq_false_iff_not, bI] at *); unfold fOdds; (repeat' split) <;> first | rfl | omega | (exfalso; simp_all; done) | (exfalso; simp_all; omega))]; (first | done | rfl)))
          · omega
      · omega
  · refine z_aload_n C 1 rfl dX5_odds_13 rfl ?_
    refine z_iload_n C 0 rfl dX5_odds_14 rfl ?_
    refine y_callV1 C oX5_refuse iX5_refuse eX5_refuse lkX5_59 (c_X5_refuse (by first | assumption | omega)) rfl (by decide) rfl rfl (by decide) (Nat.le_refl _) (Nat.le_refl _) (Nat.le_of_ble_eq_true rfl) dX5_odds_15 ?_
    exact zZ_iret C hR (Nat.le_refl _) (Nat.le_refl _) dX5_odds_18 rfl (zEx_I (uRc (show fOdds I J s n = ft by (try simp only [decide_eq_true_eq, decide_eq_false_iff_not, bI] at *); unfold fOdds; (repeat' split) <;> first | rfl | omega | (exfalso; simp_all; done) | (exfalso; simp_all; omega)) (by omega)).symm (spOf I 4) (by rw [uIc (show fOdds I J s n = ft by (try simp only [decide_eq_true_eq, decide_eq_false_iff_not, bI] at *); unfold fOdds; (repeat' split) <;> first | rfl | omega | (exfalso; simp_all; done) | (exfalso; simp_all; omega)) (by omega)]))
