set_option maxHeartbeats 4000000 in
set_option maxRecDepth 100000 in
theorem c_X0_goalOf {g : zG} {I : Nat → Nat → Int} {J : Nat → Nat → Int64} {q : Nat × Nat} {h s w : Nat} {kd : Int} (hh : isH h) (iss : isS s) (hg : gH I h) (hs : gS I s) (hw : w < 5) (hkd : 0 ≤ kd ∧ kd ≤ 5) : zRun g mX0_goalOf 4 [.ref h, .ref s, .int (iI ((w : Int))), .int (iI kd)] (zst I J q) (some (.int (iI (goalN (hv I J h) (I s 0) (I (s + 1)) w kd)))) (zst I J q) := by
  obtain ⟨g1, g2, g3, g4, g5, g6⟩ := id hg
  obtain ⟨k1, k2, k3⟩ := id hs
  have hcw := k3 w hw
  have htm := tmN_r (k := kd.toNat) (by omega)
  have hsr := srN_r kd.toNat
  refine zRuns_intro rfl (Nat.le_of_ble_eq_true rfl) (fun X C hR => ?_)
  show zZ g X 0 0 _ 0 [(0, .ref h), (1, .ref s), (2, .int (iI ((w : Int)))), (3, .int (iI kd))] []
  refine z_aload_n C 1 rfl dX0_goalOf_0 rfl ?_
  refine y_getR C zCl3 2 flX0_77 rfl (lay_s iss) (rt_s iss) dX0_goalOf_1 ?_
  refine z_iload_n C 2 rfl dX0_goalOf_4 rfl ?_
  refine y_iald C w (by omega) (lay_s1 iss) (by omega) (by decide) dX0_goalOf_5 ?_
  refine z_topI C (fun c0 ec0 => ?_)
  refine z_istore C [(4, .int (iI c0)), (0, .ref h), (1, .ref s), (2, .int (iI ((w : Int)))), (3, .int (iI kd))] dX0_goalOf_6 (by decide) rfl ?_
  refine z_iload_n C 4 rfl dX0_goalOf_8 rfl ?_
  refine z_iconst C dX0_goalOf_9 ?_
  refine z_icmp_ne C 22 dX0_goalOf_10 (by decide) (by omega) (by omega) (fun h10 => ?_) (fun h10 => ?_)
  · refine z_getsN C (k := 3) rfl (List.mem_of_getElem? (i := 0) rfl) rfl dX0_goalOf_22 ?_
    refine z_iload_n C 4 rfl dX0_goalOf_25 rfl ?_
    refine z_ialdS C (k := 3) rfl kd.toNat (by omega) (show _ < 6 by omega) (by decide) dX0_goalOf_26 ?_
    refine z_topI C (fun fe efe => ?_)
    refine z_istore C [(5, .int (iI fe)), (4, .int (iI c0)), (0, .ref h), (1, .ref s), (2, .int (iI ((w : Int)))), (3, .int (iI kd))] dX0_goalOf_27 (by decide) rfl ?_
    refine z_iload_n C 5 rfl dX0_goalOf_29 rfl ?_
    refine z_iconst C dX0_goalOf_30 ?_
    refine z_icmp_ne C 41 dX0_goalOf_31 (by decide) (by omega) (by omega) (fun h31 => ?_) (fun h31 => ?_)
    · refine z_aload_n C 2 rfl dX0_goalOf_41 rfl ?_
      refine z_aload_n C 3 rfl dX0_goalOf_42 rfl ?_
      refine z_iload_n C 4 rfl dX0_goalOf_43 rfl ?_
      refine y_callV2 C oX0_leaderOf iX0_leaderOf eX0_leaderOf lkX0_111 (c_X0_leaderOf hh iss hg hs (by first | assumption | omega)) (lay_h hh) (by decide) rfl rfl (by decide) (Nat.le_refl _) (Nat.le_refl _) (Nat.le_of_ble_eq_true rfl) dX0_goalOf_44 ?_
      refine z_topI C (fun mk emk => ?_)
      refine z_istore C [(6, .int (iI mk)), (5, .int (iI fe)), (4, .int (iI c0)), (0, .ref h), (1, .ref s), (2, .int (iI ((w : Int)))), (3, .int (iI kd))] dX0_goalOf_47 (by decide) rfl ?_
      refine z_iconst C dX0_goalOf_49 ?_
      refine z_istore C [(7, .int (iI 0)), (6, .int (iI mk)), (5, .int (iI fe)), (4, .int (iI c0)), (0, .ref h), (1, .ref s), (2, .int (iI ((w : Int)))), (3, .int (iI kd))] dX0_goalOf_50 (by decide) rfl ?_
      have hmk : -1 ≤ mk ∧ mk ≤ 66 := by rw [emk]; exact leadN_r (by omega) k3
      have hfe : -1 ≤ fe ∧ fe ≤ 9 := by have h9 : fe = frN kd.toNat := efe; have := frN_r kd.toNat; omega
      have hG : goalN (hv I J h) (I s 0) (I (s + 1)) w kd = git (I h 0) (J h 5) (I h 1) (I s 0) fe (srN kd.toNat) mk c0 (tmN kd.toNat).toNat := by subst efe; subst emk; subst ec0; simp only [goalN, fearN, markN, hv]; rw [if_neg h10, if_neg h10]; rfl
      refine zZ_sub [4, 5, 6, 7, 2, 1, 3, 0] rfl ?_
      refine zZ_cast (σ' := (fun _ : Nat => zst I J q) 0) (L' := (fun e : Nat => [(0, .ref h), (1, .ref s), (2, .int (iI ((w : Int)))), (3, .int (iI kd)), (5, .int (iI fe)), (6, .int (iI mk)), (4, .int (iI (git (I h 0) (J h 5) (I h 1) (I s 0) fe (srN kd.toNat) mk c0 e))), (7, .int (iI (e : Int)))]) 0) rfl rfl rfl ?_
      refine zfor ((tmN kd.toNat).toNat) (fun _ => True) (fun _ : Nat => zst I J q) (fun e : Nat => [(0, .ref h), (1, .ref s), (2, .int (iI ((w : Int)))), (3, .int (iI kd)), (5, .int (iI fe)), (6, .int (iI mk)), (4, .int (iI (git (I h 0) (J h 5) (I h 1) (I s 0) fe (srN kd.toNat) mk c0 e))), (7, .int (iI (e : Int)))]) trivial ?_ ?_
      · intro e hee hpe kke
        have hcr := git_r (w := J h 5) (pen := I h 1) (dog := I s 0) (fears := fe) (stares := srN kd.toNat) (c := c0) g1.2 (by omega) hmk e
        obtain ⟨cc, hcc⟩ : ∃ cc, (git (I h 0) (J h 5) (I h 1) (I s 0) fe (srN kd.toNat) mk c0 e) = cc := ⟨_, rfl⟩
        rw [hcc] at hcr ⊢
        refine z_iload C 7 rfl dX0_goalOf_52 ?_
        refine z_getsN C (k := 2) rfl (List.mem_of_getElem? (i := 1) rfl) rfl dX0_goalOf_54 ?_
        refine z_iload_n C 3 rfl dX0_goalOf_57 rfl ?_
        refine z_ialdS C (k := 2) rfl kd.toNat (by omega) (show _ < 6 by omega) (by decide) dX0_goalOf_58 ?_
        show zZ g X 0 0 (zst I J q) _ _ (.int (iI (tmN kd.toNat)) :: _)
        refine z_icmp_ge C 119 dX0_goalOf_59 (by decide) (by omega) (by omega) (fun h59 => ?_) (fun h59 => ?_)
        · omega
        · refine z_iload C 6 rfl dX0_goalOf_62 ?_
          refine z_aload_n C 0 rfl dX0_goalOf_64 rfl ?_
          refine y_getI C zCl0 1 flX0_15 rfl (lay_h hh) dX0_goalOf_65 ?_
          refine z_icmp_eq C 119 dX0_goalOf_68 (by decide) (by omega) (by omega) (fun h68 => ?_) (fun h68 => ?_)
          · refine z_iload C 6 rfl dX0_goalOf_119 ?_
            exact zZ_iret C hR (Nat.le_refl _) (Nat.le_refl _) dX0_goalOf_121 rfl (zIs_I (by rw [hG, git_pen (hcc.trans h68) (tmN kd.toNat).toNat (by omega)]; exact h68) rfl)
          · refine z_iload C 6 rfl dX0_goalOf_71 ?_
            refine z_aload_n C 1 rfl dX0_goalOf_73 rfl ?_
            refine y_getI C zCl3 0 flX0_71 rfl (lay_s iss) dX0_goalOf_74 ?_
            refine y_callN2 C (host := RX5) oX5_stepsBetween sX5_stepsBetween (List.mem_of_getElem? (i := 5) rfl) (c_X5_stepsBetween (by first | assumption | omega) (by first | assumption | omega)) (by decide) (Nat.le_refl _) (Nat.le_refl _) (Nat.le_of_ble_eq_true rfl) dX0_goalOf_77 ?_
            refine z_topI C (fun aw eaw => ?_)
            have haw := stp_r (c := cc) (d := I s 0) (by omega) (by omega)
            refine z_istore C [(8, .int (iI aw)), (0, .ref h), (1, .ref s), (2, .int (iI ((w : Int)))), (3, .int (iI kd)), (5, .int (iI fe)), (6, .int (iI mk)), (4, .int (iI cc)), (7, .int (iI ((e : Int))))] dX0_goalOf_80 (by decide) rfl ?_
            refine z_iload C 0 rfl dX0_goalOf_82 ?_
            refine z_iload C 5 rfl dX0_goalOf_84 ?_
            refine z_icmp_gt C 113 dX0_goalOf_86 (by decide) (by omega) (by omega) (fun h86 => ?_) (fun h86 => ?_)
            · obtain ⟨v1, ev1⟩ : ∃ y : Int, y = (e : Int) + 1 := ⟨_, rfl⟩
              refine z_iinc C 8 v1 [(7, .int (iI v1)), (8, .int (iI aw)), (0, .ref h), (1, .ref s), (2, .int (iI ((w : Int)))), (3, .int (iI kd)), (5, .int (iI fe)), (6, .int (iI mk)), (4, .int (iI cc))] dX0_goalOf_113 rfl ev1.symm (by decide) rfl ?_
              refine z_goto C 52 dX0_goalOf_116 (by decide) ?_
              refine zZ_sub [2, 3, 4, 5, 6, 7, 8, 0] rfl ?_
              refine zZ_cast rfl (zLk (zLk (zLk (zLk (zLk (zLk (zLc (by simp only [git, hcc, gstp]; rw [if_neg h68, if_neg (by omega)]) (zLc (by omega) rfl)))))))) rfl (kke trivial)
            · refine z_iload C 0 rfl dX0_goalOf_89 ?_
              refine z_getsN C (k := 4) rfl (List.mem_of_getElem? (i := 2) rfl) rfl dX0_goalOf_91 ?_
              refine z_iload_n C 4 rfl dX0_goalOf_94 rfl ?_
              refine z_ialdS C (k := 4) rfl kd.toNat (by omega) (show _ < 6 by omega) (by decide) dX0_goalOf_95 ?_
              show zZ g X 0 0 (zst I J q) _ _ (.int (iI (srN kd.toNat)) :: _)
              refine z_icmp_le C 113 dX0_goalOf_96 (by decide) (by omega) (by omega) (fun h96 => ?_) (fun h96 => ?_)
              · obtain ⟨v2, ev2⟩ : ∃ y : Int, y = (e : Int) + 1 := ⟨_, rfl⟩
                refine z_iinc C 8 v2 [(7, .int (iI v2)), (8, .int (iI aw)), (0, .ref h), (1, .ref s), (2, .int (iI ((w : Int)))), (3, .int (iI kd)), (5, .int (iI fe)), (6, .int (iI mk)), (4, .int (iI cc))] dX0_goalOf_113 rfl ev2.symm (by decide) rfl ?_
                refine z_goto C 52 dX0_goalOf_116 (by decide) ?_
                refine zZ_sub [2, 3, 4, 5, 6, 7, 8, 0] rfl ?_
                refine zZ_cast rfl (zLk (zLk (zLk (zLk (zLk (zLk (zLc (by simp only [git, hcc, gstp]; rw [if_neg h68, if_neg (by omega)]) (zLc (by omega) rfl)))))))) rfl (kke trivial)
              · refine z_aload_n C 1 rfl dX0_goalOf_99 rfl ?_
                refine z_iload C 7 rfl dX0_goalOf_100 ?_
                refine z_aload_n C 2 rfl dX0_goalOf_102 rfl ?_
                refine y_getI C zCl3 0 flX0_71 rfl (lay_s iss) dX0_goalOf_103 ?_
                refine z_iload C 6 rfl dX0_goalOf_106 ?_
                refine y_callV3 C oX0_nextFrom iX0_nextFrom eX0_nextFrom lkX0_117 (c_X0_nextFrom hh hg (by first | assumption | omega) (by first | assumption | omega) (by first | assumption | omega)) (lay_h hh) (by decide) rfl rfl (by decide) (Nat.le_refl _) (Nat.le_refl _) (Nat.le_of_ble_eq_true rfl) dX0_goalOf_108 ?_
                refine z_topI C (fun nx enx => ?_)
                refine z_istore C [(4, .int (iI nx)), (8, .int (iI aw)), (0, .ref h), (1, .ref s), (2, .int (iI ((w : Int)))), (3, .int (iI kd)), (5, .int (iI fe)), (6, .int (iI mk)), (7, .int (iI ((e : Int))))] dX0_goalOf_111 (by decide) rfl ?_
                obtain ⟨v3, ev3⟩ : ∃ y : Int, y = (e : Int) + 1 := ⟨_, rfl⟩
                refine z_iinc C 8 v3 [(7, .int (iI v3)), (4, .int (iI nx)), (8, .int (iI aw)), (0, .ref h), (1, .ref s), (2, .int (iI ((w : Int)))), (3, .int (iI kd)), (5, .int (iI fe)), (6, .int (iI mk))] dX0_goalOf_113 rfl ev3.symm (by decide) rfl ?_
                refine z_goto C 52 dX0_goalOf_116 (by decide) ?_
                refine zZ_sub [3, 4, 5, 6, 7, 8, 1, 0] rfl ?_
                refine zZ_cast rfl (zLk (zLk (zLk (zLk (zLk (zLk (zLc (by simp only [git, hcc, gstp]; rw [if_neg h68, if_pos (by omega)]; exact enx) (zLc (by omega) rfl)))))))) rfl (kke trivial)
      · intro hpe
        refine z_iload C 7 rfl dX0_goalOf_52 ?_
        refine z_getsN C (k := 2) rfl (List.mem_of_getElem? (i := 1) rfl) rfl dX0_goalOf_54 ?_
        refine z_iload_n C 3 rfl dX0_goalOf_57 rfl ?_
        refine z_ialdS C (k := 2) rfl kd.toNat (by omega) (show _ < 6 by omega) (by decide) dX0_goalOf_58 ?_
        show zZ g X 0 0 (zst I J q) _ _ (.int (iI (tmN kd.toNat)) :: _)
        refine z_icmp_ge C 119 dX0_goalOf_59 (by decide) (by omega) (by omega) (fun h59 => ?_) (fun h59 => ?_)
        · refine z_iload C 6 rfl dX0_goalOf_119 ?_
          exact zZ_iret C hR (Nat.le_refl _) (Nat.le_refl _) dX0_goalOf_121 rfl (zIs_I hG.symm rfl)
        · omega
    · omega
  · refine z_aload_n C 1 rfl dX0_goalOf_13 rfl ?_
    refine y_getR C zCl0 8 flX0_38 rfl (lay_h hh) (rt_h8 hh) dX0_goalOf_14 ?_
    refine z_iload_n C 3 rfl dX0_goalOf_17 rfl ?_
    refine y_iald C w (by omega) (lay_h2 hh) (by omega) (by decide) dX0_goalOf_18 ?_
    refine z_goto C 27 dX0_goalOf_19 (by decide) ?_
    refine z_topI C (fun fe efe => ?_)
    refine z_istore C [(5, .int (iI fe)), (4, .int (iI c0)), (0, .ref h), (1, .ref s), (2, .int (iI ((w : Int)))), (3, .int (iI kd))] dX0_goalOf_27 (by decide) rfl ?_
    refine z_iload_n C 5 rfl dX0_goalOf_29 rfl ?_
    refine z_iconst C dX0_goalOf_30 ?_
    refine z_icmp_ne C 41 dX0_goalOf_31 (by decide) (by omega) (by omega) (fun h31 => ?_) (fun h31 => ?_)
    · omega
    · refine z_aload_n C 2 rfl dX0_goalOf_34 rfl ?_
      refine y_getI C zCl0 1 flX0_15 rfl (lay_h hh) dX0_goalOf_35 ?_
      refine z_goto C 47 dX0_goalOf_38 (by decide) ?_
      refine z_topI C (fun mk emk => ?_)
      refine z_istore C [(6, .int (iI mk)), (5, .int (iI fe)), (4, .int (iI c0)), (0, .ref h), (1, .ref s), (2, .int (iI ((w : Int)))), (3, .int (iI kd))] dX0_goalOf_47 (by decide) rfl ?_
      refine z_iconst C dX0_goalOf_49 ?_
      refine z_istore C [(7, .int (iI 0)), (6, .int (iI mk)), (5, .int (iI fe)), (4, .int (iI c0)), (0, .ref h), (1, .ref s), (2, .int (iI ((w : Int)))), (3, .int (iI kd))] dX0_goalOf_50 (by decide) rfl ?_
      have hmk : -1 ≤ mk ∧ mk ≤ 66 := by omega
      have hfe : -1 ≤ fe ∧ fe ≤ 9 := by have := g6 w (by omega); omega
      have hG : goalN (hv I J h) (I s 0) (I (s + 1)) w kd = git (I h 0) (J h 5) (I h 1) (I s 0) fe (srN kd.toNat) mk c0 (tmN kd.toNat).toNat := by subst efe; subst emk; subst ec0; simp [goalN, fearN, markN, hv, h10]
      refine zZ_sub [4, 5, 6, 7, 2, 1, 3, 0] rfl ?_
      refine zZ_cast (σ' := (fun _ : Nat => zst I J q) 0) (L' := (fun e : Nat => [(0, .ref h), (1, .ref s), (2, .int (iI ((w : Int)))), (3, .int (iI kd)), (5, .int (iI fe)), (6, .int (iI mk)), (4, .int (iI (git (I h 0) (J h 5) (I h 1) (I s 0) fe (srN kd.toNat) mk c0 e))), (7, .int (iI (e : Int)))]) 0) rfl rfl rfl ?_
      refine zfor ((tmN kd.toNat).toNat) (fun _ => True) (fun _ : Nat => zst I J q) (fun e : Nat => [(0, .ref h), (1, .ref s), (2, .int (iI ((w : Int)))), (3, .int (iI kd)), (5, .int (iI fe)), (6, .int (iI mk)), (4, .int (iI (git (I h 0) (J h 5) (I h 1) (I s 0) fe (srN kd.toNat) mk c0 e))), (7, .int (iI (e : Int)))]) trivial ?_ ?_
      · intro e hee hpe kke
        have hcr := git_r (w := J h 5) (pen := I h 1) (dog := I s 0) (fears := fe) (stares := srN kd.toNat) (c := c0) g1.2 (by omega) hmk e
        obtain ⟨cc, hcc⟩ : ∃ cc, (git (I h 0) (J h 5) (I h 1) (I s 0) fe (srN kd.toNat) mk c0 e) = cc := ⟨_, rfl⟩
        rw [hcc] at hcr ⊢
        refine z_iload C 7 rfl dX0_goalOf_52 ?_
        refine z_getsN C (k := 2) rfl (List.mem_of_getElem? (i := 1) rfl) rfl dX0_goalOf_54 ?_
        refine z_iload_n C 3 rfl dX0_goalOf_57 rfl ?_
        refine z_ialdS C (k := 2) rfl kd.toNat (by omega) (show _ < 6 by omega) (by decide) dX0_goalOf_58 ?_
        show zZ g X 0 0 (zst I J q) _ _ (.int (iI (tmN kd.toNat)) :: _)
        refine z_icmp_ge C 119 dX0_goalOf_59 (by decide) (by omega) (by omega) (fun h59 => ?_) (fun h59 => ?_)
        · omega
        · refine z_iload C 6 rfl dX0_goalOf_62 ?_
          refine z_aload_n C 0 rfl dX0_goalOf_64 rfl ?_
          refine y_getI C zCl0 1 flX0_15 rfl (lay_h hh) dX0_goalOf_65 ?_
          refine z_icmp_eq C 119 dX0_goalOf_68 (by decide) (by omega) (by omega) (fun h68 => ?_) (fun h68 => ?_)
          · refine z_iload C 6 rfl dX0_goalOf_119 ?_
            exact zZ_iret C hR (Nat.le_refl _) (Nat.le_refl _) dX0_goalOf_121 rfl (zIs_I (by rw [hG, git_pen (hcc.trans h68) (tmN kd.toNat).toNat (by omega)]; exact h68) rfl)
          · refine z_iload C 6 rfl dX0_goalOf_71 ?_
            refine z_aload_n C 1 rfl dX0_goalOf_73 rfl ?_
            refine y_getI C zCl3 0 flX0_71 rfl (lay_s iss) dX0_goalOf_74 ?_
            refine y_callN2 C (host := RX5) oX5_stepsBetween sX5_stepsBetween (List.mem_of_getElem? (i := 5) rfl) (c_X5_stepsBetween (by first | assumption | omega) (by first | assumption | omega)) (by decide) (Nat.le_refl _) (Nat.le_refl _) (Nat.le_of_ble_eq_true rfl) dX0_goalOf_77 ?_
            refine z_topI C (fun aw eaw => ?_)
            have haw := stp_r (c := cc) (d := I s 0) (by omega) (by omega)
            refine z_istore C [(8, .int (iI aw)), (0, .ref h), (1, .ref s), (2, .int (iI ((w : Int)))), (3, .int (iI kd)), (5, .int (iI fe)), (6, .int (iI mk)), (4, .int (iI cc)), (7, .int (iI ((e : Int))))] dX0_goalOf_80 (by decide) rfl ?_
            refine z_iload C 0 rfl dX0_goalOf_82 ?_
            refine z_iload C 5 rfl dX0_goalOf_84 ?_
            refine z_icmp_gt C 113 dX0_goalOf_86 (by decide) (by omega) (by omega) (fun h86 => ?_) (fun h86 => ?_)
            · obtain ⟨v4, ev4⟩ : ∃ y : Int, y = (e : Int) + 1 := ⟨_, rfl⟩
              refine z_iinc C 8 v4 [(7, .int (iI v4)), (8, .int (iI aw)), (0, .ref h), (1, .ref s), (2, .int (iI ((w : Int)))), (3, .int (iI kd)), (5, .int (iI fe)), (6, .int (iI mk)), (4, .int (iI cc))] dX0_goalOf_113 rfl ev4.symm (by decide) rfl ?_
              refine z_goto C 52 dX0_goalOf_116 (by decide) ?_
              refine zZ_sub [2, 3, 4, 5, 6, 7, 8, 0] rfl ?_
              refine zZ_cast rfl (zLk (zLk (zLk (zLk (zLk (zLk (zLc (by simp only [git, hcc, gstp]; rw [if_neg h68, if_neg (by omega)]) (zLc (by omega) rfl)))))))) rfl (kke trivial)
            · refine z_iload C 0 rfl dX0_goalOf_89 ?_
              refine z_getsN C (k := 4) rfl (List.mem_of_getElem? (i := 2) rfl) rfl dX0_goalOf_91 ?_
              refine z_iload_n C 4 rfl dX0_goalOf_94 rfl ?_
              refine z_ialdS C (k := 4) rfl kd.toNat (by omega) (show _ < 6 by omega) (by decide) dX0_goalOf_95 ?_
              show zZ g X 0 0 (zst I J q) _ _ (.int (iI (srN kd.toNat)) :: _)
              refine z_icmp_le C 113 dX0_goalOf_96 (by decide) (by omega) (by omega) (fun h96 => ?_) (fun h96 => ?_)
              · obtain ⟨v5, ev5⟩ : ∃ y : Int, y = (e : Int) + 1 := ⟨_, rfl⟩
                refine z_iinc C 8 v5 [(7, .int (iI v5)), (8, .int (iI aw)), (0, .ref h), (1, .ref s), (2, .int (iI ((w : Int)))), (3, .int (iI kd)), (5, .int (iI fe)), (6, .int (iI mk)), (4, .int (iI cc))] dX0_goalOf_113 rfl ev5.symm (by decide) rfl ?_
                refine z_goto C 52 dX0_goalOf_116 (by decide) ?_
                refine zZ_sub [2, 3, 4, 5, 6, 7, 8, 0] rfl ?_
                refine zZ_cast rfl (zLk (zLk (zLk (zLk (zLk (zLk (zLc (by simp only [git, hcc, gstp]; rw [if_neg h68, if_neg (by omega)]) (zLc (by omega) rfl)))))))) rfl (kke trivial)
              · refine z_aload_n C 1 rfl dX0_goalOf_99 rfl ?_
                refine z_iload C 7 rfl dX0_goalOf_100 ?_
                refine z_aload_n C 2 rfl dX0_goalOf_102 rfl ?_
                refine y_getI C zCl3 0 flX0_71 rfl (lay_s iss) dX0_goalOf_103 ?_
                refine z_iload C 6 rfl dX0_goalOf_106 ?_
                refine y_callV3 C oX0_nextFrom iX0_nextFrom eX0_nextFrom lkX0_117 (c_X0_nextFrom hh hg (by first | assumption | omega) (by first | assumption | omega) (by first | assumption | omega)) (lay_h hh) (by decide) rfl rfl (by decide) (Nat.le_refl _) (Nat.le_refl _) (Nat.le_of_ble_eq_true rfl) dX0_goalOf_108 ?_
                refine z_topI C (fun nx enx => ?_)
                refine z_istore C [(4, .int (iI nx)), (8, .int (iI aw)), (0, .ref h), (1, .ref s), (2, .int (iI ((w : Int)))), (3, .int (iI kd)), (5, .int (iI fe)), (6, .int (iI mk)), (7, .int (iI ((e : Int))))] dX0_goalOf_111 (by decide) rfl ?_
                obtain ⟨v6, ev6⟩ : ∃ y : Int, y = (e : Int) + 1 := ⟨_, rfl⟩
                refine z_iinc C 8 v6 [(7, .int (iI v6)), (4, .int (iI nx)), (8, .int (iI aw)), (0, .ref h), (1, .ref s), (2, .int (iI ((w : Int)))), (3, .int (iI kd)), (5, .int (iI fe)), (6, .int (iI mk))] dX0_goalOf_113 rfl ev6.symm (by decide) rfl ?_
                refine z_goto C 52 dX0_goalOf_116 (by decide) ?_
                refine zZ_sub [3, 4, 5, 6, 7, 8, 1, 0] rfl ?_
                refine zZ_cast rfl (zLk (zLk (zLk (zLk (zLk (zLk (zLc (by simp only [git, hcc, gstp]; rw [if_neg h68, if_pos (by omega)]; exact enx) (zLc (by omega) rfl)))))))) rfl (kke trivial)
      · intro hpe
        refine z_iload C 7 rfl dX0_goalOf_52 ?_
        refine z_getsN C (k := 2) rfl (List.mem_of_getElem? (i := 1) rfl) rfl dX0_goalOf_54 ?_
        refine z_iload_n C 3 rfl dX0_goalOf_57 rfl ?_
        refine z_ialdS C (k := 2) rfl kd.toNat (by omega) (show _ < 6 by omega) (by decide) dX0_goalOf_58 ?_
        show zZ g X 0 0 (zst I J q) _ _ (.int (iI (tmN kd.toNat)) :: _)
        refine z_icmp_ge C 119 dX0_goalOf_59 (by decide) (by omega) (by omega) (fun h59 => ?_) (fun h59 => ?_)
        · refine z_iload C 6 rfl dX0_goalOf_119 ?_
          exact zZ_iret C hR (Nat.le_refl _) (Nat.le_refl _) dX0_goalOf_121 rfl (zIs_I hG.symm rfl)
        · omega
set_option maxHeartbeats 4000000 in
set_option maxRecDepth 100000 in
theorem c_X0_canDo {g : zG} {I : Nat → Nat → Int} {J : Nat → Nat → Int64} {q : Nat × Nat} {h : Nat} {dog c : Int} (hh : isH h) (hg : gH I h) (hdog : 0 ≤ dog ∧ dog ≤ 66) (hc : 0 ≤ c ∧ c ≤ 4) : zRun g mX0_canDo 3 [.ref h, .int (iI dog), .int (iI c)] (zst I J q) (some (.int (iI (bI (canN (I h 0) (J h 5) (I h 1) dog c))))) (zst I J q) := by
  obtain ⟨g1, g2, g3, g4, g5, g6⟩ := id hg
  have hsh := shN_r c.toNat
  refine zRuns_intro rfl (Nat.le_of_ble_eq_true rfl) (fun X C hR => ?_)
  show zZ g X 0 0 _ 0 [(0, .ref h), (1, .int (iI dog)), (2, .int (iI c))] []
  refine z_iload_n C 2 rfl dX0_canDo_0 rfl ?_
  refine z_if_eq C 18 dX0_canDo_1 (by decide) (by omega) (fun h1 => ?_) (fun h1 => ?_)
  · refine z_iconst C dX0_canDo_18 ?_
    refine z_goto C 23 dX0_canDo_19 (by decide) ?_
    exact zZ_zret C hR (Nat.le_refl _) (Nat.le_refl _) dX0_canDo_23 rfl (Or.inr rfl) (zIs_I (by simp [bI, canN, *]) rfl)
  · refine z_aload_n C 0 rfl dX0_canDo_4 rfl ?_
    refine z_iload_n C 1 rfl dX0_canDo_5 rfl ?_
    refine z_getsN C (k := 0) rfl (List.mem_of_getElem? (i := 3) rfl) rfl dX0_canDo_6 ?_
    refine z_iload_n C 2 rfl dX0_canDo_9 rfl ?_
    refine z_ialdS C (k := 0) rfl c.toNat (by omega) (show _ < 5 by omega) (by decide) dX0_canDo_10 ?_
    show zZ g X 0 0 (zst I J q) _ _ (.int (iI (shN c.toNat)) :: _)
    refine z_iadd C dX0_canDo_11 ?_
    refine y_callV1 C oX0_mayBeDogs iX0_mayBeDogs eX0_mayBeDogs lkX0_94 (c_X0_mayBeDogs hh hg (by first | assumption | omega)) (lay_h hh) (by decide) rfl rfl (by decide) (Nat.le_refl _) (Nat.le_refl _) (Nat.le_of_ble_eq_true rfl) dX0_canDo_12 ?_
    refine y_if_eqB C 22 dX0_canDo_15 (by decide) (fun h15 => ?_) (fun h15 => ?_)
    · refine z_iconst C dX0_canDo_22 ?_
      exact zZ_zret C hR (Nat.le_refl _) (Nat.le_refl _) dX0_canDo_23 rfl (Or.inl rfl) (zIs_I (by simp [bI, canN, *]) rfl)
    · refine z_iconst C dX0_canDo_18 ?_
      refine z_goto C 23 dX0_canDo_19 (by decide) ?_
      exact zZ_zret C hR (Nat.le_refl _) (Nat.le_refl _) dX0_canDo_23 rfl (Or.inr rfl) (zIs_I (by simp [bI, canN, *]) rfl)
set_option maxHeartbeats 4000000 in
set_option maxRecDepth 100000 in
theorem c_X0_countWithin {g : zG} {I : Nat → Nat → Int} {J : Nat → Nat → Int64} {q : Nat × Nat} {h s : Nat} {l : Int} (hh : isH h) (iss : isS s) (hg : gH I h) (hs : gS I s) (hlv : 0 ≤ l ∧ l ≤ 6) : zRun g mX0_countWithin 2 [.ref h, .ref s, .int (iI l)] (zst I J q) (some (.int (iI (withinN (hv I J h) (I (s + 1)) l)))) (zst I J q) := by
  obtain ⟨g1, g2, g3, g4, g5, g6⟩ := id hg
  obtain ⟨k1, k2, k3⟩ := id hs
  obtain ⟨n, hn⟩ : ∃ n : Nat, I h 6 = n := ⟨(I h 6).toNat, by omega⟩
  have hn2 : (I h 6).toNat = n := by omega
  have hW : withinN (hv I J h) (I (s + 1)) l = cnt (fun e => decide (stp (I (s + 1) e) (I h 1) ≤ l * tmN (I (h + 1) e).toNat)) n := by rw [← hn2]; rfl
  refine zRuns_intro rfl (Nat.le_of_ble_eq_true rfl) (fun X C hR => ?_)
  show zZ g X 0 0 _ 0 [(0, .ref h), (1, .ref s), (2, .int (iI l))] []
  refine z_iconst C dX0_countWithin_0 ?_
  refine z_istore_n C [(3, .int (iI 0)), (0, .ref h), (1, .ref s), (2, .int (iI l))] dX0_countWithin_1 rfl (by decide) rfl ?_
  refine z_iconst C dX0_countWithin_2 ?_
  refine z_istore C [(4, .int (iI 0)), (3, .int (iI 0)), (0, .ref h), (1, .ref s), (2, .int (iI l))] dX0_countWithin_3 (by decide) rfl ?_
  refine zZ_sub [2, 3, 4, 1, 0] rfl ?_
  refine zZ_cast (σ' := (fun _ : Nat => zst I J q) 0) (L' := (fun e : Nat => [(0, .ref h), (1, .ref s), (2, .int (iI l)), (3, .int (iI (cnt (fun e => decide (stp (I (s + 1) e) (I h 1) ≤ l * tmN (I (h + 1) e).toNat)) e))), (4, .int (iI (e : Int)))]) 0) rfl rfl rfl ?_
  refine zfor (n) (fun _ => True) (fun _ : Nat => zst I J q) (fun e : Nat => [(0, .ref h), (1, .ref s), (2, .int (iI l)), (3, .int (iI (cnt (fun e => decide (stp (I (s + 1) e) (I h 1) ≤ l * tmN (I (h + 1) e).toNat)) e))), (4, .int (iI (e : Int)))]) trivial ?_ ?_
  · intro e hee hpe kke
    have q3 := k3 e (by omega)
    have q5 := g5 e (by omega)
    have ht := tmN_r (k := (I (h + 1) e).toNat) (by omega)
    have hst := stp_r (c := I (s + 1) e) (d := I h 1) (by omega) (by omega)
    have hmul : 0 ≤ l * tmN (I (h + 1) e).toNat ∧ l * tmN (I (h + 1) e).toNat ≤ 18 := by
      rcases (show tmN (I (h + 1) e).toNat = 1 ∨ tmN (I (h + 1) e).toNat = 2 ∨ tmN (I (h + 1) e).toNat = 3 by omega) with z | z | z <;> rw [z] <;> omega
    obtain ⟨ct, hct⟩ : ∃ ct, cnt (fun e => decide (stp (I (s + 1) e) (I h 1) ≤ l * tmN (I (h + 1) e).toNat)) e = ct := ⟨_, rfl⟩
    rw [hct]
    refine z_iload C 4 rfl dX0_countWithin_5 ?_
    refine z_aload_n C 0 rfl dX0_countWithin_7 rfl ?_
    refine y_getI C zCl0 6 flX0_31 rfl (lay_h hh) dX0_countWithin_8 ?_
    refine z_icmp_ge C 53 dX0_countWithin_11 (by decide) (by omega) (by omega) (fun h11 => ?_) (fun h11 => ?_)
    · omega
    · refine z_aload_n C 1 rfl dX0_countWithin_14 rfl ?_
      refine y_getR C zCl3 2 flX0_77 rfl (lay_s iss) (rt_s iss) dX0_countWithin_15 ?_
      refine z_iload C 4 rfl dX0_countWithin_18 ?_
      refine y_iald C e (by omega) (lay_s1 iss) (by omega) (by decide) dX0_countWithin_20 ?_
      refine z_aload_n C 0 rfl dX0_countWithin_21 rfl ?_
      refine y_getI C zCl0 1 flX0_15 rfl (lay_h hh) dX0_countWithin_22 ?_
      refine y_callN2 C (host := RX5) oX5_stepsBetween sX5_stepsBetween (List.mem_of_getElem? (i := 5) rfl) (c_X5_stepsBetween (by first | assumption | omega) (by first | assumption | omega)) (by decide) (Nat.le_refl _) (Nat.le_refl _) (Nat.le_of_ble_eq_true rfl) dX0_countWithin_25 ?_
      refine z_iload_n C 2 rfl dX0_countWithin_28 rfl ?_
      refine z_getsN C (k := 2) rfl (List.mem_of_getElem? (i := 1) rfl) rfl dX0_countWithin_29 ?_
      refine z_aload_n C 0 rfl dX0_countWithin_32 rfl ?_
      refine y_getR C zCl0 7 flX0_34 rfl (lay_h hh) (rt_h7 hh) dX0_countWithin_33 ?_
      refine z_iload C 4 rfl dX0_countWithin_36 ?_
      refine y_iald C e (by omega) (lay_h1 hh) (by omega) (by decide) dX0_countWithin_38 ?_
      refine z_ialdS C (k := 2) rfl (I (h + 1) e).toNat (by omega) (show _ < 6 by omega) (by decide) dX0_countWithin_39 ?_
      show zZ g X 0 0 (zst I J q) _ _ (.int (iI (tmN (I (h + 1) e).toNat)) :: _)
      refine z_imul C dX0_countWithin_40 ?_
      refine z_icmp_gt C 47 dX0_countWithin_41 (by decide) (by omega) (by omega) (fun h41 => ?_) (fun h41 => ?_)
      · obtain ⟨v1, ev1⟩ : ∃ y : Int, y = (e : Int) + 1 := ⟨_, rfl⟩
        refine z_iinc C 4 v1 [(4, .int (iI v1)), (0, .ref h), (1, .ref s), (2, .int (iI l)), (3, .int (iI ct))] dX0_countWithin_47 rfl ev1.symm (by decide) rfl ?_
        refine z_goto C 5 dX0_countWithin_50 (by decide) ?_
        refine zZ_sub [1, 2, 3, 4, 0] rfl ?_
        refine zZ_cast rfl (zLk (zLk (zLk (zLc (by simp only [cnt]; rw [hct, show decide (stp (I (s + 1) e) (I h 1) ≤ l * tmN (I (h + 1) e).toNat) = false from by simp; omega]; simp [bI] <;> omega) (zLc (by omega) rfl))))) rfl (kke trivial)
      · obtain ⟨v2, ev2⟩ : ∃ y : Int, y = ct + 1 := ⟨_, rfl⟩
        refine z_iinc C 3 v2 [(3, .int (iI v2)), (0, .ref h), (1, .ref s), (2, .int (iI l)), (4, .int (iI ((e : Int))))] dX0_countWithin_44 rfl ev2.symm (by decide) rfl ?_
        obtain ⟨v3, ev3⟩ : ∃ y : Int, y = (e : Int) + 1 := ⟨_, rfl⟩
        refine z_iinc C 4 v3 [(4, .int (iI v3)), (3, .int (iI v2)), (0, .ref h), (1, .ref s), (2, .int (iI l))] dX0_countWithin_47 rfl ev3.symm (by decide) rfl ?_
        refine z_goto C 5 dX0_countWithin_50 (by decide) ?_
        refine zZ_sub [2, 3, 4, 1, 0] rfl ?_
        refine zZ_cast rfl (zLk (zLk (zLk (zLc (by simp only [cnt]; rw [hct, show decide (stp (I (s + 1) e) (I h 1) ≤ l * tmN (I (h + 1) e).toNat) = true from by simp; omega]; simp [bI] <;> omega) (zLc (by omega) rfl))))) rfl (kke trivial)
  · intro hpe
    refine z_iload C 4 rfl dX0_countWithin_5 ?_
    refine z_aload_n C 0 rfl dX0_countWithin_7 rfl ?_
    refine y_getI C zCl0 6 flX0_31 rfl (lay_h hh) dX0_countWithin_8 ?_
    refine z_icmp_ge C 53 dX0_countWithin_11 (by decide) (by omega) (by omega) (fun h11 => ?_) (fun h11 => ?_)
    · refine z_iload_n C 3 rfl dX0_countWithin_53 rfl ?_
      exact zZ_iret C hR (Nat.le_refl _) (Nat.le_refl _) dX0_countWithin_54 rfl (zIs_I hW.symm rfl)
    · omega
set_option maxHeartbeats 4000000 in
set_option maxRecDepth 100000 in
theorem c_X0_countIn {g : zG} {I : Nat → Nat → Int} {J : Nat → Nat → Int64} {q : Nat × Nat} {h s : Nat} (hh : isH h) (iss : isS s) (hg : gH I h) (hs : gS I s) : zRun g mX0_countIn 3 [.ref h, .ref s] (zst I J q) (some (.int (iI (inN (hv I J h) (I (s + 1)))))) (zst I J q) := by
  obtain ⟨g1, g2, g3, g4, g5, g6⟩ := id hg
  obtain ⟨k1, k2, k3⟩ := id hs
  have hE : withinN (hv I J h) (I (s + 1)) 0 = inN (hv I J h) (I (s + 1)) := by
    unfold withinN inN
    refine cnt_cong (fun e he => ?_)
    have he2 : e < (I h 6).toNat := he
    have q3 := k3 e (by omega)
    rw [Int.zero_mul]
    exact decide_eq_decide.mpr (stp_0 (by omega) (show 0 ≤ I h 1 ∧ I h 1 ≤ 99 by omega))
  refine zRuns_intro rfl (Nat.le_of_ble_eq_true rfl) (fun X C hR => ?_)
  show zZ g X 0 0 _ 0 [(0, .ref h), (1, .ref s)] []
  refine z_aload_n C 0 rfl dX0_countIn_0 rfl ?_
  refine z_aload_n C 1 rfl dX0_countIn_1 rfl ?_
  refine z_iconst C dX0_countIn_2 ?_
  refine y_callV2 C oX0_countWithin iX0_countWithin eX0_countWithin lkX0_80 (c_X0_countWithin hh iss hg hs (by first | assumption | omega)) (lay_h hh) (by decide) rfl rfl (by decide) (Nat.le_refl _) (Nat.le_refl _) (Nat.le_of_ble_eq_true rfl) dX0_countIn_3 ?_
  exact zZ_iret C hR (Nat.le_refl _) (Nat.le_refl _) dX0_countIn_6 rfl (zIs_I hE rfl)
set_option maxHeartbeats 4000000 in
set_option maxRecDepth 100000 in
theorem c_X0_stepsToPen {g : zG} {I : Nat → Nat → Int} {J : Nat → Nat → Int64} {q : Nat × Nat} {h s : Nat} (hh : isH h) (iss : isS s) (hg : gH I h) (hs : gS I s) : zRun g mX0_stepsToPen 2 [.ref h, .ref s] (zst I J q) (some (.int (iI (penN (hv I J h) (I (s + 1)))))) (zst I J q) := by
  obtain ⟨g1, g2, g3, g4, g5, g6⟩ := id hg
  obtain ⟨k1, k2, k3⟩ := id hs
  obtain ⟨n, hn⟩ : ∃ n : Nat, I h 6 = n := ⟨(I h 6).toNat, by omega⟩
  have hn2 : (I h 6).toNat = n := by omega
  have hW : penN (hv I J h) (I (s + 1)) = sumN (fun e => stp (I (s + 1) e) (I h 1)) n := by rw [← hn2]; rfl
  refine zRuns_intro rfl (Nat.le_of_ble_eq_true rfl) (fun X C hR => ?_)
  show zZ g X 0 0 _ 0 [(0, .ref h), (1, .ref s)] []
  refine z_iconst C dX0_stepsToPen_0 ?_
  refine z_istore_n C [(2, .int (iI 0)), (0, .ref h), (1, .ref s)] dX0_stepsToPen_1 rfl (by decide) rfl ?_
  refine z_iconst C dX0_stepsToPen_2 ?_
  refine z_istore_n C [(3, .int (iI 0)), (2, .int (iI 0)), (0, .ref h), (1, .ref s)] dX0_stepsToPen_3 rfl (by decide) rfl ?_
  refine zZ_sub [2, 3, 1, 0] rfl ?_
  refine zZ_cast (σ' := (fun _ : Nat => zst I J q) 0) (L' := (fun e : Nat => [(0, .ref h), (1, .ref s), (2, .int (iI (sumN (fun e => stp (I (s + 1) e) (I h 1)) e))), (3, .int (iI (e : Int)))]) 0) rfl rfl rfl ?_
  refine zfor (n) (fun _ => True) (fun _ : Nat => zst I J q) (fun e : Nat => [(0, .ref h), (1, .ref s), (2, .int (iI (sumN (fun e => stp (I (s + 1) e) (I h 1)) e))), (3, .int (iI (e : Int)))]) trivial ?_ ?_
  · intro e hee hpe kke
    have q3 := k3 e (by omega)
    refine z_iload_n C 3 rfl dX0_stepsToPen_4 rfl ?_
    refine z_aload_n C 0 rfl dX0_stepsToPen_5 rfl ?_
    refine y_getI C zCl0 6 flX0_31 rfl (lay_h hh) dX0_stepsToPen_6 ?_
    refine z_icmp_ge C 34 dX0_stepsToPen_9 (by decide) (by omega) (by omega) (fun h9 => ?_) (fun h9 => ?_)
    · omega
    · refine z_iload_n C 2 rfl dX0_stepsToPen_12 rfl ?_
      refine z_aload_n C 1 rfl dX0_stepsToPen_13 rfl ?_
      refine y_getR C zCl3 2 flX0_77 rfl (lay_s iss) (rt_s iss) dX0_stepsToPen_14 ?_
      refine z_iload_n C 3 rfl dX0_stepsToPen_17 rfl ?_
      refine y_iald C e (by omega) (lay_s1 iss) (by omega) (by decide) dX0_stepsToPen_18 ?_
      refine z_aload_n C 0 rfl dX0_stepsToPen_19 rfl ?_
      refine y_getI C zCl0 1 flX0_15 rfl (lay_h hh) dX0_stepsToPen_20 ?_
      refine y_callN2 C (host := RX5) oX5_stepsBetween sX5_stepsBetween (List.mem_of_getElem? (i := 5) rfl) (c_X5_stepsBetween (by first | assumption | omega) (by first | assumption | omega)) (by decide) (Nat.le_refl _) (Nat.le_refl _) (Nat.le_of_ble_eq_true rfl) dX0_stepsToPen_23 ?_
      refine z_iadd C dX0_stepsToPen_26 ?_
      refine z_topI C (fun v1 ev1 => ?_)
      refine z_istore_n C [(2, .int (iI v1)), (0, .ref h), (1, .ref s), (3, .int (iI ((e : Int))))] dX0_stepsToPen_27 rfl (by decide) rfl ?_
      obtain ⟨v2, ev2⟩ : ∃ y : Int, y = (e : Int) + 1 := ⟨_, rfl⟩
      refine z_iinc C 3 v2 [(3, .int (iI v2)), (2, .int (iI v1)), (0, .ref h), (1, .ref s)] dX0_stepsToPen_28 rfl ev2.symm (by decide) rfl ?_
      refine z_goto C 4 dX0_stepsToPen_31 (by decide) ?_
      refine zZ_sub [2, 3, 1, 0] rfl ?_
      refine zZ_cast rfl (zLk (zLk (zLc (by simp only [sumN]; omega) (zLc (by omega) rfl)))) rfl (kke trivial)
  · intro hpe
    refine z_iload_n C 3 rfl dX0_stepsToPen_4 rfl ?_
    refine z_aload_n C 0 rfl dX0_stepsToPen_5 rfl ?_
    refine y_getI C zCl0 6 flX0_31 rfl (lay_h hh) dX0_stepsToPen_6 ?_
    refine z_icmp_ge C 34 dX0_stepsToPen_9 (by decide) (by omega) (by omega) (fun h9 => ?_) (fun h9 => ?_)
    · refine z_iload_n C 2 rfl dX0_stepsToPen_34 rfl ?_
      exact zZ_iret C hR (Nat.le_refl _) (Nat.le_refl _) dX0_stepsToPen_35 rfl (zIs_I hW.symm rfl)
    · omega
set_option maxHeartbeats 4000000 in
set_option maxRecDepth 100000 in
theorem c_X0_wouldGo {g : zG} {I : Nat → Nat → Int} {J : Nat → Nat → Int64} {q : Nat × Nat} {h s w : Nat} (hh : isH h) (iss : isS s) (hg : gH I h) (hs : gS I s) (hw : w < 5) : zRun g mX0_wouldGo 5 [.ref h, .ref s, .int (iI ((w : Int)))] (zst I J q) (some (.int (iI (bI (!decide (goalN (hv I J h) (I s 0) (I (s + 1)) w (I (h + 1) w) = I (s + 1) w)))))) (zst I J q) := by
  obtain ⟨g1, g2, g3, g4, g5, g6⟩ := id hg
  obtain ⟨k1, k2, k3⟩ := id hs
  have q3 := k3 w hw
  have q5 := g5 w hw
  have hgr := goalN_r (J := J) (dog := I s 0) (kd := I (h + 1) w) hg k3 hw
  refine zRuns_intro rfl (Nat.le_of_ble_eq_true rfl) (fun X C hR => ?_)
  show zZ g X 0 0 _ 0 [(0, .ref h), (1, .ref s), (2, .int (iI ((w : Int))))] []
  refine z_aload_n C 0 rfl dX0_wouldGo_0 rfl ?_
  refine z_aload_n C 1 rfl dX0_wouldGo_1 rfl ?_
  refine z_iload_n C 2 rfl dX0_wouldGo_2 rfl ?_
  refine z_aload_n C 0 rfl dX0_wouldGo_3 rfl ?_
  refine y_getR C zCl0 7 flX0_34 rfl (lay_h hh) (rt_h7 hh) dX0_wouldGo_4 ?_
  refine z_iload_n C 2 rfl dX0_wouldGo_7 rfl ?_
  refine y_iald C w (by omega) (lay_h1 hh) (by omega) (by decide) dX0_wouldGo_8 ?_
  refine y_callV3 C oX0_goalOf iX0_goalOf eX0_goalOf lkX0_104 (c_X0_goalOf hh iss hg hs (by first | assumption | omega) (by first | assumption | omega)) (lay_h hh) (by decide) rfl rfl (by decide) (Nat.le_refl _) (Nat.le_refl _) (Nat.le_of_ble_eq_true rfl) dX0_wouldGo_9 ?_
  refine z_aload_n C 1 rfl dX0_wouldGo_12 rfl ?_
  refine y_getR C zCl3 2 flX0_77 rfl (lay_s iss) (rt_s iss) dX0_wouldGo_13 ?_
  refine z_iload_n C 2 rfl dX0_wouldGo_16 rfl ?_
  refine y_iald C w (by omega) (lay_s1 iss) (by omega) (by decide) dX0_wouldGo_17 ?_
  refine z_icmp_eq C 25 dX0_wouldGo_18 (by decide) (by omega) (by omega) (fun h18 => ?_) (fun h18 => ?_)
  · refine z_iconst C dX0_wouldGo_25 ?_
    exact zZ_zret C hR (Nat.le_refl _) (Nat.le_refl _) dX0_wouldGo_26 rfl (Or.inl rfl) (zIs_I (by simp [bI, *]) rfl)
  · refine z_iconst C dX0_wouldGo_21 ?_
    refine z_goto C 26 dX0_wouldGo_22 (by decide) ?_
    exact zZ_zret C hR (Nat.le_refl _) (Nat.le_refl _) dX0_wouldGo_26 rfl (Or.inr rfl) (zIs_I (by simp [bI, *]) rfl)
set_option maxHeartbeats 4000000 in
set_option maxRecDepth 100000 in
theorem c_X0_moved {g : zG} {I : Nat → Nat → Int} {J : Nat → Nat → Int64} {q : Nat × Nat} {h s : Nat} (hh : isH h) (iss : isS s) (hg : gH I h) (hs : gS I s) : zRun g mX0_moved 6 [.ref h, .ref s] (zst I J q) (some (.int (iI ((bitsN (fun w => !decide (goalN (hv I J h) (I s 0) (I (s + 1)) w (I (h + 1) w) = I (s + 1) w)) (I h 6).toNat : Nat))))) (zst I J q) := by
  obtain ⟨g1, g2, g3, g4, g5, g6⟩ := id hg
  obtain ⟨k1, k2, k3⟩ := id hs
  obtain ⟨n, hn⟩ : ∃ n : Nat, I h 6 = n := ⟨(I h 6).toNat, by omega⟩
  have hn2 : (I h 6).toNat = n := by omega
  obtain ⟨P, hP⟩ : ∃ P, P = fun w => !decide (goalN (hv I J h) (I s 0) (I (s + 1)) w (I (h + 1) w) = I (s + 1) w) := ⟨_, rfl⟩
  rw [← hP]
  refine zRuns_intro rfl (Nat.le_of_ble_eq_true rfl) (fun X C hR => ?_)
  show zZ g X 0 0 _ 0 [(0, .ref h), (1, .ref s)] []
  refine z_iconst C dX0_moved_0 ?_
  refine z_istore_n C [(2, .int (iI 0)), (0, .ref h), (1, .ref s)] dX0_moved_1 rfl (by decide) rfl ?_
  refine z_iconst C dX0_moved_2 ?_
  refine z_istore_n C [(3, .int (iI 0)), (2, .int (iI 0)), (0, .ref h), (1, .ref s)] dX0_moved_3 rfl (by decide) rfl ?_
  refine zZ_sub [2, 3, 1, 0] rfl ?_
  refine zZ_cast (σ' := (fun _ : Nat => zst I J q) 0) (L' := (fun e : Nat => [(0, .ref h), (1, .ref s), (2, .int (iI (bitsN P e : Nat))), (3, .int (iI (e : Int)))]) 0) rfl rfl rfl ?_
  refine zfor (n) (fun _ => True) (fun _ : Nat => zst I J q) (fun e : Nat => [(0, .ref h), (1, .ref s), (2, .int (iI (bitsN P e : Nat))), (3, .int (iI (e : Int)))]) trivial ?_ ?_
  · intro e hee hpe kke
    refine z_iload_n C 3 rfl dX0_moved_4 rfl ?_
    refine z_aload_n C 0 rfl dX0_moved_5 rfl ?_
    refine y_getI C zCl0 6 flX0_31 rfl (lay_h hh) dX0_moved_6 ?_
    refine z_icmp_ge C 33 dX0_moved_9 (by decide) (by omega) (by omega) (fun h9 => ?_) (fun h9 => ?_)
    · omega
    · refine z_aload_n C 0 rfl dX0_moved_12 rfl ?_
      refine z_aload_n C 1 rfl dX0_moved_13 rfl ?_
      refine z_iload_n C 3 rfl dX0_moved_14 rfl ?_
      refine y_callV2 C oX0_wouldGo iX0_wouldGo eX0_wouldGo lkX0_121 (c_X0_wouldGo hh iss hg hs (by first | assumption | omega)) (lay_h hh) (by decide) rfl rfl (by decide) (Nat.le_refl _) (Nat.le_refl _) (Nat.le_of_ble_eq_true rfl) dX0_moved_15 ?_
      refine y_if_eqB C 27 dX0_moved_18 (by decide) (fun h18 => ?_) (fun h18 => ?_)
      · obtain ⟨v1, ev1⟩ : ∃ y : Int, y = (e : Int) + 1 := ⟨_, rfl⟩
        refine z_iinc C 3 v1 [(3, .int (iI v1)), (0, .ref h), (1, .ref s), (2, .int (iI ((bitsN P e : Nat))))] dX0_moved_27 rfl ev1.symm (by decide) rfl ?_
        refine z_goto C 4 dX0_moved_30 (by decide) ?_
        refine zZ_sub [1, 2, 3, 0] rfl ?_
        refine zZ_cast rfl (zLk (zLk (zLc (by rw [bitsN_no (by rw [hP]; exact h18)]) (zLc (by omega) rfl)))) rfl (kke trivial)
      · refine z_iload_n C 2 rfl dX0_moved_21 rfl ?_
        refine z_iconst C dX0_moved_22 ?_
        refine z_iload_n C 3 rfl dX0_moved_23 rfl ?_
        refine z_ishl C ((2 ^ e : Nat) : Int) dX0_moved_24 (iI_sh1 (by omega)) ?_
        refine z_ior C (bitsN P (e + 1) : Nat) dX0_moved_25 (bitsN_step (by omega) (by rw [hP]; exact h18)) ?_
        refine z_istore_n C [(2, .int (iI ((bitsN P (e + 1) : Nat)))), (0, .ref h), (1, .ref s), (3, .int (iI ((e : Int))))] dX0_moved_26 rfl (by decide) rfl ?_
        obtain ⟨v2, ev2⟩ : ∃ y : Int, y = (e : Int) + 1 := ⟨_, rfl⟩
        refine z_iinc C 3 v2 [(3, .int (iI v2)), (2, .int (iI ((bitsN P (e + 1) : Nat)))), (0, .ref h), (1, .ref s)] dX0_moved_27 rfl ev2.symm (by decide) rfl ?_
        refine z_goto C 4 dX0_moved_30 (by decide) ?_
        refine zZ_sub [2, 3, 1, 0] rfl ?_
        refine zZ_cast rfl (zLk (zLk (zLc rfl (zLc (by omega) rfl)))) rfl (kke trivial)
  · intro hpe
    refine z_iload_n C 3 rfl dX0_moved_4 rfl ?_
    refine z_aload_n C 0 rfl dX0_moved_5 rfl ?_
    refine y_getI C zCl0 6 flX0_31 rfl (lay_h hh) dX0_moved_6 ?_
    refine z_icmp_ge C 33 dX0_moved_9 (by decide) (by omega) (by omega) (fun h9 => ?_) (fun h9 => ?_)
    · refine z_iload_n C 2 rfl dX0_moved_33 rfl ?_
      exact zZ_iret C hR (Nat.le_refl _) (Nat.le_refl _) dX0_moved_34 rfl (zIs_I (by rw [hn2]) rfl)
    · omega
set_option maxHeartbeats 4000000 in
set_option maxRecDepth 100000 in
theorem c_X3_setTo {g : zG} {I : Nat → Nat → Int} {J : Nat → Nat → Int64} {q : Nat × Nat} {s o : Nat} (iss : isS s) (iso : isS o) : zRun g mX3_setTo 1 [.ref s, .ref o] (zst I J q) (none) (zst (zSp I s (I o 0) (I o 1) (I (o + 1))) J q) := by
  have a1 := sepS iss iso
  have a2 := sepS iso iss
  have l1 := lay_s1 iss
  refine zRuns_intro rfl (Nat.le_of_ble_eq_true rfl) (fun X C hR => ?_)
  show zZ g X 0 0 _ 0 [(0, .ref s), (1, .ref o)] []
  refine z_aload_n C 0 rfl dX3_setTo_0 rfl ?_
  refine z_aload_n C 1 rfl dX3_setTo_1 rfl ?_
  refine y_getI C zCl3 0 flX3_9 rfl (lay_s iso) dX3_setTo_2 ?_
  refine y_putI C zCl3 0 flX3_9 rfl rfl rfl (lay_s iss) dX3_setTo_5 ?_
  refine z_aload_n C 0 rfl dX3_setTo_8 rfl ?_
  refine z_aload_n C 1 rfl dX3_setTo_9 rfl ?_
  refine y_getI C zCl3 1 flX3_15 rfl (lay_s iso) dX3_setTo_10 ?_
  refine y_putI C zCl3 1 flX3_15 rfl rfl rfl (lay_s iss) dX3_setTo_13 ?_
  refine z_aload_n C 1 rfl dX3_setTo_16 rfl ?_
  refine y_getR C zCl3 2 flX3_18 rfl (lay_s iso) (rt_s iso) dX3_setTo_17 ?_
  refine z_iconst C dX3_setTo_20 ?_
  refine z_aload_n C 0 rfl dX3_setTo_21 rfl ?_
  refine y_getR C zCl3 2 flX3_18 rfl (lay_s iss) (rt_s iss) dX3_setTo_22 ?_
  refine z_iconst C dX3_setTo_25 ?_
  refine z_iconst C dX3_setTo_26 ?_
  refine y_cpI C lkX3_22 0 0 5 (by omega) (by omega) (by omega) (lay_s1 iso) (lay_s1 iss) (by omega) (by omega) (by decide) (by decide) (by decide) (Nat.le_of_ble_eq_true rfl) dX3_setTo_27 ?_
  refine zZ_cast (σ' := zst (zSp I s (I o 0) (I o 1) (cp5 (I (o + 1)) (I (s + 1)))) J q) (by rw [zSp_put0, zSp_put1]; simp only [zSp_0, zSp_1, zSp_c, zSp_zSp]; refine congrArg (fun I' => zst I' J q) ?_; funext i k; simp only [zcp, zSp, va_cpy, cp5]; by_cases e0 : i = s + 1 <;> by_cases e1 : i = s <;> by_cases e2 : o = s <;> by_cases e3 : k < 5 <;> simp [e0, e1, e2, e3] <;> (try omega) <;> (try simp [*]) <;> (try omega)) rfl rfl ?_
  refine zZ_st (zst_tail (I' := zSp I s (I o 0) (I o 1) (I (o + 1))) (fun i k kd n hn hk => ?_)) ?_
  · simp only [zSp]
    by_cases e0 : i = s + 1
    · subst e0
      cases l1.symm.trans hn
      simp [cp5, hk]
    · simp [e0]
  exact zZ_vret C hR (Nat.le_refl _) (Nat.le_refl _) dX3_setTo_30 rfl (zIs_V rfl)
