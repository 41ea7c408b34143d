set_option maxHeartbeats 4000000 in
set_option maxRecDepth 100000 in
theorem c_X6_leaderOf {g : zG} {I : Nat → Nat → Int} {J : Nat → Nat → Int64} {q : Nat × Nat} {w : Nat} (hgr : gR I) (hrs : gRS (spR I)) (hw : w < 5) : zRun g mX6_leaderOf 1 [.ref 58, .int (iI ((w : Int)))] (zst I J q) (some (.int (iI (leadN (I 60) (I 62) (I 58 2) w (I 58 5).toNat)))) (zst I J q) := by
  obtain ⟨b1, b2, b3, b4, b5, b6, b7⟩ := id hgr
  obtain ⟨k1, k2, k3⟩ := id hrs
  have k1 : gC7 (I 58 3) := k1
  have k2 : 0 ≤ I 58 4 ∧ I 58 4 ≤ 4 := k2
  have k3 : ∀ e, e < 5 → gC7 (I 62 e) := k3
  have k1' := k1.1
  have b2' := b2.1
  obtain ⟨n, hn⟩ : ∃ n : Nat, I 58 5 = n := ⟨(I 58 5).toNat, by omega⟩
  have hn2 : (I 58 5).toNat = n := by omega
  refine zRuns_intro rfl (Nat.le_of_ble_eq_true rfl) (fun X C hR => ?_)
  show zZ g X 0 0 _ 0 [(0, .ref 58), (1, .int (iI ((w : Int))))] []
  refine z_iconst C dX6_leaderOf_0 ?_
  refine z_istore_n C [(2, .int (iI 0)), (0, .ref 58), (1, .int (iI ((w : Int))))] dX6_leaderOf_1 rfl (by decide) rfl ?_
  refine zZ_sub [1, 2, 0] rfl ?_
  refine zZ_cast (σ' := (fun _ : Nat => zst I J q) 0) (L' := (fun e : Nat => [(0, .ref 58), (1, .int (iI ((w : Int)))), (2, .int (iI (e : Int)))]) 0) rfl rfl rfl ?_
  refine zfor (n) (fun e => firstN (leadP (I 60) (I 62) (I 58 2) w) e = none) (fun _ : Nat => zst I J q) (fun e : Nat => [(0, .ref 58), (1, .int (iI ((w : Int)))), (2, .int (iI (e : Int)))]) rfl ?_ ?_
  · intro e hee hpe kke
    have q3 := (k3 e (by omega)).1
    have q5 := b5 e (by omega)
    refine z_iload_n C 2 rfl dX6_leaderOf_2 rfl ?_
    refine z_aload_n C 0 rfl dX6_leaderOf_3 rfl ?_
    refine y_getI C zCl6 5 flX6_72 rfl rfl dX6_leaderOf_4 ?_
    refine z_icmp_ge C 46 dX6_leaderOf_7 (by decide) (by omega) (by omega) (fun h7 => ?_) (fun h7 => ?_)
    · omega
    · refine z_iload_n C 2 rfl dX6_leaderOf_10 rfl ?_
      refine z_iload_n C 1 rfl dX6_leaderOf_11 rfl ?_
      refine z_icmp_eq C 40 dX6_leaderOf_12 (by decide) (by omega) (by omega) (fun h12 => ?_) (fun h12 => ?_)
      · obtain ⟨v1, ev1⟩ : ∃ y : Int, y = (e : Int) + 1 := ⟨_, rfl⟩
        refine z_iinc C 2 v1 [(2, .int (iI v1)), (0, .ref 58), (1, .int (iI ((w : Int))))] dX6_leaderOf_40 rfl ev1.symm (by decide) rfl ?_
        refine z_goto C 2 dX6_leaderOf_43 (by decide) ?_
        refine zZ_sub [1, 2, 0] rfl ?_
        refine zZ_cast rfl (zLk (zLk (zLc (by omega) rfl))) rfl (kke (by simp only [firstN, hpe]; rw [if_neg (by simp [leadP, show e = w by omega])]))
      · refine z_aload_n C 0 rfl dX6_leaderOf_15 rfl ?_
        refine y_getR C zCl6 6 flX6_13 rfl rfl rfl dX6_leaderOf_16 ?_
        refine z_iload_n C 2 rfl dX6_leaderOf_19 rfl ?_
        refine y_iald C e (by omega) rfl (by omega) (by decide) dX6_leaderOf_20 ?_
        refine z_iconst C dX6_leaderOf_21 ?_
        refine z_icmp_ne C 40 dX6_leaderOf_22 (by decide) (by omega) (by omega) (fun h22 => ?_) (fun h22 => ?_)
        · obtain ⟨v2, ev2⟩ : ∃ y : Int, y = (e : Int) + 1 := ⟨_, rfl⟩
          refine z_iinc C 2 v2 [(2, .int (iI v2)), (0, .ref 58), (1, .int (iI ((w : Int))))] dX6_leaderOf_40 rfl ev2.symm (by decide) rfl ?_
          refine z_goto C 2 dX6_leaderOf_43 (by decide) ?_
          refine zZ_sub [1, 2, 0] rfl ?_
          refine zZ_cast rfl (zLk (zLk (zLc (by omega) rfl))) rfl (kke (by simp only [firstN, hpe]; rw [if_neg (by simp [leadP, show ¬ I 60 e = 5 by omega])]))
        · refine z_aload_n C 0 rfl dX6_leaderOf_25 rfl ?_
          refine z_iload_n C 2 rfl dX6_leaderOf_26 rfl ?_
          refine y_callV1 C oX6_isIn iX6_isIn eX6_isIn lkX6_122 (c_X6_isIn hgr hrs (by first | assumption | omega)) rfl (by decide) rfl rfl (by decide) (Nat.le_refl _) (Nat.le_refl _) (Nat.le_of_ble_eq_true rfl) dX6_leaderOf_27 ?_
          refine y_if_neB C 40 dX6_leaderOf_30 (by decide) (fun h30 => ?_) (fun h30 => ?_)
          · obtain ⟨v3, ev3⟩ : ∃ y : Int, y = (e : Int) + 1 := ⟨_, rfl⟩
            refine z_iinc C 2 v3 [(2, .int (iI v3)), (0, .ref 58), (1, .int (iI ((w : Int))))] dX6_leaderOf_40 rfl ev3.symm (by decide) rfl ?_
            refine z_goto C 2 dX6_leaderOf_43 (by decide) ?_
            refine zZ_sub [1, 2, 0] rfl ?_
            refine zZ_cast rfl (zLk (zLk (zLc (by omega) rfl))) rfl (kke (by simp only [firstN, hpe]; rw [if_neg (by simp [leadP, show I 62 e = I 58 2 by simpa using h30])]))
          · refine z_aload_n C 0 rfl dX6_leaderOf_33 rfl ?_
            refine y_getR C zCl6 8 flX6_20 rfl rfl rfl dX6_leaderOf_34 ?_
            refine z_iload_n C 2 rfl dX6_leaderOf_37 rfl ?_
            refine y_iald C e (by omega) rfl (by omega) (by decide) dX6_leaderOf_38 ?_
            exact zZ_iret C hR (Nat.le_refl _) (Nat.le_refl _) dX6_leaderOf_39 rfl (zIs_I (by rw [hn2]; unfold leadN; rw [firstN_some hee hpe (by simp [leadP, show ¬ e = w by omega, show I 60 e = 5 by omega, show ¬ I 62 e = I 58 2 by simpa using h30])]) rfl)
  · intro hpe
    refine z_iload_n C 2 rfl dX6_leaderOf_2 rfl ?_
    refine z_aload_n C 0 rfl dX6_leaderOf_3 rfl ?_
    refine y_getI C zCl6 5 flX6_72 rfl rfl dX6_leaderOf_4 ?_
    refine z_icmp_ge C 46 dX6_leaderOf_7 (by decide) (by omega) (by omega) (fun h7 => ?_) (fun h7 => ?_)
    · refine z_iconst C dX6_leaderOf_46 ?_
      exact zZ_iret C hR (Nat.le_refl _) (Nat.le_refl _) dX6_leaderOf_47 rfl (zIs_I (by rw [hn2]; unfold leadN; rw [hpe]) rfl)
    · omega
set_option maxHeartbeats 4000000 in
set_option maxRecDepth 100000 in
theorem c_X6_flees {g : zG} {I : Nat → Nat → Int} {J : Nat → Nat → Int64} {q : Nat × Nat} {w : Nat} {mk : Int} (hgr : gR I) (hrs : gRS (spR I)) (hw : w < 5) (hmk : mk = -1 ∨ gC7 mk) : zRun g mX6_flees 2 [.ref 58, .int (iI ((w : Int))), .int (iI mk)] (zst I J q) (none) (zst (zRq I (I 58 3, I 58 4, up1 (I 62) w (nextN (I 58 0) (maskW (I 59)) (I 62 w) (I 58 3) mk))) J q) := by
  obtain ⟨b1, b2, b3, b4, b5, b6, b7⟩ := id hgr
  obtain ⟨k1, k2, k3⟩ := id hrs
  have k1 : gC7 (I 58 3) := k1
  have k2 : 0 ≤ I 58 4 ∧ I 58 4 ≤ 4 := k2
  have k3 : ∀ e, e < 5 → gC7 (I 62 e) := k3
  have k1' := k1.1
  have b2' := b2.1
  have hcw := k3 w hw
  have hcw' := hcw.1
  have hmk' : -1 ≤ mk ∧ mk ≤ 66 := by rcases hmk with h | h; omega; have := h.1; omega
  refine zRuns_intro rfl (Nat.le_of_ble_eq_true rfl) (fun X C hR => ?_)
  show zZ g X 0 0 _ 0 [(0, .ref 58), (1, .int (iI ((w : Int)))), (2, .int (iI mk))] []
  refine z_iconst C dX6_flees_0 ?_
  refine z_istore_n C [(3, .int (iI ((-1)))), (0, .ref 58), (1, .int (iI ((w : Int)))), (2, .int (iI mk))] dX6_flees_1 rfl (by decide) rfl ?_
  refine z_iconst C dX6_flees_2 ?_
  refine z_istore C [(4, .int (iI 1)), (3, .int (iI ((-1)))), (0, .ref 58), (1, .int (iI ((w : Int)))), (2, .int (iI mk))] dX6_flees_3 (by decide) rfl ?_
  refine zZ_sub [2, 3, 4, 1, 0] rfl ?_
  refine zZ_cast (σ' := (fun _ : Nat => zst I J q) 0) (L' := (fun e : Nat => [(0, .ref 58), (1, .int (iI ((w : Int)))), (2, .int (iI mk)), (3, .int (iI (ffold (I 58 0) (maskW (I 59)) (I 58 3) mk (I 62 w) e))), (4, .int (iI ((e + 1 : Nat) : Int)))]) 0) rfl rfl rfl ?_
  refine zfor (4) (fun _ => True) (fun _ : Nat => zst I J q) (fun e : Nat => [(0, .ref 58), (1, .int (iI ((w : Int)))), (2, .int (iI mk)), (3, .int (iI (ffold (I 58 0) (maskW (I 59)) (I 58 3) mk (I 62 w) e))), (4, .int (iI ((e + 1 : Nat) : Int)))]) trivial ?_ ?_
  · intro e hee hpe kke
    obtain ⟨fd, hfd⟩ : ∃ fd, fd = ffold (I 58 0) (maskW (I 59)) (I 58 3) mk (I 62 w) e := ⟨_, rfl⟩
    have hf7 := ffold_7 (w := maskW (I 59)) (dog := I 58 3) (mark := mk) (cell := I 62 w) b1.2 e
    rw [← hfd] at hf7 ⊢
    have hfr : -1 ≤ fd ∧ fd ≤ 66 := by rcases hf7 with h | h; omega; have := h.1; omega
    have hst1 := stp_r (c := I 62 w) (d := I 58 3) (by omega) (by omega)
    refine z_iload C 4 rfl dX6_flees_5 ?_
    refine z_iconst C dX6_flees_7 ?_
    refine z_icmp_ge C 92 dX6_flees_8 (by decide) (by omega) (by omega) (fun h8 => ?_) (fun h8 => ?_)
    · omega
    · refine z_aload_n C 0 rfl dX6_flees_11 rfl ?_
      refine z_aload_n C 0 rfl dX6_flees_12 rfl ?_
      refine y_getR C zCl6 8 flX6_20 rfl rfl rfl dX6_flees_13 ?_
      refine z_iload_n C 1 rfl dX6_flees_16 rfl ?_
      refine y_iald C w (by omega) rfl (by omega) (by decide) dX6_flees_17 ?_
      refine z_iload C 4 rfl dX6_flees_18 ?_
      refine y_callV2 C oX6_beside iX6_beside eX6_beside lkX6_218 (c_X6_beside hgr hcw (by omega)) rfl (by decide) rfl rfl (by decide) (Nat.le_refl _) (Nat.le_refl _) (Nat.le_of_ble_eq_true rfl) dX6_flees_20 ?_
      refine z_topI C (fun b eb => ?_)
      have hb7 := bsN_7 (w := maskW (I 59)) (c := I 62 w) (k := e + 1) b1.2
      have eb : b = bsN (I 58 0) (maskW (I 59)) (I 62 w) (e + 1) := eb
      rw [← eb] at hb7
      have hbr : -1 ≤ b ∧ b ≤ 66 := by rcases hb7 with h | h; omega; have := h.1; omega
      refine z_istore C [(5, .int (iI b)), (0, .ref 58), (1, .int (iI ((w : Int)))), (2, .int (iI mk)), (3, .int (iI fd)), (4, .int (iI (((e + 1 : Nat) : Int))))] dX6_flees_23 (by decide) rfl ?_
      refine z_iload C 0 rfl dX6_flees_25 ?_
      refine z_iconst C dX6_flees_27 ?_
      refine z_icmp_eq C 86 dX6_flees_28 (by decide) (by omega) (by omega) (fun h28 => ?_) (fun h28 => ?_)
      · obtain ⟨v1, ev1⟩ : ∃ y : Int, y = ((e + 1 : Nat) : Int) + 1 := ⟨_, rfl⟩
        refine z_iinc C 5 v1 [(4, .int (iI v1)), (5, .int (iI b)), (0, .ref 58), (1, .int (iI ((w : Int)))), (2, .int (iI mk)), (3, .int (iI fd))] dX6_flees_86 rfl ev1.symm (by decide) rfl ?_
        refine z_goto C 5 dX6_flees_89 (by decide) ?_
        refine zZ_sub [2, 3, 4, 5, 0] rfl ?_
        refine zZ_cast rfl (zLk (zLk (zLk (zLc (by simp only [ffold]; rw [← hfd, ← eb, if_neg (by omega)]) (zLc (by omega) rfl))))) rfl (kke trivial)
      · have hst2 := stp_r (c := b) (d := I 58 3) (by omega) (by omega)
        refine z_iload C 0 rfl dX6_flees_31 ?_
        refine z_aload_n C 1 rfl dX6_flees_33 rfl ?_
        refine y_getI C zCl6 3 flX6_61 rfl rfl dX6_flees_34 ?_
        refine y_callS2 C oX6_steps sX6_steps lkX6_215 (c_X6_steps (by first | assumption | omega) (by first | assumption | omega)) (by decide) (Nat.le_refl _) (Nat.le_refl _) (Nat.le_of_ble_eq_true rfl) dX6_flees_37 ?_
        refine z_aload_n C 1 rfl dX6_flees_40 rfl ?_
        refine y_getR C zCl6 8 flX6_20 rfl rfl rfl dX6_flees_41 ?_
        refine z_iload_n C 2 rfl dX6_flees_44 rfl ?_
        refine y_iald C w (by omega) rfl (by omega) (by decide) dX6_flees_45 ?_
        refine z_aload_n C 1 rfl dX6_flees_46 rfl ?_
        refine y_getI C zCl6 3 flX6_61 rfl rfl dX6_flees_47 ?_
        refine y_callS2 C oX6_steps sX6_steps lkX6_215 (c_X6_steps (by first | assumption | omega) (by first | assumption | omega)) (by decide) (Nat.le_refl _) (Nat.le_refl _) (Nat.le_of_ble_eq_true rfl) dX6_flees_50 ?_
        refine z_icmp_gt C 59 dX6_flees_53 (by decide) (by omega) (by omega) (fun h53 => ?_) (fun h53 => ?_)
        · refine z_iload_n C 4 rfl dX6_flees_59 rfl ?_
          refine z_iconst C dX6_flees_60 ?_
          refine z_icmp_eq C 83 dX6_flees_61 (by decide) (by omega) (by omega) (fun h61 => ?_) (fun h61 => ?_)
          · refine z_iload C 0 rfl dX6_flees_83 ?_
            refine z_istore_n C [(3, .int (iI b)), (5, .int (iI b)), (0, .ref 58), (1, .int (iI ((w : Int)))), (2, .int (iI mk)), (4, .int (iI (((e + 1 : Nat) : Int))))] dX6_flees_85 rfl (by decide) rfl ?_
            obtain ⟨v2, ev2⟩ : ∃ y : Int, y = ((e + 1 : Nat) : Int) + 1 := ⟨_, rfl⟩
            refine z_iinc C 5 v2 [(4, .int (iI v2)), (3, .int (iI b)), (5, .int (iI b)), (0, .ref 58), (1, .int (iI ((w : Int)))), (2, .int (iI mk))] dX6_flees_86 rfl ev2.symm (by decide) rfl ?_
            refine z_goto C 5 dX6_flees_89 (by decide) ?_
            refine zZ_sub [3, 4, 5, 1, 0] rfl ?_
            refine zZ_cast rfl (zLk (zLk (zLk (zLc (by simp only [ffold]; rw [← hfd, ← eb, if_pos (by omega)]) (zLc (by omega) rfl))))) rfl (kke trivial)
          · refine z_iload_n C 3 rfl dX6_flees_64 rfl ?_
            refine z_iconst C dX6_flees_65 ?_
            refine z_icmp_eq C 86 dX6_flees_66 (by decide) (by omega) (by omega) (fun h66 => ?_) (fun h66 => ?_)
            · obtain ⟨v3, ev3⟩ : ∃ y : Int, y = ((e + 1 : Nat) : Int) + 1 := ⟨_, rfl⟩
              refine z_iinc C 5 v3 [(4, .int (iI v3)), (5, .int (iI b)), (0, .ref 58), (1, .int (iI ((w : Int)))), (2, .int (iI mk)), (3, .int (iI fd))] dX6_flees_86 rfl ev3.symm (by decide) rfl ?_
              refine z_goto C 5 dX6_flees_89 (by decide) ?_
              refine zZ_sub [2, 3, 4, 5, 0] rfl ?_
              refine zZ_cast rfl (zLk (zLk (zLk (zLc (by simp only [ffold]; rw [← hfd, ← eb, if_neg (by omega)]) (zLc (by omega) rfl))))) rfl (kke trivial)
            · have hst3 := stp_r (c := b) (d := mk) (by omega) (by omega)
              have hst4 := stp_r (c := fd) (d := mk) (by omega) (by omega)
              refine z_iload C 0 rfl dX6_flees_69 ?_
              refine z_iload_n C 3 rfl dX6_flees_71 rfl ?_
              refine y_callS2 C oX6_steps sX6_steps lkX6_215 (c_X6_steps (by first | assumption | omega) (by first | assumption | omega)) (by decide) (Nat.le_refl _) (Nat.le_refl _) (Nat.le_of_ble_eq_true rfl) dX6_flees_72 ?_
              refine z_iload_n C 4 rfl dX6_flees_75 rfl ?_
              refine z_iload_n C 3 rfl dX6_flees_76 rfl ?_
              refine y_callS2 C oX6_steps sX6_steps lkX6_215 (c_X6_steps (by first | assumption | omega) (by first | assumption | omega)) (by decide) (Nat.le_refl _) (Nat.le_refl _) (Nat.le_of_ble_eq_true rfl) dX6_flees_77 ?_
              refine z_icmp_ge C 86 dX6_flees_80 (by decide) (by omega) (by omega) (fun h80 => ?_) (fun h80 => ?_)
              · obtain ⟨v4, ev4⟩ : ∃ y : Int, y = ((e + 1 : Nat) : Int) + 1 := ⟨_, rfl⟩
                refine z_iinc C 5 v4 [(4, .int (iI v4)), (5, .int (iI b)), (0, .ref 58), (1, .int (iI ((w : Int)))), (2, .int (iI mk)), (3, .int (iI fd))] dX6_flees_86 rfl ev4.symm (by decide) rfl ?_
                refine z_goto C 5 dX6_flees_89 (by decide) ?_
                refine zZ_sub [2, 3, 4, 5, 0] rfl ?_
                refine zZ_cast rfl (zLk (zLk (zLk (zLc (by simp only [ffold]; rw [← hfd, ← eb, if_neg (by omega)]) (zLc (by omega) rfl))))) rfl (kke trivial)
              · refine z_iload C 0 rfl dX6_flees_83 ?_
                refine z_istore_n C [(3, .int (iI b)), (5, .int (iI b)), (0, .ref 58), (1, .int (iI ((w : Int)))), (2, .int (iI mk)), (4, .int (iI (((e + 1 : Nat) : Int))))] dX6_flees_85 rfl (by decide) rfl ?_
                obtain ⟨v5, ev5⟩ : ∃ y : Int, y = ((e + 1 : Nat) : Int) + 1 := ⟨_, rfl⟩
                refine z_iinc C 5 v5 [(4, .int (iI v5)), (3, .int (iI b)), (5, .int (iI b)), (0, .ref 58), (1, .int (iI ((w : Int)))), (2, .int (iI mk))] dX6_flees_86 rfl ev5.symm (by decide) rfl ?_
                refine z_goto C 5 dX6_flees_89 (by decide) ?_
                refine zZ_sub [3, 4, 5, 1, 0] rfl ?_
                refine zZ_cast rfl (zLk (zLk (zLk (zLc (by simp only [ffold]; rw [← hfd, ← eb, if_pos (by omega)]) (zLc (by omega) rfl))))) rfl (kke trivial)
        · refine z_goto C 86 dX6_flees_56 (by decide) ?_
          obtain ⟨v6, ev6⟩ : ∃ y : Int, y = ((e + 1 : Nat) : Int) + 1 := ⟨_, rfl⟩
          refine z_iinc C 5 v6 [(4, .int (iI v6)), (5, .int (iI b)), (0, .ref 58), (1, .int (iI ((w : Int)))), (2, .int (iI mk)), (3, .int (iI fd))] dX6_flees_86 rfl ev6.symm (by decide) rfl ?_
          refine z_goto C 5 dX6_flees_89 (by decide) ?_
          refine zZ_sub [2, 3, 4, 5, 0] rfl ?_
          refine zZ_cast rfl (zLk (zLk (zLk (zLc (by simp only [ffold]; rw [← hfd, ← eb, if_neg (by omega)]) (zLc (by omega) rfl))))) rfl (kke trivial)
  · intro hpe
    have hf7 := ffold_7 (w := maskW (I 59)) (dog := I 58 3) (mark := mk) (cell := I 62 w) b1.2 4
    have hfr : -1 ≤ ffold (I 58 0) (maskW (I 59)) (I 58 3) mk (I 62 w) 4 ∧ ffold (I 58 0) (maskW (I 59)) (I 58 3) mk (I 62 w) 4 ≤ 66 := by rcases hf7 with h | h; omega; have := h.1; omega
    refine z_iload C 4 rfl dX6_flees_5 ?_
    refine z_iconst C dX6_flees_7 ?_
    refine z_icmp_ge C 92 dX6_flees_8 (by decide) (by omega) (by omega) (fun h8 => ?_) (fun h8 => ?_)
    · refine z_iload_n C 3 rfl dX6_flees_92 rfl ?_
      refine z_iconst C dX6_flees_93 ?_
      refine z_icmp_eq C 104 dX6_flees_94 (by decide) (by omega) (by omega) (fun h94 => ?_) (fun h94 => ?_)
      · exact zZ_vret C hR (Nat.le_refl _) (Nat.le_refl _) dX6_flees_104 rfl (zIs_V (by refine congrArg (fun I' => zst I' J q) ?_; rw [flee_n b1.2, if_pos (by omega), zRq_s0]))
      · refine z_aload_n C 0 rfl dX6_flees_97 rfl ?_
        refine y_getR C zCl6 8 flX6_20 rfl rfl rfl dX6_flees_98 ?_
        refine z_iload_n C 1 rfl dX6_flees_101 rfl ?_
        refine z_iload_n C 3 rfl dX6_flees_102 rfl ?_
        refine y_iast C w (by omega) rfl (by omega) (by decide) dX6_flees_103 ?_
        exact zZ_vret C hR (Nat.le_refl _) (Nat.le_refl _) dX6_flees_104 rfl (zIs_V (by refine congrArg (fun I' => zst I' J q) ?_; rw [flee_n b1.2, if_neg (by omega), zu62]))
    · omega
