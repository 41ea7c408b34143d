set_option maxHeartbeats 4000000 in
set_option maxRecDepth 100000 in
theorem c_X0_isIn {g : zG} {I : Nat → Nat → Int} {J : Nat → Nat → Int64} {q : Nat × Nat} {h s e : Nat} (hh : isH h) (iss : isS s) (hg : gH I h) (hs : gS I s) (he : e < 5) : zRun g mX0_isIn 0 [.ref h, .ref s, .int (iI ((e : Int)))] (zst I J q) (some (.int (iI (bI (decide (I (s + 1) e = I h 1)))))) (zst I J q) := by
  obtain ⟨g1, g2, g3, g4, g5, g6⟩ := id hg
  obtain ⟨k1, k2, k3⟩ := id hs
  have q := k3 e he
  refine zRuns_intro rfl (Nat.le_of_ble_eq_true rfl) (fun X C hR => ?_)
  show zZ g X 0 0 _ 0 [(0, .ref h), (1, .ref s), (2, .int (iI ((e : Int))))] []
  refine z_aload_n C 1 rfl dX0_isIn_0 rfl ?_
  refine y_getR C zCl3 2 flX0_77 rfl (lay_s iss) (rt_s iss) dX0_isIn_1 ?_
  refine z_iload_n C 2 rfl dX0_isIn_4 rfl ?_
  refine y_iald C e (by omega) (lay_s1 iss) (by omega) (by decide) dX0_isIn_5 ?_
  refine z_aload_n C 0 rfl dX0_isIn_6 rfl ?_
  refine y_getI C zCl0 1 flX0_15 rfl (lay_h hh) dX0_isIn_7 ?_
  refine z_icmp_ne C 17 dX0_isIn_10 (by decide) (by omega) (by omega) (fun h10 => ?_) (fun h10 => ?_)
  · refine z_iconst C dX0_isIn_17 ?_
    exact zZ_zret C hR (Nat.le_refl _) (Nat.le_refl _) dX0_isIn_18 rfl (Or.inl rfl) (zIs_I (by simp [bI, *]) rfl)
  · refine z_iconst C dX0_isIn_13 ?_
    refine z_goto C 18 dX0_isIn_14 (by decide) ?_
    exact zZ_zret C hR (Nat.le_refl _) (Nat.le_refl _) dX0_isIn_18 rfl (Or.inr rfl) (zIs_I (by simp [bI, *]) rfl)
set_option maxHeartbeats 4000000 in
set_option maxRecDepth 100000 in
theorem c_X0_leaderOf {g : zG} {I : Nat → Nat → Int} {J : Nat → Nat → Int64} {q : Nat × Nat} {h s w : Nat} (hh : isH h) (iss : isS s) (hg : gH I h) (hs : gS I s) (hw : w < 5) : zRun g mX0_leaderOf 0 [.ref h, .ref s, .int (iI ((w : Int)))] (zst I J q) (some (.int (iI (leadN (I (h + 1)) (I (s + 1)) (I h 1) w (I h 6).toNat)))) (zst I J q) := by
  obtain ⟨g1, g2, g3, g4, g5, g6⟩ := id hg
  obtain ⟨k1, k2, k3⟩ := id hs
  obtain ⟨n, hn⟩ : ∃ n : Nat, I h 6 = n := ⟨(I h 6).toNat, by omega⟩
  have hn2 : (I h 6).toNat = n := by omega
  refine zRuns_intro rfl (Nat.le_of_ble_eq_true rfl) (fun X C hR => ?_)
  show zZ g X 0 0 _ 0 [(0, .ref h), (1, .ref s), (2, .int (iI ((w : Int))))] []
  refine z_iconst C dX0_leaderOf_0 ?_
  refine z_istore_n C [(3, .int (iI 0)), (0, .ref h), (1, .ref s), (2, .int (iI ((w : Int))))] dX0_leaderOf_1 rfl (by decide) rfl ?_
  refine zZ_sub [1, 2, 3, 0] rfl ?_
  refine zZ_cast (σ' := (fun _ : Nat => zst I J q) 0) (L' := (fun e : Nat => [(0, .ref h), (1, .ref s), (2, .int (iI ((w : Int)))), (3, .int (iI (e : Int)))]) 0) rfl rfl rfl ?_
  refine zfor (n) (fun e => firstN (leadP (I (h + 1)) (I (s + 1)) (I h 1) w) e = none) (fun _ : Nat => zst I J q) (fun e : Nat => [(0, .ref h), (1, .ref s), (2, .int (iI ((w : Int)))), (3, .int (iI (e : Int)))]) rfl ?_ ?_
  · intro e hee hpe kke
    have q3 := k3 e (by omega)
    have q5 := g5 e (by omega)
    refine z_iload_n C 3 rfl dX0_leaderOf_2 rfl ?_
    refine z_aload_n C 0 rfl dX0_leaderOf_3 rfl ?_
    refine y_getI C zCl0 6 flX0_31 rfl (lay_h hh) dX0_leaderOf_4 ?_
    refine z_icmp_ge C 51 dX0_leaderOf_7 (by decide) (by omega) (by omega) (fun h7 => ?_) (fun h7 => ?_)
    · omega
    · refine z_iload_n C 3 rfl dX0_leaderOf_10 rfl ?_
      refine z_iload_n C 2 rfl dX0_leaderOf_11 rfl ?_
      refine z_icmp_eq C 45 dX0_leaderOf_12 (by decide) (by omega) (by omega) (fun h12 => ?_) (fun h12 => ?_)
      · obtain ⟨v1, ev1⟩ : ∃ y : Int, y = (e : Int) + 1 := ⟨_, rfl⟩
        refine z_iinc C 3 v1 [(3, .int (iI v1)), (0, .ref h), (1, .ref s), (2, .int (iI ((w : Int))))] dX0_leaderOf_45 rfl ev1.symm (by decide) rfl ?_
        refine z_goto C 2 dX0_leaderOf_48 (by decide) ?_
        refine zZ_sub [1, 2, 3, 0] rfl ?_
        refine zZ_cast rfl (zLk (zLk (zLk (zLc (by omega) rfl)))) rfl (kke (by simp only [firstN, hpe, leadP]; simp; omega))
      · refine z_aload_n C 0 rfl dX0_leaderOf_15 rfl ?_
        refine y_getR C zCl0 7 flX0_34 rfl (lay_h hh) (rt_h7 hh) dX0_leaderOf_16 ?_
        refine z_iload_n C 3 rfl dX0_leaderOf_19 rfl ?_
        refine y_iald C e (by omega) (lay_h1 hh) (by omega) (by decide) dX0_leaderOf_20 ?_
        refine z_iconst C dX0_leaderOf_21 ?_
        refine z_icmp_ne C 45 dX0_leaderOf_22 (by decide) (by omega) (by omega) (fun h22 => ?_) (fun h22 => ?_)
        · obtain ⟨v2, ev2⟩ : ∃ y : Int, y = (e : Int) + 1 := ⟨_, rfl⟩
          refine z_iinc C 3 v2 [(3, .int (iI v2)), (0, .ref h), (1, .ref s), (2, .int (iI ((w : Int))))] dX0_leaderOf_45 rfl ev2.symm (by decide) rfl ?_
          refine z_goto C 2 dX0_leaderOf_48 (by decide) ?_
          refine zZ_sub [1, 2, 3, 0] rfl ?_
          refine zZ_cast rfl (zLk (zLk (zLk (zLc (by omega) rfl)))) rfl (kke (by simp only [firstN, hpe, leadP]; simp; omega))
        · refine z_aload_n C 1 rfl dX0_leaderOf_25 rfl ?_
          refine y_getR C zCl3 2 flX0_77 rfl (lay_s iss) (rt_s iss) dX0_leaderOf_26 ?_
          refine z_iload_n C 3 rfl dX0_leaderOf_29 rfl ?_
          refine y_iald C e (by omega) (lay_s1 iss) (by omega) (by decide) dX0_leaderOf_30 ?_
          refine z_aload_n C 0 rfl dX0_leaderOf_31 rfl ?_
          refine y_getI C zCl0 1 flX0_15 rfl (lay_h hh) dX0_leaderOf_32 ?_
          refine z_icmp_eq C 45 dX0_leaderOf_35 (by decide) (by omega) (by omega) (fun h35 => ?_) (fun h35 => ?_)
          · obtain ⟨v3, ev3⟩ : ∃ y : Int, y = (e : Int) + 1 := ⟨_, rfl⟩
            refine z_iinc C 3 v3 [(3, .int (iI v3)), (0, .ref h), (1, .ref s), (2, .int (iI ((w : Int))))] dX0_leaderOf_45 rfl ev3.symm (by decide) rfl ?_
            refine z_goto C 2 dX0_leaderOf_48 (by decide) ?_
            refine zZ_sub [1, 2, 3, 0] rfl ?_
            refine zZ_cast rfl (zLk (zLk (zLk (zLc (by omega) rfl)))) rfl (kke (by simp only [firstN, hpe, leadP]; simp; omega))
          · refine z_aload_n C 1 rfl dX0_leaderOf_38 rfl ?_
            refine y_getR C zCl3 2 flX0_77 rfl (lay_s iss) (rt_s iss) dX0_leaderOf_39 ?_
            refine z_iload_n C 3 rfl dX0_leaderOf_42 rfl ?_
            refine y_iald C e (by omega) (lay_s1 iss) (by omega) (by decide) dX0_leaderOf_43 ?_
            exact zZ_iret C hR (Nat.le_refl _) (Nat.le_refl _) dX0_leaderOf_44 rfl (zIs_I (by rw [hn2]; unfold leadN; rw [firstN_some hee hpe (by simp [leadP]; omega)]) rfl)
  · intro hpe
    refine z_iload_n C 3 rfl dX0_leaderOf_2 rfl ?_
    refine z_aload_n C 0 rfl dX0_leaderOf_3 rfl ?_
    refine y_getI C zCl0 6 flX0_31 rfl (lay_h hh) dX0_leaderOf_4 ?_
    refine z_icmp_ge C 51 dX0_leaderOf_7 (by decide) (by omega) (by omega) (fun h7 => ?_) (fun h7 => ?_)
    · refine z_iconst C dX0_leaderOf_51 ?_
      exact zZ_iret C hR (Nat.le_refl _) (Nat.le_refl _) dX0_leaderOf_52 rfl (zIs_I (by rw [hn2]; unfold leadN; rw [hpe]) rfl)
    · omega
set_option maxHeartbeats 4000000 in
set_option maxRecDepth 100000 in
theorem c_X0_nextFrom {g : zG} {I : Nat → Nat → Int} {J : Nat → Nat → Int64} {q : Nat × Nat} {h : Nat} {cell dog mark : Int} (hh : isH h) (hg : gH I h) (hcell : 0 ≤ cell ∧ cell ≤ 66) (hdog : 0 ≤ dog ∧ dog ≤ 66) (hmark : -1 ≤ mark ∧ mark ≤ 66) : zRun g mX0_nextFrom 3 [.ref h, .int (iI cell), .int (iI dog), .int (iI mark)] (zst I J q) (some (.int (iI (nextN (I h 0) (J h 5) cell dog mark)))) (zst I J q) := by
  obtain ⟨g1, g2, g3, g4, g5, g6⟩ := id hg
  refine zRuns_intro rfl (Nat.le_of_ble_eq_true rfl) (fun X C hR => ?_)
  show zZ g X 0 0 _ 0 [(0, .ref h), (1, .int (iI cell)), (2, .int (iI dog)), (3, .int (iI mark))] []
  refine z_iload_n C 1 rfl dX0_nextFrom_0 rfl ?_
  refine z_iload_n C 2 rfl dX0_nextFrom_1 rfl ?_
  refine y_callN2 C (host := RX5) oX5_stepsBetween sX5_stepsBetween (List.mem_of_getElem? (i := 5) rfl) (c_X5_stepsBetween (by first | assumption | omega) (by first | assumption | omega)) (by decide) (Nat.le_refl _) (Nat.le_refl _) (Nat.le_of_ble_eq_true rfl) dX0_nextFrom_2 ?_
  refine z_topI C (fun aw eaw => ?_)
  have haw := stp_r (c := cell) (d := dog) (by omega) (by omega)
  refine z_istore C [(4, .int (iI aw)), (0, .ref h), (1, .int (iI cell)), (2, .int (iI dog)), (3, .int (iI mark))] dX0_nextFrom_5 (by decide) rfl ?_
  refine z_iload_n C 2 rfl dX0_nextFrom_7 rfl ?_
  refine z_istore C [(5, .int (iI cell)), (4, .int (iI aw)), (0, .ref h), (1, .int (iI cell)), (2, .int (iI dog)), (3, .int (iI mark))] dX0_nextFrom_8 (by decide) rfl ?_
  refine z_iconst C dX0_nextFrom_10 ?_
  refine z_istore C [(6, .int (iI 0)), (5, .int (iI cell)), (4, .int (iI aw)), (0, .ref h), (1, .int (iI cell)), (2, .int (iI dog)), (3, .int (iI mark))] dX0_nextFrom_11 (by decide) rfl ?_
  refine z_iconst C dX0_nextFrom_13 ?_
  refine z_istore C [(7, .int (iI 1)), (6, .int (iI 0)), (5, .int (iI cell)), (4, .int (iI aw)), (0, .ref h), (1, .int (iI cell)), (2, .int (iI dog)), (3, .int (iI mark))] dX0_nextFrom_14 (by decide) rfl ?_
  refine zZ_sub [4, 5, 6, 7, 3, 2, 1, 0] rfl ?_
  refine zZ_cast (σ' := (fun _ : Nat => zst I J q) 0) (L' := (fun e : Nat => [(0, .ref h), (1, .int (iI cell)), (2, .int (iI dog)), (3, .int (iI mark)), (4, .int (iI aw)), (5, .int (iI (nfold (I h 0) (J h 5) dog mark cell e).1)), (6, .int (iI (nfold (I h 0) (J h 5) dog mark cell e).2)), (7, .int (iI ((e : Int) + 1)))]) 0) rfl rfl rfl ?_
  refine zfor (4) (fun _ => True) (fun _ : Nat => zst I J q) (fun e : Nat => [(0, .ref h), (1, .int (iI cell)), (2, .int (iI dog)), (3, .int (iI mark)), (4, .int (iI aw)), (5, .int (iI (nfold (I h 0) (J h 5) dog mark cell e).1)), (6, .int (iI (nfold (I h 0) (J h 5) dog mark cell e).2)), (7, .int (iI ((e : Int) + 1)))]) trivial ?_ ?_
  · intro e hee hpe kke
    have hr := nfold_r (w := J h 5) (dog := dog) g1.2 hcell hmark e
    obtain ⟨nx, ls, hnl⟩ : ∃ nx ls, nfold (I h 0) (J h 5) dog mark cell e = (nx, ls) := ⟨_, _, rfl⟩
    rw [hnl] at hr ⊢
    simp only at hr
    have hsh := shN_r (e + 1)
    refine z_iload C 7 rfl dX0_nextFrom_16 ?_
    refine z_iconst C dX0_nextFrom_18 ?_
    refine z_icmp_ge C 96 dX0_nextFrom_19 (by decide) (by omega) (by omega) (fun h19 => ?_) (fun h19 => ?_)
    · omega
    · refine z_iload_n C 1 rfl dX0_nextFrom_22 rfl ?_
      refine z_getsN C (k := 0) rfl (List.mem_of_getElem? (i := 3) rfl) rfl dX0_nextFrom_23 ?_
      refine z_iload C 7 rfl dX0_nextFrom_26 ?_
      refine z_ialdS C (k := 0) rfl (e + 1) (by omega) (show _ < 5 by omega) (by decide) dX0_nextFrom_28 ?_
      refine z_iadd C dX0_nextFrom_29 ?_
      refine z_topI C (fun b eb => ?_)
      have eb' : b = cell + shN (e + 1) := eb
      refine z_istore C [(8, .int (iI b)), (0, .ref h), (1, .int (iI cell)), (2, .int (iI dog)), (3, .int (iI mark)), (4, .int (iI aw)), (5, .int (iI nx)), (6, .int (iI ls)), (7, .int (iI ((e : Int) + 1)))] dX0_nextFrom_30 (by decide) rfl ?_
      refine z_aload_n C 1 rfl dX0_nextFrom_32 rfl ?_
      refine z_iload C 0 rfl dX0_nextFrom_33 ?_
      refine y_callV1 C oX0_isOpen iX0_isOpen eX0_isOpen lkX0_68 (c_X0_isOpen hh hg (by first | assumption | omega)) (lay_h hh) (by decide) rfl rfl (by decide) (Nat.le_refl _) (Nat.le_refl _) (Nat.le_of_ble_eq_true rfl) dX0_nextFrom_35 ?_
      refine y_if_eqB C 90 dX0_nextFrom_38 (by decide) (fun h38 => ?_) (fun h38 => ?_)
      · obtain ⟨v1, ev1⟩ : ∃ y : Int, y = (e : Int) + 1 + 1 := ⟨_, rfl⟩
        refine z_iinc C 8 v1 [(7, .int (iI v1)), (8, .int (iI b)), (0, .ref h), (1, .int (iI cell)), (2, .int (iI dog)), (3, .int (iI mark)), (4, .int (iI aw)), (5, .int (iI nx)), (6, .int (iI ls))] dX0_nextFrom_90 rfl ev1.symm (by decide) rfl ?_
        refine z_goto C 16 dX0_nextFrom_93 (by decide) ?_
        refine zZ_sub [2, 3, 4, 5, 6, 7, 8, 0] rfl ?_
        refine zZ_cast rfl (zLk (zLk (zLk (zLk (zLk (zLc (by simp only [nfold, hnl]; rw [nstp_f eb' (Or.inl h38)]) (zLc (by simp only [nfold, hnl]; rw [nstp_f eb' (Or.inl h38)]) (zLc (by omega) rfl)))))))) rfl (kke trivial)
      · have hbo := openN_r g1.2 h38
        refine z_iload C 0 rfl dX0_nextFrom_41 ?_
        refine z_iload_n C 3 rfl dX0_nextFrom_43 rfl ?_
        refine y_callN2 C (host := RX5) oX5_stepsBetween sX5_stepsBetween (List.mem_of_getElem? (i := 5) rfl) (c_X5_stepsBetween (by first | assumption | omega) (by first | assumption | omega)) (by decide) (Nat.le_refl _) (Nat.le_refl _) (Nat.le_of_ble_eq_true rfl) dX0_nextFrom_44 ?_
        have hbd := stp_r (c := b) (d := dog) (by omega) (by omega)
        refine z_iload C 5 rfl dX0_nextFrom_47 ?_
        refine z_icmp_le C 90 dX0_nextFrom_49 (by decide) (by omega) (by omega) (fun h49 => ?_) (fun h49 => ?_)
        · obtain ⟨v2, ev2⟩ : ∃ y : Int, y = (e : Int) + 1 + 1 := ⟨_, rfl⟩
          refine z_iinc C 8 v2 [(7, .int (iI v2)), (8, .int (iI b)), (0, .ref h), (1, .int (iI cell)), (2, .int (iI dog)), (3, .int (iI mark)), (4, .int (iI aw)), (5, .int (iI nx)), (6, .int (iI ls))] dX0_nextFrom_90 rfl ev2.symm (by decide) rfl ?_
          refine z_goto C 16 dX0_nextFrom_93 (by decide) ?_
          refine zZ_sub [2, 3, 4, 5, 6, 7, 8, 0] rfl ?_
          refine zZ_cast rfl (zLk (zLk (zLk (zLk (zLk (zLc (by simp only [nfold, hnl]; rw [nstp_f eb' (Or.inr (Or.inl (by omega)))]) (zLc (by simp only [nfold, hnl]; rw [nstp_f eb' (Or.inr (Or.inl (by omega)))]) (zLc (by omega) rfl)))))))) rfl (kke trivial)
        · refine z_iload_n C 4 rfl dX0_nextFrom_52 rfl ?_
          refine z_iconst C dX0_nextFrom_53 ?_
          refine z_icmp_ne C 61 dX0_nextFrom_54 (by decide) (by omega) (by omega) (fun h54 => ?_) (fun h54 => ?_)
          · refine z_iload C 0 rfl dX0_nextFrom_61 ?_
            refine z_iload_n C 4 rfl dX0_nextFrom_63 rfl ?_
            refine y_callN2 C (host := RX5) oX5_stepsBetween sX5_stepsBetween (List.mem_of_getElem? (i := 5) rfl) (c_X5_stepsBetween (by first | assumption | omega) (by first | assumption | omega)) (by decide) (Nat.le_refl _) (Nat.le_refl _) (Nat.le_of_ble_eq_true rfl) dX0_nextFrom_64 ?_
            have hbm := stp_r (c := b) (d := mark) (by omega) (by omega)
            refine z_topI C (fun fa efa => ?_)
            refine z_istore C [(9, .int (iI fa)), (8, .int (iI b)), (0, .ref h), (1, .int (iI cell)), (2, .int (iI dog)), (3, .int (iI mark)), (4, .int (iI aw)), (5, .int (iI nx)), (6, .int (iI ls)), (7, .int (iI ((e : Int) + 1)))] dX0_nextFrom_67 (by decide) rfl ?_
            refine z_iload C 7 rfl dX0_nextFrom_69 ?_
            refine z_iload_n C 3 rfl dX0_nextFrom_71 rfl ?_
            refine z_icmp_eq C 82 dX0_nextFrom_72 (by decide) (by omega) (by omega) (fun h72 => ?_) (fun h72 => ?_)
            · refine z_iload C 1 rfl dX0_nextFrom_82 ?_
              refine z_istore C [(5, .int (iI b)), (9, .int (iI fa)), (8, .int (iI b)), (0, .ref h), (1, .int (iI cell)), (2, .int (iI dog)), (3, .int (iI mark)), (4, .int (iI aw)), (6, .int (iI ls)), (7, .int (iI ((e : Int) + 1)))] dX0_nextFrom_84 (by decide) rfl ?_
              refine z_iload C 1 rfl dX0_nextFrom_86 ?_
              refine z_istore C [(6, .int (iI fa)), (5, .int (iI b)), (9, .int (iI fa)), (8, .int (iI b)), (0, .ref h), (1, .int (iI cell)), (2, .int (iI dog)), (3, .int (iI mark)), (4, .int (iI aw)), (7, .int (iI ((e : Int) + 1)))] dX0_nextFrom_88 (by decide) rfl ?_
              obtain ⟨v3, ev3⟩ : ∃ y : Int, y = (e : Int) + 1 + 1 := ⟨_, rfl⟩
              refine z_iinc C 9 v3 [(7, .int (iI v3)), (6, .int (iI fa)), (5, .int (iI b)), (9, .int (iI fa)), (8, .int (iI b)), (0, .ref h), (1, .int (iI cell)), (2, .int (iI dog)), (3, .int (iI mark)), (4, .int (iI aw))] dX0_nextFrom_90 rfl ev3.symm (by decide) rfl ?_
              refine z_goto C 16 dX0_nextFrom_93 (by decide) ?_
              refine zZ_sub [5, 6, 7, 8, 9, 2, 1, 0] rfl ?_
              refine zZ_cast rfl (zLk (zLk (zLk (zLk (zLk (zLc (by simp only [nfold, hnl]; rw [nstp_t eb' h38 (by omega) (f := fa) (by unfold farN; rw [if_neg h54]; exact efa) (Or.inl h72)]) (zLc (by simp only [nfold, hnl]; rw [nstp_t eb' h38 (by omega) (f := fa) (by unfold farN; rw [if_neg h54]; exact efa) (Or.inl h72)]) (zLc (by omega) rfl)))))))) rfl (kke trivial)
            · refine z_iload C 0 rfl dX0_nextFrom_75 ?_
              refine z_iload C 8 rfl dX0_nextFrom_77 ?_
              refine z_icmp_ge C 90 dX0_nextFrom_79 (by decide) (by omega) (by omega) (fun h79 => ?_) (fun h79 => ?_)
              · obtain ⟨v4, ev4⟩ : ∃ y : Int, y = (e : Int) + 1 + 1 := ⟨_, rfl⟩
                refine z_iinc C 9 v4 [(7, .int (iI v4)), (9, .int (iI fa)), (8, .int (iI b)), (0, .ref h), (1, .int (iI cell)), (2, .int (iI dog)), (3, .int (iI mark)), (4, .int (iI aw)), (5, .int (iI nx)), (6, .int (iI ls))] dX0_nextFrom_90 rfl ev4.symm (by decide) rfl ?_
                refine z_goto C 16 dX0_nextFrom_93 (by decide) ?_
                refine zZ_sub [3, 4, 5, 6, 7, 8, 9, 0] rfl ?_
                refine zZ_cast rfl (zLk (zLk (zLk (zLk (zLk (zLc (by simp only [nfold, hnl]; rw [nstp_f eb' (Or.inr (Or.inr (by rw [← show fa = farN mark b from (by unfold farN; rw [if_neg h54]; exact efa)]; simp only; omega)))]) (zLc (by simp only [nfold, hnl]; rw [nstp_f eb' (Or.inr (Or.inr (by rw [← show fa = farN mark b from (by unfold farN; rw [if_neg h54]; exact efa)]; simp only; omega)))]) (zLc (by omega) rfl)))))))) rfl (kke trivial)
              · refine z_iload C 1 rfl dX0_nextFrom_82 ?_
                refine z_istore C [(5, .int (iI b)), (9, .int (iI fa)), (8, .int (iI b)), (0, .ref h), (1, .int (iI cell)), (2, .int (iI dog)), (3, .int (iI mark)), (4, .int (iI aw)), (6, .int (iI ls)), (7, .int (iI ((e : Int) + 1)))] dX0_nextFrom_84 (by decide) rfl ?_
                refine z_iload C 1 rfl dX0_nextFrom_86 ?_
                refine z_istore C [(6, .int (iI fa)), (5, .int (iI b)), (9, .int (iI fa)), (8, .int (iI b)), (0, .ref h), (1, .int (iI cell)), (2, .int (iI dog)), (3, .int (iI mark)), (4, .int (iI aw)), (7, .int (iI ((e : Int) + 1)))] dX0_nextFrom_88 (by decide) rfl ?_
                obtain ⟨v5, ev5⟩ : ∃ y : Int, y = (e : Int) + 1 + 1 := ⟨_, rfl⟩
                refine z_iinc C 9 v5 [(7, .int (iI v5)), (6, .int (iI fa)), (5, .int (iI b)), (9, .int (iI fa)), (8, .int (iI b)), (0, .ref h), (1, .int (iI cell)), (2, .int (iI dog)), (3, .int (iI mark)), (4, .int (iI aw))] dX0_nextFrom_90 rfl ev5.symm (by decide) rfl ?_
                refine z_goto C 16 dX0_nextFrom_93 (by decide) ?_
                refine zZ_sub [5, 6, 7, 8, 9, 2, 1, 0] rfl ?_
                refine zZ_cast rfl (zLk (zLk (zLk (zLk (zLk (zLc (by simp only [nfold, hnl]; rw [nstp_t eb' h38 (by omega) (f := fa) (by unfold farN; rw [if_neg h54]; exact efa) (Or.inr (by simp only; omega))]) (zLc (by simp only [nfold, hnl]; rw [nstp_t eb' h38 (by omega) (f := fa) (by unfold farN; rw [if_neg h54]; exact efa) (Or.inr (by simp only; omega))]) (zLc (by omega) rfl)))))))) rfl (kke trivial)
          · refine z_iconst C dX0_nextFrom_57 ?_
            refine z_goto C 67 dX0_nextFrom_58 (by decide) ?_
            refine z_istore C [(9, .int (iI 0)), (8, .int (iI b)), (0, .ref h), (1, .int (iI cell)), (2, .int (iI dog)), (3, .int (iI mark)), (4, .int (iI aw)), (5, .int (iI nx)), (6, .int (iI ls)), (7, .int (iI ((e : Int) + 1)))] dX0_nextFrom_67 (by decide) rfl ?_
            refine z_iload C 7 rfl dX0_nextFrom_69 ?_
            refine z_iload_n C 3 rfl dX0_nextFrom_71 rfl ?_
            refine z_icmp_eq C 82 dX0_nextFrom_72 (by decide) (by omega) (by omega) (fun h72 => ?_) (fun h72 => ?_)
            · refine z_iload C 1 rfl dX0_nextFrom_82 ?_
              refine z_istore C [(5, .int (iI b)), (9, .int (iI 0)), (8, .int (iI b)), (0, .ref h), (1, .int (iI cell)), (2, .int (iI dog)), (3, .int (iI mark)), (4, .int (iI aw)), (6, .int (iI ls)), (7, .int (iI ((e : Int) + 1)))] dX0_nextFrom_84 (by decide) rfl ?_
              refine z_iload C 1 rfl dX0_nextFrom_86 ?_
              refine z_istore C [(6, .int (iI 0)), (5, .int (iI b)), (9, .int (iI 0)), (8, .int (iI b)), (0, .ref h), (1, .int (iI cell)), (2, .int (iI dog)), (3, .int (iI mark)), (4, .int (iI aw)), (7, .int (iI ((e : Int) + 1)))] dX0_nextFrom_88 (by decide) rfl ?_
              obtain ⟨v6, ev6⟩ : ∃ y : Int, y = (e : Int) + 1 + 1 := ⟨_, rfl⟩
              refine z_iinc C 9 v6 [(7, .int (iI v6)), (6, .int (iI 0)), (5, .int (iI b)), (9, .int (iI 0)), (8, .int (iI b)), (0, .ref h), (1, .int (iI cell)), (2, .int (iI dog)), (3, .int (iI mark)), (4, .int (iI aw))] dX0_nextFrom_90 rfl ev6.symm (by decide) rfl ?_
              refine z_goto C 16 dX0_nextFrom_93 (by decide) ?_
              refine zZ_sub [5, 6, 7, 8, 9, 2, 1, 0] rfl ?_
              refine zZ_cast rfl (zLk (zLk (zLk (zLk (zLk (zLc (by simp only [nfold, hnl]; rw [nstp_t eb' h38 (by omega) (f := 0) (by unfold farN; rw [if_pos h54]) (Or.inl h72)]) (zLc (by simp only [nfold, hnl]; rw [nstp_t eb' h38 (by omega) (f := 0) (by unfold farN; rw [if_pos h54]) (Or.inl h72)]) (zLc (by omega) rfl)))))))) rfl (kke trivial)
            · refine z_iload C 0 rfl dX0_nextFrom_75 ?_
              refine z_iload C 8 rfl dX0_nextFrom_77 ?_
              refine z_icmp_ge C 90 dX0_nextFrom_79 (by decide) (by omega) (by omega) (fun h79 => ?_) (fun h79 => ?_)
              · obtain ⟨v7, ev7⟩ : ∃ y : Int, y = (e : Int) + 1 + 1 := ⟨_, rfl⟩
                refine z_iinc C 9 v7 [(7, .int (iI v7)), (9, .int (iI 0)), (8, .int (iI b)), (0, .ref h), (1, .int (iI cell)), (2, .int (iI dog)), (3, .int (iI mark)), (4, .int (iI aw)), (5, .int (iI nx)), (6, .int (iI ls))] dX0_nextFrom_90 rfl ev7.symm (by decide) rfl ?_
                refine z_goto C 16 dX0_nextFrom_93 (by decide) ?_
                refine zZ_sub [3, 4, 5, 6, 7, 8, 9, 0] rfl ?_
                refine zZ_cast rfl (zLk (zLk (zLk (zLk (zLk (zLc (by simp only [nfold, hnl]; rw [nstp_f eb' (Or.inr (Or.inr (by rw [← show 0 = farN mark b from (by unfold farN; rw [if_pos h54])]; simp only; omega)))]) (zLc (by simp only [nfold, hnl]; rw [nstp_f eb' (Or.inr (Or.inr (by rw [← show 0 = farN mark b from (by unfold farN; rw [if_pos h54])]; simp only; omega)))]) (zLc (by omega) rfl)))))))) rfl (kke trivial)
              · refine z_iload C 1 rfl dX0_nextFrom_82 ?_
                refine z_istore C [(5, .int (iI b)), (9, .int (iI 0)), (8, .int (iI b)), (0, .ref h), (1, .int (iI cell)), (2, .int (iI dog)), (3, .int (iI mark)), (4, .int (iI aw)), (6, .int (iI ls)), (7, .int (iI ((e : Int) + 1)))] dX0_nextFrom_84 (by decide) rfl ?_
                refine z_iload C 1 rfl dX0_nextFrom_86 ?_
                refine z_istore C [(6, .int (iI 0)), (5, .int (iI b)), (9, .int (iI 0)), (8, .int (iI b)), (0, .ref h), (1, .int (iI cell)), (2, .int (iI dog)), (3, .int (iI mark)), (4, .int (iI aw)), (7, .int (iI ((e : Int) + 1)))] dX0_nextFrom_88 (by decide) rfl ?_
                obtain ⟨v8, ev8⟩ : ∃ y : Int, y = (e : Int) + 1 + 1 := ⟨_, rfl⟩
                refine z_iinc C 9 v8 [(7, .int (iI v8)), (6, .int (iI 0)), (5, .int (iI b)), (9, .int (iI 0)), (8, .int (iI b)), (0, .ref h), (1, .int (iI cell)), (2, .int (iI dog)), (3, .int (iI mark)), (4, .int (iI aw))] dX0_nextFrom_90 rfl ev8.symm (by decide) rfl ?_
                refine z_goto C 16 dX0_nextFrom_93 (by decide) ?_
                refine zZ_sub [5, 6, 7, 8, 9, 2, 1, 0] rfl ?_
                refine zZ_cast rfl (zLk (zLk (zLk (zLk (zLk (zLc (by simp only [nfold, hnl]; rw [nstp_t eb' h38 (by omega) (f := 0) (by unfold farN; rw [if_pos h54]) (Or.inr (by simp only; omega))]) (zLc (by simp only [nfold, hnl]; rw [nstp_t eb' h38 (by omega) (f := 0) (by unfold farN; rw [if_pos h54]) (Or.inr (by simp only; omega))]) (zLc (by omega) rfl)))))))) rfl (kke trivial)
  · intro hpe
    refine z_iload C 7 rfl dX0_nextFrom_16 ?_
    refine z_iconst C dX0_nextFrom_18 ?_
    refine z_icmp_ge C 96 dX0_nextFrom_19 (by decide) (by omega) (by omega) (fun h19 => ?_) (fun h19 => ?_)
    · refine z_iload C 5 rfl dX0_nextFrom_96 ?_
      exact zZ_iret C hR (Nat.le_refl _) (Nat.le_refl _) dX0_nextFrom_98 rfl (zIs_I rfl rfl)
    · omega
