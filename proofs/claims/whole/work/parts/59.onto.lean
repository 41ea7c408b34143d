set_option maxHeartbeats 4000000 in
set_option maxRecDepth 100000 in
theorem c_X4_readOnto {g : zG} {I : Nat → Nat → Int} {J : Nat → Nat → Int64} {q : Nat × Nat} {n : Nat} (hT : gT I) (hn : I 11 1 = (n : Nat)) (hg : gH I 1) (hq4 : gS I 4) : zRun g mX4_readOnto 7 [.ref 11, .ref 1] (zst I J q) (some (.int (iI ((paR (I 12) n (rd0 I J)).1)))) (zst (drI (tkI I (I 12) n ((paR (I 12) n (rd0 I J)).2.1)) ((paR (I 12) n (rd0 I J)).2.2)) (drJ J ((paR (I 12) n (rd0 I J)).2.2)) q) := by
  have hf : ∀ k, k < n → 0 ≤ I 12 k := fun k hk => (hT.2 k (by have := hT.1; omega)).1
  have hn25 : n ≤ 250 := by have := hT.1; omega
  have hR0 : gHR (rd0 I J) := rd0_g hg hq4
  refine zRuns_intro rfl (Nat.le_of_ble_eq_true rfl) (fun X C hR => ?_)
  show zZ g X 0 0 _ 0 [(0, .ref 11), (1, .ref 1)] []
  refine z_aload_n C 0 rfl dX4_readOnto_0 rfl ?_
  refine y_getR C zCl4 2 flX4_22 rfl rfl rfl dX4_readOnto_1 ?_
  refine z_aload_n C 1 rfl dX4_readOnto_4 rfl ?_
  refine y_callV1 C oX0_setTo iX0_setTo eX0_setTo lkX4_35 (c_X0_setTo isH_13 isH_1 (by decide)) rfl (by decide) rfl rfl (by decide) (Nat.le_refl _) (Nat.le_refl _) (Nat.le_of_ble_eq_true rfl) dX4_readOnto_5 ?_
  refine z_aload_n C 0 rfl dX4_readOnto_8 rfl ?_
  refine z_iconst C dX4_readOnto_9 ?_
  refine y_putI C zCl4 5 flX4_32 rfl rfl rfl rfl dX4_readOnto_10 ?_
  refine zZ_cast (σ' := zst (drI (zTk I (I 11 3) (I 11 4) ((0 : Nat) : Int)) (rd0 I J)) (drJ J (rd0 I J)) q) (by rw [rd0_I (J := J)]; rfl) rfl rfl ?_
  refine z_iconst C dX4_readOnto_13 ?_
  refine z_istore_n C [(2, .int (iI 1)), (0, .ref 11), (1, .ref 1)] dX4_readOnto_14 rfl (by decide) rfl ?_
  refine zZ_sub [1, 2, 0] rfl ?_
  refine zZ_cast (σ' := (fun (e : Nat) (ts : Int × Int) => zst (drI (zTk I ts.1 ts.2 ((paS (I 12) n (rd0 I J) e).1 : Nat)) (paS (I 12) n (rd0 I J) e).2) (drJ J (paS (I 12) n (rd0 I J) e).2) q) 0 (I 11 3, I 11 4)) (L' := (fun (e : Nat) (ts : Int × Int) => [(0, .ref 11), (1, .ref 1), (2, .int (iI ((e : Int) + 1)))]) 0 (I 11 3, I 11 4)) rfl rfl rfl ?_
  refine zforE (250) (fun e _ => firstN (paE (I 12) n (rd0 I J)) e = none) (fun (e : Nat) (ts : Int × Int) => zst (drI (zTk I ts.1 ts.2 ((paS (I 12) n (rd0 I J) e).1 : Nat)) (paS (I 12) n (rd0 I J) e).2) (drJ J (paS (I 12) n (rd0 I J) e).2) q) (fun (e : Nat) (ts : Int × Int) => [(0, .ref 11), (1, .ref 1), (2, .int (iI ((e : Int) + 1)))]) (I 11 3, I 11 4) rfl ?_ ?_
  · intro e ts hee hpe kke
    have ok := paS_ok (R := (rd0 I J)) hf hR0 e
    obtain ⟨P, R, hPR⟩ : ∃ P R, paS (I 12) n (rd0 I J) e = (P, R) := ⟨_, _, rfl⟩
    rw [hPR] at ok ⊢
    dsimp only at ok ⊢
    obtain ⟨u1, u2, u3, u4, u5⟩ := dr_n0 (R := R) (t := ts.1) (s := ts.2) hn hT ok.1
    have hst := st_le (R := R) hf ok.1
    have hsg := st_g (f := I 12) (n := n) (p := P) ok.2
    refine z_iload_n C 2 rfl dX4_readOnto_15 rfl ?_
    refine z_sipush C dX4_readOnto_16 (by decide) ?_
    refine z_icmp_gt C 66 dX4_readOnto_19 (by decide) (by omega) (by omega) (fun h19 => ?_) (fun h19 => ?_)
    · omega
    · refine z_aload_n C 0 rfl dX4_readOnto_22 rfl ?_
      refine y_callV0 C oX4_nextToken iX4_nextToken eX4_nextToken lkX4_39 (c_X4_nextToken u4 u5) rfl (by decide) rfl rfl (by decide) (Nat.le_refl _) (Nat.le_refl _) (Nat.le_of_ble_eq_true rfl) dX4_readOnto_23 ?_
      refine zZ_cast (σ' := zst (drI (tkI I (I 12) n (P)) (R)) (drJ J (R)) q) (by rw [u1, u2, u3, drI_zk]) rfl rfl ?_
      refine z_aload_n C 0 rfl dX4_readOnto_26 rfl ?_
      refine y_callV0 C oX4_readStatement iX4_readStatement eX4_readStatement lkX4_42 (c_X4_readStatement hT hn (by first | assumption | omega) ok.2) rfl (by decide) rfl rfl (by decide) (Nat.le_refl _) (Nat.le_refl _) (Nat.le_of_ble_eq_true rfl) dX4_readOnto_27 ?_
      refine y_if_neB C 36 dX4_readOnto_30 (by decide) (fun h30 => ?_) (fun h30 => ?_)
      · obtain ⟨w1, w2, w3, w4, w5, w6⟩ := dr_nx (R := (stF (I 12) n P R).2.2) hn hT hst.2
        refine z_aload_n C 0 rfl dX4_readOnto_36 rfl ?_
        refine y_callV0 C oX4_nextToken iX4_nextToken eX4_nextToken lkX4_39 (c_X4_nextToken w4 w5) rfl (by decide) rfl rfl (by decide) (Nat.le_refl _) (Nat.le_refl _) (Nat.le_of_ble_eq_true rfl) dX4_readOnto_37 ?_
        refine zZ_cast (σ' := zst (drI (tkI I (I 12) n ((tokE (I 12) n (stF (I 12) n P R).2.1))) ((stF (I 12) n P R).2.2)) (drJ J ((stF (I 12) n P R).2.2)) q) (by rw [w1, w2, w3, w6]) rfl rfl ?_
        refine z_aload_n C 0 rfl dX4_readOnto_40 rfl ?_
        refine y_getI C zCl4 3 flX4_26 rfl rfl dX4_readOnto_41 ?_
        refine z_top C (tokT (I 12) n (tokE (I 12) n (stF (I 12) n P R).2.1)) (by rw [drI_n (by omega)]; rfl) ?_
        have hTq := tokT_r (I 12) n (tokE (I 12) n (stF (I 12) n P R).2.1)
        refine z_if_ne C 49 dX4_readOnto_44 (by decide) (by omega) (fun h44 => ?_) (fun h44 => ?_)
        · refine z_aload_n C 0 rfl dX4_readOnto_49 rfl ?_
          refine y_getI C zCl4 3 flX4_26 rfl rfl dX4_readOnto_50 ?_
          refine z_top C (tokT (I 12) n (tokE (I 12) n (stF (I 12) n P R).2.1)) (by rw [drI_n (by omega)]; rfl) ?_
          refine z_iconst C dX4_readOnto_53 ?_
          refine z_icmp_eq C 60 dX4_readOnto_54 (by decide) (by omega) (by omega) (fun h54 => ?_) (fun h54 => ?_)
          · obtain ⟨v1, ev1⟩ : ∃ y : Int, y = (e : Int) + 1 + 1 := ⟨_, rfl⟩
            refine z_iinc C 2 v1 [(2, .int (iI v1)), (0, .ref 11), (1, .ref 1)] dX4_readOnto_60 rfl ev1.symm (by decide) rfl ?_
            refine z_goto C 15 dX4_readOnto_63 (by decide) ?_
            refine zZ_sub [1, 2, 0] rfl ?_
            refine zZ_cast (by rw [paS, hPR]; rfl) (zLk (zLk (zLc (by omega) rfl))) rfl (kke (tokT (I 12) n (tokE (I 12) n (stF (I 12) n P R).2.1), ((skN (I 12) n (tokE (I 12) n (stF (I 12) n P R).2.1) : Nat) : Int)) (by simp only [firstN, hpe]; rw [if_neg (by unfold paE; rw [hPR]; dsimp only; rw [h30, decide_eq_true h54]; decide)]))
          · refine z_goto C 66 dX4_readOnto_57 (by decide) ?_
            have hO : paR (I 12) n (rd0 I J) = ((-20 - (skN (I 12) n (tokE (I 12) n (stF (I 12) n P R).2.1) : Nat) : Int), (tokE (I 12) n (stF (I 12) n P R).2.1), (stF (I 12) n P R).2.2) := by
              rw [paR_at hee hpe (by unfold paE; rw [hPR]; dsimp only; rw [decide_eq_false (show ¬ tokT (I 12) n (tokE (I 12) n (stF (I 12) n P R).2.1) = 3 by omega), Bool.and_false]; rfl), hPR]
              exact (by unfold paO; rw [if_neg (fun z => absurd (h30.symm.trans z) (by decide)), if_neg h44])
            rw [hO] at hR
            refine z_bipush C dX4_readOnto_66 (by decide) ?_
            refine z_aload_n C 0 rfl dX4_readOnto_68 rfl ?_
            refine y_getI C zCl4 4 flX4_29 rfl rfl dX4_readOnto_69 ?_
            refine z_isub C dX4_readOnto_72 ?_
            exact zZ_iret C hR (Nat.le_refl _) (Nat.le_refl _) dX4_readOnto_73 rfl (zIs_I rfl rfl)
        · have hO : paR (I 12) n (rd0 I J) = (((e + 1 : Nat) : Int), (tokE (I 12) n (stF (I 12) n P R).2.1), (stF (I 12) n P R).2.2) := by
            rw [paR_at hee hpe (by unfold paE; rw [hPR]; dsimp only; rw [decide_eq_false (show ¬ tokT (I 12) n (tokE (I 12) n (stF (I 12) n P R).2.1) = 3 by omega), Bool.and_false]; rfl), hPR]
            exact (by unfold paO; rw [if_neg (fun z => absurd (h30.symm.trans z) (by decide)), if_pos h44])
          rw [hO] at hR
          refine z_iload_n C 2 rfl dX4_readOnto_47 rfl ?_
          exact zZ_iret C hR (Nat.le_refl _) (Nat.le_refl _) dX4_readOnto_48 rfl (zIs_I (by show (e : Int) + 1 = ((e + 1 : Nat) : Int); omega) rfl)
      · refine z_goto C 66 dX4_readOnto_33 (by decide) ?_
        have hO : paR (I 12) n (rd0 I J) = ((-20 - (skN (I 12) n (stF (I 12) n P R).2.1 : Nat) : Int), (stF (I 12) n P R).2.1, (stF (I 12) n P R).2.2) := by
          rw [paR_at hee hpe (by unfold paE; rw [hPR]; dsimp only; rw [h30]; rfl), hPR]
          exact (by unfold paO; rw [if_pos h30])
        rw [hO] at hR
        refine z_bipush C dX4_readOnto_66 (by decide) ?_
        refine z_aload_n C 0 rfl dX4_readOnto_68 rfl ?_
        refine y_getI C zCl4 4 flX4_29 rfl rfl dX4_readOnto_69 ?_
        refine z_isub C dX4_readOnto_72 ?_
        exact zZ_iret C hR (Nat.le_refl _) (Nat.le_refl _) dX4_readOnto_73 rfl (zIs_I rfl rfl)
  · intro ts hpe
    exact absurd hpe (pa_some hn25 hf hR0)
