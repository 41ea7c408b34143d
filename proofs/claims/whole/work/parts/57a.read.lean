set_option maxHeartbeats 4000000 in
set_option maxRecDepth 100000 in
theorem c_X4_readSide {g : zG} {I : Nat → Nat → Int} {J : Nat → Nat → Int64} {q : Nat × Nat} {n p : Nat} {R : HR} (hT : gT I) (hn : I 11 1 = (n : Nat)) (hp : p ≤ n) (hRR : gHR R) : zRun g mX4_readSide 5 [.ref 11] (zst (drI (tkI I (I 12) n (p)) (R)) (drJ J (R)) q) (some (.int (iI (bI (stSide (I 12) n (tokE (I 12) n p) R).1)))) (zst (drI (tkI I (I 12) n ((stSide (I 12) n (tokE (I 12) n p) R).2.1)) ((stSide (I 12) n (tokE (I 12) n p) R).2.2)) (drJ J ((stSide (I 12) n (tokE (I 12) n p) R).2.2)) q) := by
  have hf : ∀ k, k < n → 0 ≤ I 12 k := fun k hk => (hT.2 k (by have := hT.1; omega)).1
  obtain ⟨d01, d02, d03, d04, d05, d06⟩ := dr_nx (R := R) hn hT (show p ≤ n by omega)
  have hle0 := tokE_n hn hT (show p ≤ n by omega)
  obtain ⟨⟨r1, r2, r3, r4, r5, r6⟩, r7, r8, r9⟩ := id hRR
  refine zRuns_intro rfl (Nat.le_of_ble_eq_true rfl) (fun X C hR => ?_)
  show zZ g X 0 0 _ 0 [(0, .ref 11)] []
  refine z_aload_n C 0 rfl dX4_readSide_0 rfl ?_
  refine y_callV0 C oX4_nextNumber iX4_nextNumber eX4_nextNumber lkX4_85 (c_X4_nextNumber d04 d05) rfl (by decide) rfl rfl (by decide) (Nat.le_refl _) (Nat.le_refl _) (Nat.le_of_ble_eq_true rfl) dX4_readSide_1 ?_
  refine zZ_cast (S' := .int (iI (nmN (I 12) n (tokE (I 12) n p))) :: []) (σ' := zst (drI (tkI I (I 12) n ((tokE (I 12) n p))) (R)) (drJ J (R)) q) (by rw [d01, d02, d03, d06]) rfl (by rw [d01, d02, d03]; rfl) ?_
  refine z_topI C (fun v ev => ?_)
  have ev : v = nmN (I 12) n (tokE (I 12) n p) := ev
  have hvr := nm_ok (p := (tokE (I 12) n p)) hn hT
  rw [← ev] at hvr
  refine z_istore_n C [(1, .int (iI v)), (0, .ref 11)] dX4_readSide_4 rfl (by decide) rfl ?_
  refine z_iload_n C 0 rfl dX4_readSide_5 rfl ?_
  refine z_aload_n C 1 rfl dX4_readSide_6 rfl ?_
  refine y_getR C zCl4 2 flX4_22 rfl rfl rfl dX4_readSide_7 ?_
  refine y_getI C zCl0 0 flX4_89 rfl rfl dX4_readSide_10 ?_
  refine z_top C (R.1 0) (rfl) ?_
  refine z_icmp_lt C 22 dX4_readSide_13 (by decide) (by omega) (by omega) (fun h13 => ?_) (fun h13 => ?_)
  · refine z_iconst C dX4_readSide_22 ?_
    exact zZ_zret C hR (Nat.le_refl _) (Nat.le_refl _) dX4_readSide_23 rfl (Or.inl rfl) (zIs_I (by unfold stSide; rw [← ev, if_neg (by omega)] <;> rfl) (by unfold stSide; rw [← ev, if_neg (by omega)]))
  · refine z_iload_n C 0 rfl dX4_readSide_16 rfl ?_
    refine z_bipush C dX4_readSide_17 (by decide) ?_
    refine z_icmp_le C 24 dX4_readSide_19 (by decide) (by omega) (by omega) (fun h19 => ?_) (fun h19 => ?_)
    · refine z_aload_n C 1 rfl dX4_readSide_24 rfl ?_
      refine y_getR C zCl4 2 flX4_22 rfl rfl rfl dX4_readSide_25 ?_
      refine z_iload_n C 0 rfl dX4_readSide_28 rfl ?_
      refine y_putI C zCl0 0 flX4_89 rfl rfl rfl rfl dX4_readSide_29 ?_
      refine z_iconst C dX4_readSide_32 ?_
      exact zZ_zret C hR (Nat.le_refl _) (Nat.le_refl _) dX4_readSide_33 rfl (Or.inr rfl) (zIs_I (by unfold stSide; rw [← ev, if_pos (by omega)] <;> rfl) (by unfold stSide; rw [← ev, if_pos (by omega)]; rw [dr_set]; rfl))
    · refine z_iconst C dX4_readSide_22 ?_
      exact zZ_zret C hR (Nat.le_refl _) (Nat.le_refl _) dX4_readSide_23 rfl (Or.inl rfl) (zIs_I (by unfold stSide; rw [← ev, if_neg (by omega)] <;> rfl) (by unfold stSide; rw [← ev, if_neg (by omega)]))
set_option maxHeartbeats 4000000 in
set_option maxRecDepth 100000 in
theorem c_X4_readWind {g : zG} {I : Nat → Nat → Int} {J : Nat → Nat → Int64} {q : Nat × Nat} {n p : Nat} {R : HR} (hT : gT I) (hn : I 11 1 = (n : Nat)) (hp : p ≤ n) (hRR : gHR R) : zRun g mX4_readWind 5 [.ref 11] (zst (drI (tkI I (I 12) n (p)) (R)) (drJ J (R)) q) (some (.int (iI (bI (stWind (I 12) n (tokE (I 12) n p) R).1)))) (zst (drI (tkI I (I 12) n ((stWind (I 12) n (tokE (I 12) n p) R).2.1)) ((stWind (I 12) n (tokE (I 12) n p) R).2.2)) (drJ J ((stWind (I 12) n (tokE (I 12) n p) R).2.2)) q) := by
  have hf : ∀ k, k < n → 0 ≤ I 12 k := fun k hk => (hT.2 k (by have := hT.1; omega)).1
  obtain ⟨d01, d02, d03, d04, d05, d06⟩ := dr_nx (R := R) hn hT (show p ≤ n by omega)
  have hle0 := tokE_n hn hT (show p ≤ n by omega)
  obtain ⟨⟨r1, r2, r3, r4, r5, r6⟩, r7, r8, r9⟩ := id hRR
  refine zRuns_intro rfl (Nat.le_of_ble_eq_true rfl) (fun X C hR => ?_)
  show zZ g X 0 0 _ 0 [(0, .ref 11)] []
  refine z_aload_n C 0 rfl dX4_readWind_0 rfl ?_
  refine y_callV0 C oX4_nextNumber iX4_nextNumber eX4_nextNumber lkX4_85 (c_X4_nextNumber d04 d05) rfl (by decide) rfl rfl (by decide) (Nat.le_refl _) (Nat.le_refl _) (Nat.le_of_ble_eq_true rfl) dX4_readWind_1 ?_
  refine zZ_cast (S' := .int (iI (nmN (I 12) n (tokE (I 12) n p))) :: []) (σ' := zst (drI (tkI I (I 12) n ((tokE (I 12) n p))) (R)) (drJ J (R)) q) (by rw [d01, d02, d03, d06]) rfl (by rw [d01, d02, d03]; rfl) ?_
  refine z_topI C (fun v ev => ?_)
  have ev : v = nmN (I 12) n (tokE (I 12) n p) := ev
  have hvr := nm_ok (p := (tokE (I 12) n p)) hn hT
  rw [← ev] at hvr
  refine z_istore_n C [(1, .int (iI v)), (0, .ref 11)] dX4_readWind_4 rfl (by decide) rfl ?_
  refine z_iload_n C 0 rfl dX4_readWind_5 rfl ?_
  refine z_if_lt C 15 dX4_readWind_6 (by decide) (by omega) (fun h6 => ?_) (fun h6 => ?_)
  · refine z_iconst C dX4_readWind_15 ?_
    exact zZ_zret C hR (Nat.le_refl _) (Nat.le_refl _) dX4_readWind_16 rfl (Or.inl rfl) (zIs_I (by unfold stWind; rw [← ev, if_neg (by omega)] <;> rfl) (by unfold stWind; rw [← ev, if_neg (by omega)]))
  · refine z_iload_n C 0 rfl dX4_readWind_9 rfl ?_
    refine z_bipush C dX4_readWind_10 (by decide) ?_
    refine z_icmp_le C 17 dX4_readWind_12 (by decide) (by omega) (by omega) (fun h12 => ?_) (fun h12 => ?_)
    · refine z_aload_n C 1 rfl dX4_readWind_17 rfl ?_
      refine y_getR C zCl4 2 flX4_22 rfl rfl rfl dX4_readWind_18 ?_
      refine z_iload_n C 0 rfl dX4_readWind_21 rfl ?_
      refine y_putI C zCl0 2 flX4_131 rfl rfl rfl rfl dX4_readWind_22 ?_
      refine z_iconst C dX4_readWind_25 ?_
      exact zZ_zret C hR (Nat.le_refl _) (Nat.le_refl _) dX4_readWind_26 rfl (Or.inr rfl) (zIs_I (by unfold stWind; rw [← ev, if_pos (by omega)] <;> rfl) (by unfold stWind; rw [← ev, if_pos (by omega)]; rw [dr_set]; rfl))
    · refine z_iconst C dX4_readWind_15 ?_
      exact zZ_zret C hR (Nat.le_refl _) (Nat.le_refl _) dX4_readWind_16 rfl (Or.inl rfl) (zIs_I (by unfold stWind; rw [← ev, if_neg (by omega)] <;> rfl) (by unfold stWind; rw [← ev, if_neg (by omega)]))
set_option maxHeartbeats 4000000 in
set_option maxRecDepth 100000 in
theorem c_X4_readWall {g : zG} {I : Nat → Nat → Int} {J : Nat → Nat → Int64} {q : Nat × Nat} {n p : Nat} {R : HR} (hT : gT I) (hn : I 11 1 = (n : Nat)) (hp : p ≤ n) (hRR : gHR R) : zRun g mX4_readWall 5 [.ref 11] (zst (drI (tkI I (I 12) n (p)) (R)) (drJ J (R)) q) (some (.int (iI (bI (stWall (I 12) n (tokE (I 12) n p) R).1)))) (zst (drI (tkI I (I 12) n ((stWall (I 12) n (tokE (I 12) n p) R).2.1)) ((stWall (I 12) n (tokE (I 12) n p) R).2.2)) (drJ J ((stWall (I 12) n (tokE (I 12) n p) R).2.2)) q) := by
  have hf : ∀ k, k < n → 0 ≤ I 12 k := fun k hk => (hT.2 k (by have := hT.1; omega)).1
  obtain ⟨d01, d02, d03, d04, d05, d06⟩ := dr_nx (R := R) hn hT (show p ≤ n by omega)
  have hle0 := tokE_n hn hT (show p ≤ n by omega)
  obtain ⟨⟨r1, r2, r3, r4, r5, r6⟩, r7, r8, r9⟩ := id hRR
  refine zRuns_intro rfl (Nat.le_of_ble_eq_true rfl) (fun X C hR => ?_)
  show zZ g X 0 0 _ 0 [(0, .ref 11)] []
  refine z_aload_n C 0 rfl dX4_readWall_0 rfl ?_
  refine y_callV0 C oX4_nextNumber iX4_nextNumber eX4_nextNumber lkX4_85 (c_X4_nextNumber d04 d05) rfl (by decide) rfl rfl (by decide) (Nat.le_refl _) (Nat.le_refl _) (Nat.le_of_ble_eq_true rfl) dX4_readWall_1 ?_
  refine zZ_cast (S' := .int (iI (nmN (I 12) n (tokE (I 12) n p))) :: []) (σ' := zst (drI (tkI I (I 12) n ((tokE (I 12) n p))) (R)) (drJ J (R)) q) (by rw [d01, d02, d03, d06]) rfl (by rw [d01, d02, d03]; rfl) ?_
  refine z_topI C (fun v ev => ?_)
  have ev : v = nmN (I 12) n (tokE (I 12) n p) := ev
  have hvr := nm_ok (p := (tokE (I 12) n p)) hn hT
  rw [← ev] at hvr
  refine z_istore_n C [(1, .int (iI v)), (0, .ref 11)] dX4_readWall_4 rfl (by decide) rfl ?_
  refine z_aload_n C 1 rfl dX4_readWall_5 rfl ?_
  refine y_getR C zCl4 2 flX4_22 rfl rfl rfl dX4_readWall_6 ?_
  refine z_iload_n C 0 rfl dX4_readWall_9 rfl ?_
  refine y_callV1 C oX0_mayBeWall iX0_mayBeWall eX0_mayBeWall lkX4_91 (c_X0_mayBeWall isH_13 (dr_g hRR) (dr_s hRR) (by first | assumption | omega)) rfl (by decide) rfl rfl (by decide) (Nat.le_refl _) (Nat.le_refl _) (Nat.le_of_ble_eq_true rfl) dX4_readWall_10 ?_
  refine y_if_neB C 18 dX4_readWall_13 (by decide) (fun h13 => ?_) (fun h13 => ?_)
  · have hvc : 0 ≤ v ∧ v ≤ 66 := by have h13 : mwR R v = true := h13; simp only [mwR, Bool.and_eq_true] at h13; exact isCellN_r r1.2 h13.1
    refine z_aload_n C 1 rfl dX4_readWall_18 rfl ?_
    refine y_getR C zCl4 2 flX4_22 rfl rfl rfl dX4_readWall_19 ?_
    refine z_iload_n C 0 rfl dX4_readWall_22 rfl ?_
    refine z_iconst C dX4_readWall_23 ?_
    refine z_top C (bI true) (rfl) ?_
    refine y_callV2 C oX0_setWall iX0_setWall eX0_setWall lkX4_95 (c_X0_setWall isH_13 (by first | assumption | omega)) rfl (by decide) rfl rfl (by decide) (Nat.le_refl _) (Nat.le_refl _) (Nat.le_of_ble_eq_true rfl) dX4_readWall_24 ?_
    refine z_iconst C dX4_readWall_27 ?_
    exact zZ_zret C hR (Nat.le_refl _) (Nat.le_refl _) dX4_readWall_28 rfl (Or.inr rfl) (zIs_I (by unfold stWall; rw [← ev, if_pos (show mwR R v = true from h13)] <;> rfl) (by unfold stWall; rw [← ev, if_pos (show mwR R v = true from h13)]; rw [if_pos rfl, drJ_5, drJ_w]; rfl))
  · refine z_iconst C dX4_readWall_16 ?_
    exact zZ_zret C hR (Nat.le_refl _) (Nat.le_refl _) dX4_readWall_17 rfl (Or.inl rfl) (zIs_I (by unfold stWall; rw [← ev, if_neg (fun z => absurd (z.symm.trans (show mwR R v = false from h13)) (by decide))] <;> rfl) (by unfold stWall; rw [← ev, if_neg (fun z => absurd (z.symm.trans (show mwR R v = false from h13)) (by decide))]))
set_option maxHeartbeats 4000000 in
set_option maxRecDepth 100000 in
theorem c_X4_readGap {g : zG} {I : Nat → Nat → Int} {J : Nat → Nat → Int64} {q : Nat × Nat} {n p : Nat} {R : HR} (hT : gT I) (hn : I 11 1 = (n : Nat)) (hp : p ≤ n) (hRR : gHR R) : zRun g mX4_readGap 5 [.ref 11] (zst (drI (tkI I (I 12) n (p)) (R)) (drJ J (R)) q) (some (.int (iI (bI (stGap (I 12) n (tokE (I 12) n p) R).1)))) (zst (drI (tkI I (I 12) n ((stGap (I 12) n (tokE (I 12) n p) R).2.1)) ((stGap (I 12) n (tokE (I 12) n p) R).2.2)) (drJ J ((stGap (I 12) n (tokE (I 12) n p) R).2.2)) q) := by
  have hf : ∀ k, k < n → 0 ≤ I 12 k := fun k hk => (hT.2 k (by have := hT.1; omega)).1
  obtain ⟨d01, d02, d03, d04, d05, d06⟩ := dr_nx (R := R) hn hT (show p ≤ n by omega)
  have hle0 := tokE_n hn hT (show p ≤ n by omega)
  obtain ⟨⟨r1, r2, r3, r4, r5, r6⟩, r7, r8, r9⟩ := id hRR
  refine zRuns_intro rfl (Nat.le_of_ble_eq_true rfl) (fun X C hR => ?_)
  show zZ g X 0 0 _ 0 [(0, .ref 11)] []
  refine z_aload_n C 0 rfl dX4_readGap_0 rfl ?_
  refine y_callV0 C oX4_nextNumber iX4_nextNumber eX4_nextNumber lkX4_85 (c_X4_nextNumber d04 d05) rfl (by decide) rfl rfl (by decide) (Nat.le_refl _) (Nat.le_refl _) (Nat.le_of_ble_eq_true rfl) dX4_readGap_1 ?_
  refine zZ_cast (S' := .int (iI (nmN (I 12) n (tokE (I 12) n p))) :: []) (σ' := zst (drI (tkI I (I 12) n ((tokE (I 12) n p))) (R)) (drJ J (R)) q) (by rw [d01, d02, d03, d06]) rfl (by rw [d01, d02, d03]; rfl) ?_
  refine z_topI C (fun v ev => ?_)
  have ev : v = nmN (I 12) n (tokE (I 12) n p) := ev
  have hvr := nm_ok (p := (tokE (I 12) n p)) hn hT
  rw [← ev] at hvr
  refine z_istore_n C [(1, .int (iI v)), (0, .ref 11)] dX4_readGap_4 rfl (by decide) rfl ?_
  refine z_aload_n C 1 rfl dX4_readGap_5 rfl ?_
  refine y_getR C zCl4 2 flX4_22 rfl rfl rfl dX4_readGap_6 ?_
  refine z_iload_n C 0 rfl dX4_readGap_9 rfl ?_
  refine y_callV1 C oX0_isCell iX0_isCell eX0_isCell lkX4_99 (c_X0_isCell isH_13 (dr_g hRR) (by first | assumption | omega)) rfl (by decide) rfl rfl (by decide) (Nat.le_refl _) (Nat.le_refl _) (Nat.le_of_ble_eq_true rfl) dX4_readGap_10 ?_
  refine y_if_neB C 18 dX4_readGap_13 (by decide) (fun h13 => ?_) (fun h13 => ?_)
  · have hvc : 0 ≤ v ∧ v ≤ 66 := isCellN_r r1.2 (show isCellN (R.1 0) v = true from h13)
    refine z_aload_n C 1 rfl dX4_readGap_18 rfl ?_
    refine y_getR C zCl4 2 flX4_22 rfl rfl rfl dX4_readGap_19 ?_
    refine z_iload_n C 0 rfl dX4_readGap_22 rfl ?_
    refine z_iconst C dX4_readGap_23 ?_
    refine z_top C (bI false) (rfl) ?_
    refine y_callV2 C oX0_setWall iX0_setWall eX0_setWall lkX4_95 (c_X0_setWall isH_13 (by first | assumption | omega)) rfl (by decide) rfl rfl (by decide) (Nat.le_refl _) (Nat.le_refl _) (Nat.le_of_ble_eq_true rfl) dX4_readGap_24 ?_
    refine z_iconst C dX4_readGap_27 ?_
    exact zZ_zret C hR (Nat.le_refl _) (Nat.le_refl _) dX4_readGap_28 rfl (Or.inr rfl) (zIs_I (by unfold stGap; rw [← ev, if_pos (show isCellN (R.1 0) v = true from h13)] <;> rfl) (by unfold stGap; rw [← ev, if_pos (show isCellN (R.1 0) v = true from h13)]; rw [if_neg (by decide), drJ_5, drJ_w]; rfl))
  · refine z_iconst C dX4_readGap_16 ?_
    exact zZ_zret C hR (Nat.le_refl _) (Nat.le_refl _) dX4_readGap_17 rfl (Or.inl rfl) (zIs_I (by unfold stGap; rw [← ev, if_neg (fun z => absurd (z.symm.trans (show isCellN (R.1 0) v = false from h13)) (by decide))] <;> rfl) (by unfold stGap; rw [← ev, if_neg (fun z => absurd (z.symm.trans (show isCellN (R.1 0) v = false from h13)) (by decide))]))
set_option maxHeartbeats 4000000 in
set_option maxRecDepth 100000 in
theorem c_X4_readPen {g : zG} {I : Nat → Nat → Int} {J : Nat → Nat → Int64} {q : Nat × Nat} {n p : Nat} {R : HR} (hT : gT I) (hn : I 11 1 = (n : Nat)) (hp : p ≤ n) (hRR : gHR R) : zRun g mX4_readPen 5 [.ref 11] (zst (drI (tkI I (I 12) n (p)) (R)) (drJ J (R)) q) (some (.int (iI (bI (stPen (I 12) n (tokE (I 12) n p) R).1)))) (zst (drI (tkI I (I 12) n ((stPen (I 12) n (tokE (I 12) n p) R).2.1)) ((stPen (I 12) n (tokE (I 12) n p) R).2.2)) (drJ J ((stPen (I 12) n (tokE (I 12) n p) R).2.2)) q) := by
  have hf : ∀ k, k < n → 0 ≤ I 12 k := fun k hk => (hT.2 k (by have := hT.1; omega)).1
  obtain ⟨d01, d02, d03, d04, d05, d06⟩ := dr_nx (R := R) hn hT (show p ≤ n by omega)
  have hle0 := tokE_n hn hT (show p ≤ n by omega)
  obtain ⟨⟨r1, r2, r3, r4, r5, r6⟩, r7, r8, r9⟩ := id hRR
  refine zRuns_intro rfl (Nat.le_of_ble_eq_true rfl) (fun X C hR => ?_)
  show zZ g X 0 0 _ 0 [(0, .ref 11)] []
  refine z_aload_n C 0 rfl dX4_readPen_0 rfl ?_
  refine y_callV0 C oX4_nextNumber iX4_nextNumber eX4_nextNumber lkX4_85 (c_X4_nextNumber d04 d05) rfl (by decide) rfl rfl (by decide) (Nat.le_refl _) (Nat.le_refl _) (Nat.le_of_ble_eq_true rfl) dX4_readPen_1 ?_
  refine zZ_cast (S' := .int (iI (nmN (I 12) n (tokE (I 12) n p))) :: []) (σ' := zst (drI (tkI I (I 12) n ((tokE (I 12) n p))) (R)) (drJ J (R)) q) (by rw [d01, d02, d03, d06]) rfl (by rw [d01, d02, d03]; rfl) ?_
  refine z_topI C (fun v ev => ?_)
  have ev : v = nmN (I 12) n (tokE (I 12) n p) := ev
  have hvr := nm_ok (p := (tokE (I 12) n p)) hn hT
  rw [← ev] at hvr
  refine z_istore_n C [(1, .int (iI v)), (0, .ref 11)] dX4_readPen_4 rfl (by decide) rfl ?_
  refine z_aload_n C 1 rfl dX4_readPen_5 rfl ?_
  refine y_getR C zCl4 2 flX4_22 rfl rfl rfl dX4_readPen_6 ?_
  refine z_iload_n C 0 rfl dX4_readPen_9 rfl ?_
  refine y_callV1 C oX0_mayBePen iX0_mayBePen eX0_mayBePen lkX4_102 (c_X0_mayBePen isH_13 (dr_g hRR) (dr_s hRR) (by first | assumption | omega)) rfl (by decide) rfl rfl (by decide) (Nat.le_refl _) (Nat.le_refl _) (Nat.le_of_ble_eq_true rfl) dX4_readPen_10 ?_
  refine y_if_neB C 18 dX4_readPen_13 (by decide) (fun h13 => ?_) (fun h13 => ?_)
  · have hm13 : mpR R v = true := by rw [drJ_5] at h13; exact h13
    refine z_aload_n C 1 rfl dX4_readPen_18 rfl ?_
    refine y_getR C zCl4 2 flX4_22 rfl rfl rfl dX4_readPen_19 ?_
    refine z_iload_n C 0 rfl dX4_readPen_22 rfl ?_
    refine y_putI C zCl0 1 flX4_105 rfl rfl rfl rfl dX4_readPen_23 ?_
    refine z_iconst C dX4_readPen_26 ?_
    exact zZ_zret C hR (Nat.le_refl _) (Nat.le_refl _) dX4_readPen_27 rfl (Or.inr rfl) (zIs_I (by unfold stPen; rw [← ev, if_pos (show mpR R v = true from hm13)] <;> rfl) (by unfold stPen; rw [← ev, if_pos (show mpR R v = true from hm13)]; rw [dr_set]; rfl))
  · have hm13 : mpR R v = false := by rw [drJ_5] at h13; exact h13
    refine z_iconst C dX4_readPen_16 ?_
    exact zZ_zret C hR (Nat.le_refl _) (Nat.le_refl _) dX4_readPen_17 rfl (Or.inl rfl) (zIs_I (by unfold stPen; rw [← ev, if_neg (fun z => absurd (z.symm.trans (show mpR R v = false from hm13)) (by decide))] <;> rfl) (by unfold stPen; rw [← ev, if_neg (fun z => absurd (z.symm.trans (show mpR R v = false from hm13)) (by decide))]))
set_option maxHeartbeats 4000000 in
set_option maxRecDepth 100000 in
theorem c_X4_readDog {g : zG} {I : Nat → Nat → Int} {J : Nat → Nat → Int64} {q : Nat × Nat} {n p : Nat} {R : HR} (hT : gT I) (hn : I 11 1 = (n : Nat)) (hp : p ≤ n) (hRR : gHR R) : zRun g mX4_readDog 5 [.ref 11] (zst (drI (tkI I (I 12) n (p)) (R)) (drJ J (R)) q) (some (.int (iI (bI (stDog (I 12) n (tokE (I 12) n p) R).1)))) (zst (drI (tkI I (I 12) n ((stDog (I 12) n (tokE (I 12) n p) R).2.1)) ((stDog (I 12) n (tokE (I 12) n p) R).2.2)) (drJ J ((stDog (I 12) n (tokE (I 12) n p) R).2.2)) q) := by
  have hf : ∀ k, k < n → 0 ≤ I 12 k := fun k hk => (hT.2 k (by have := hT.1; omega)).1
  obtain ⟨d01, d02, d03, d04, d05, d06⟩ := dr_nx (R := R) hn hT (show p ≤ n by omega)
  have hle0 := tokE_n hn hT (show p ≤ n by omega)
  obtain ⟨⟨r1, r2, r3, r4, r5, r6⟩, r7, r8, r9⟩ := id hRR
  refine zRuns_intro rfl (Nat.le_of_ble_eq_true rfl) (fun X C hR => ?_)
  show zZ g X 0 0 _ 0 [(0, .ref 11)] []
  refine z_aload_n C 0 rfl dX4_readDog_0 rfl ?_
  refine y_callV0 C oX4_nextNumber iX4_nextNumber eX4_nextNumber lkX4_85 (c_X4_nextNumber d04 d05) rfl (by decide) rfl rfl (by decide) (Nat.le_refl _) (Nat.le_refl _) (Nat.le_of_ble_eq_true rfl) dX4_readDog_1 ?_
  refine zZ_cast (S' := .int (iI (nmN (I 12) n (tokE (I 12) n p))) :: []) (σ' := zst (drI (tkI I (I 12) n ((tokE (I 12) n p))) (R)) (drJ J (R)) q) (by rw [d01, d02, d03, d06]) rfl (by rw [d01, d02, d03]; rfl) ?_
  refine z_topI C (fun v ev => ?_)
  have ev : v = nmN (I 12) n (tokE (I 12) n p) := ev
  have hvr := nm_ok (p := (tokE (I 12) n p)) hn hT
  rw [← ev] at hvr
  refine z_istore_n C [(1, .int (iI v)), (0, .ref 11)] dX4_readDog_4 rfl (by decide) rfl ?_
  refine z_aload_n C 1 rfl dX4_readDog_5 rfl ?_
  refine y_getR C zCl4 2 flX4_22 rfl rfl rfl dX4_readDog_6 ?_
  refine z_iload_n C 0 rfl dX4_readDog_9 rfl ?_
  refine y_callV1 C oX0_mayBeDogs iX0_mayBeDogs eX0_mayBeDogs lkX4_107 (c_X0_mayBeDogs isH_13 (dr_g hRR) (by first | assumption | omega)) rfl (by decide) rfl rfl (by decide) (Nat.le_refl _) (Nat.le_refl _) (Nat.le_of_ble_eq_true rfl) dX4_readDog_10 ?_
  refine y_if_neB C 18 dX4_readDog_13 (by decide) (fun h13 => ?_) (fun h13 => ?_)
  · have hm13 : dogsN (R.1 0) R.2.1 (R.1 1) v = true := by rw [drJ_5] at h13; exact h13
    refine z_aload_n C 1 rfl dX4_readDog_18 rfl ?_
    refine y_getR C zCl4 2 flX4_22 rfl rfl rfl dX4_readDog_19 ?_
    refine y_getR C zCl0 9 flX4_110 rfl rfl rfl dX4_readDog_22 ?_
    refine z_iload_n C 0 rfl dX4_readDog_25 rfl ?_
    refine y_putI C zCl3 0 flX4_114 rfl rfl rfl rfl dX4_readDog_26 ?_
    refine z_iconst C dX4_readDog_29 ?_
    exact zZ_zret C hR (Nat.le_refl _) (Nat.le_refl _) dX4_readDog_30 rfl (Or.inr rfl) (zIs_I (by unfold stDog; rw [← ev, if_pos hm13] <;> rfl) (by unfold stDog; rw [← ev, if_pos hm13]; rw [dr_dog]; rfl))
  · have hm13 : dogsN (R.1 0) R.2.1 (R.1 1) v = false := by rw [drJ_5] at h13; exact h13
    refine z_iconst C dX4_readDog_16 ?_
    exact zZ_zret C hR (Nat.le_refl _) (Nat.le_refl _) dX4_readDog_17 rfl (Or.inl rfl) (zIs_I (by unfold stDog; rw [← ev, if_neg (fun z => absurd (z.symm.trans hm13) (by decide))] <;> rfl) (by unfold stDog; rw [← ev, if_neg (fun z => absurd (z.symm.trans hm13) (by decide))]))
