set_option maxHeartbeats 4000000 in
set_option maxRecDepth 100000 in
theorem c_X5_isUnder {g : zG} {I : Nat → Nat → Int} {J : Nat → Nat → Int64} {q : Nat × Nat} {kd up : Int} (hk : 0 ≤ kd ∧ kd ≤ 5) (hu : 0 ≤ up ∧ up ≤ 5) : zRun g mX5_isUnder 1 [.int (iI kd), .int (iI up)] (zst I J q) (some (.int (iI (bI (underN kd up))))) (zst I J q) := by
  refine zRuns_intro rfl (Nat.le_of_ble_eq_true rfl) (fun X C hR => ?_)
  show zZ g X 0 0 _ 0 [(0, .int (iI kd)), (1, .int (iI up))] []
  refine z_iload_n C 0 rfl dX5_isUnder_0 rfl ?_
  refine z_istore_n C [(2, .int (iI kd)), (0, .int (iI kd)), (1, .int (iI up))] dX5_isUnder_1 rfl (by decide) rfl ?_
  refine z_iconst C dX5_isUnder_2 ?_
  refine z_istore_n C [(3, .int (iI 0)), (2, .int (iI kd)), (0, .int (iI kd)), (1, .int (iI up))] dX5_isUnder_3 rfl (by decide) rfl ?_
  refine zZ_sub [2, 3, 1, 0] rfl ?_
  refine zZ_cast (σ' := (fun _ : Nat => zst I J q) 0) (L' := (fun e : Nat => [(0, .int (iI kd)), (1, .int (iI up)), (2, .int (iI (ancN kd e))), (3, .int (iI (e : Int)))]) 0) rfl rfl rfl ?_
  refine zfor (6) (fun e => ∀ j, j < e → ¬ ancN kd j = up) (fun _ : Nat => zst I J q) (fun e : Nat => [(0, .int (iI kd)), (1, .int (iI up)), (2, .int (iI (ancN kd e))), (3, .int (iI (e : Int)))]) (fun j hj => by omega) ?_ ?_
  · intro e hee hpe kke
    have har := ancN_r hk e
    refine z_iload_n C 3 rfl dX5_isUnder_4 rfl ?_
    refine z_bipush C dX5_isUnder_5 (by decide) ?_
    refine z_icmp_ge C 36 dX5_isUnder_7 (by decide) (by omega) (by omega) (fun h7 => ?_) (fun h7 => ?_)
    · omega
    · refine z_iload_n C 2 rfl dX5_isUnder_10 rfl ?_
      refine y_callS1 C oX5_isKind sX5_isKind lkX5_106 (c_X5_isKind (by first | assumption | omega)) (by decide) (Nat.le_refl _) (Nat.le_refl _) (Nat.le_of_ble_eq_true rfl) dX5_isUnder_11 ?_
      refine y_if_eqB C 36 dX5_isUnder_14 (by decide) (fun h14 => ?_) (fun h14 => ?_)
      · refine z_iconst C dX5_isUnder_36 ?_
        exact zZ_zret C hR (Nat.le_refl _) (Nat.le_refl _) dX5_isUnder_37 rfl (Or.inl rfl) (zIs_I (by rw [under_f hk hu (e := e) (by omega) (by have z : ¬ (0 ≤ ancN kd e ∧ ancN kd e < 6) := (by simpa using h14); omega) hpe]; rfl) rfl)
      · refine z_iload_n C 2 rfl dX5_isUnder_17 rfl ?_
        refine z_iload_n C 1 rfl dX5_isUnder_18 rfl ?_
        refine z_icmp_ne C 24 dX5_isUnder_19 (by decide) (by omega) (by omega) (fun h19 => ?_) (fun h19 => ?_)
        · refine z_gets C (k := 1) rfl flX5_354 dX5_isUnder_24 ?_
          refine z_iload_n C 2 rfl dX5_isUnder_27 rfl ?_
          refine z_ialdS C (k := 1) rfl (ancN kd e).toNat (by have z : 0 ≤ ancN kd e ∧ ancN kd e < 6 := (by simpa using h14); omega) (show _ < 6 by omega) (by decide) dX5_isUnder_28 ?_
          refine z_topI C (fun an ean => ?_)
          refine z_istore_n C [(2, .int (iI an)), (0, .int (iI kd)), (1, .int (iI up)), (3, .int (iI ((e : Int))))] dX5_isUnder_29 rfl (by decide) rfl ?_
          obtain ⟨v1, ev1⟩ : ∃ y : Int, y = (e : Int) + 1 := ⟨_, rfl⟩
          refine z_iinc C 3 v1 [(3, .int (iI v1)), (2, .int (iI an)), (0, .int (iI kd)), (1, .int (iI up))] dX5_isUnder_30 rfl ev1.symm (by decide) rfl ?_
          refine z_goto C 4 dX5_isUnder_33 (by decide) ?_
          refine zZ_sub [2, 3, 1, 0] rfl ?_
          refine zZ_cast rfl (zLk (zLk (zLc ean (zLc (by omega) rfl)))) rfl (kke (fun j hj => (Nat.lt_or_eq_of_le (Nat.le_of_lt_succ hj)).elim (hpe j) (fun z => z ▸ h19)))
        · refine z_iconst C dX5_isUnder_22 ?_
          exact zZ_zret C hR (Nat.le_refl _) (Nat.le_refl _) dX5_isUnder_23 rfl (Or.inr rfl) (zIs_I (by rw [under_t hk hu (e := e) (by omega) h19]; rfl) rfl)
  · intro hpe
    refine z_iload_n C 3 rfl dX5_isUnder_4 rfl ?_
    refine z_bipush C dX5_isUnder_5 (by decide) ?_
    refine z_icmp_ge C 36 dX5_isUnder_7 (by decide) (by omega) (by omega) (fun h7 => ?_) (fun h7 => ?_)
    · refine z_iconst C dX5_isUnder_36 ?_
      exact zZ_zret C hR (Nat.le_refl _) (Nat.le_refl _) dX5_isUnder_37 rfl (Or.inl rfl) (zIs_I (by rw [under_f hk hu (e := 6) (by omega) (under_6 hk) hpe]; rfl) rfl)
    · omega
set_option maxHeartbeats 4000000 in
set_option maxRecDepth 100000 in
theorem c_X5_areCells {g : zG} {I : Nat → Nat → Int} {J : Nat → Nat → Int64} {q : Nat × Nat} {s : Nat} {n : Int} (iss : isL s) (hg : gH I 1) (hn : 0 ≤ n ∧ n ≤ 40) : zRun g mX5_areCells 1 [.ref 0, .ref s, .int (iI n)] (zst I J q) (some (.int (iI (bI (decide (firstN (fun k => !cellsOk (I 1 0) (J (s + 1)) k) n.toNat = none)))))) (zst I J q) := by
  obtain ⟨m, hm, hm2⟩ : ∃ m : Nat, n = m ∧ n.toNat = m := ⟨n.toNat, by omega, rfl⟩
  rw [hm2]
  refine zRuns_intro rfl (Nat.le_of_ble_eq_true rfl) (fun X C hR => ?_)
  show zZ g X 0 0 _ 0 [(0, .ref 0), (1, .ref s), (2, .int (iI n))] []
  refine z_iconst C dX5_areCells_0 ?_
  refine z_istore_n C [(3, .int (iI 0)), (0, .ref 0), (1, .ref s), (2, .int (iI n))] dX5_areCells_1 rfl (by decide) rfl ?_
  refine zZ_sub [1, 2, 3, 0] rfl ?_
  refine zZ_cast (σ' := (fun _ : Nat => zst I J q) 0) (L' := (fun e : Nat => [(0, .ref 0), (1, .ref s), (2, .int (iI n)), (3, .int (iI (e : Int)))]) 0) rfl rfl rfl ?_
  refine zfor (m) (fun e => firstN (fun k => !cellsOk (I 1 0) (J (s + 1)) k) e = none) (fun _ : Nat => zst I J q) (fun e : Nat => [(0, .ref 0), (1, .ref s), (2, .int (iI n)), (3, .int (iI (e : Int)))]) rfl ?_ ?_
  · intro e hee hpe kke
    refine z_iload_n C 3 rfl dX5_areCells_2 rfl ?_
    refine z_iload_n C 2 rfl dX5_areCells_3 rfl ?_
    refine z_icmp_ge C 52 dX5_areCells_4 (by decide) (by omega) (by omega) (fun h4 => ?_) (fun h4 => ?_)
    · omega
    · refine z_aload_n C 1 rfl dX5_areCells_7 rfl ?_
      refine y_getR C zCl2 2 flX5_75 rfl (lay_l iss) (rt_l iss) dX5_areCells_8 ?_
      refine z_iload_n C 3 rfl dX5_areCells_11 rfl ?_
      refine y_lald C e (by omega) (lay_l1 iss) (by omega) (by decide) dX5_areCells_12 ?_
      refine z_topL C (fun cm ecm => ?_)
      refine z_lstore C [(4, .long cm), (0, .ref 0), (1, .ref s), (2, .int (iI n)), (3, .int (iI ((e : Int))))] dX5_areCells_13 (by decide) rfl ?_
      refine z_lload C 0 rfl dX5_areCells_15 ?_
      refine z_lconst C 0 dX5_areCells_17 rfl ?_
      refine z_lcmp_lt C 44 dX5_areCells_18 dX5_areCells_19 (by decide) (fun h18 => ?_) (fun h18 => ?_)
      · refine z_iconst C dX5_areCells_44 ?_
        exact zZ_zret C hR (Nat.le_refl _) (Nat.le_refl _) dX5_areCells_45 rfl (Or.inl rfl) (zIs_I (by rw [firstN_some hee hpe (by simp only [cellsOk]; rw [← ecm, decide_eq_false (show ¬ (0 ≤ cm.toInt ∧ cm.toInt < 67) by simp only [i64lt, i64le] at *; have z : cm.toInt < 0 := (by simpa using h18); omega)]; simp)]; rfl) rfl)
      · refine z_lload C 0 rfl dX5_areCells_22 ?_
        refine z_ldc2 C 67 dX5_areCells_24 kcX5_349 ?_
        refine z_lcmp_ge C 44 dX5_areCells_27 dX5_areCells_28 (by decide) (fun h27 => ?_) (fun h27 => ?_)
        · refine z_iconst C dX5_areCells_44 ?_
          exact zZ_zret C hR (Nat.le_refl _) (Nat.le_refl _) dX5_areCells_45 rfl (Or.inl rfl) (zIs_I (by rw [firstN_some hee hpe (by simp only [cellsOk]; rw [← ecm, decide_eq_false (show ¬ (0 ≤ cm.toInt ∧ cm.toInt < 67) by simp only [i64lt, i64le] at *; have z : 67 ≤ cm.toInt := (by simpa using h27); omega)]; simp)]; rfl) rfl)
        · have hcm : 0 ≤ cm.toInt ∧ cm.toInt < 67 := by
            simp only [i64lt, i64le, show (0 : Int64).toInt = 0 from rfl, show (67 : Int64).toInt = 67 from rfl] at h18 h27
            omega
          refine z_aload_n C 1 rfl dX5_areCells_31 rfl ?_
          refine y_getR C zCl5 0 flX5_10 rfl rfl rfl dX5_areCells_32 ?_
          refine z_lload C 0 rfl dX5_areCells_35 ?_
          refine z_l2i C cm.toInt dX5_areCells_37 (l2i_eq _) ?_
          refine y_callV1 C oX0_isCell iX0_isCell eX0_isCell lkX5_128 (c_X0_isCell isH_1 hg (by first | assumption | omega)) rfl (by decide) rfl rfl (by decide) (Nat.le_refl _) (Nat.le_refl _) (Nat.le_of_ble_eq_true rfl) dX5_areCells_38 ?_
          refine y_if_neB C 46 dX5_areCells_41 (by decide) (fun h41 => ?_) (fun h41 => ?_)
          · obtain ⟨v1, ev1⟩ : ∃ y : Int, y = (e : Int) + 1 := ⟨_, rfl⟩
            refine z_iinc C 4 v1 [(3, .int (iI v1)), (4, .long cm), (0, .ref 0), (1, .ref s), (2, .int (iI n))] dX5_areCells_46 rfl ev1.symm (by decide) rfl ?_
            refine z_goto C 2 dX5_areCells_49 (by decide) ?_
            refine zZ_sub [2, 3, 4, 0] rfl ?_
            refine zZ_cast rfl (zLk (zLk (zLk (zLc (by omega) rfl)))) rfl (kke (by simp only [firstN, hpe]; rw [if_neg]; simp only [cellsOk]; rw [← ecm, h41, decide_eq_true hcm]; decide))
          · refine z_iconst C dX5_areCells_44 ?_
            exact zZ_zret C hR (Nat.le_refl _) (Nat.le_refl _) dX5_areCells_45 rfl (Or.inl rfl) (zIs_I (by rw [firstN_some hee hpe (by simp only [cellsOk]; rw [← ecm, h41]; simp)]; rfl) rfl)
  · intro hpe
    refine z_iload_n C 3 rfl dX5_areCells_2 rfl ?_
    refine z_iload_n C 2 rfl dX5_areCells_3 rfl ?_
    refine z_icmp_ge C 52 dX5_areCells_4 (by decide) (by omega) (by omega) (fun h4 => ?_) (fun h4 => ?_)
    · refine z_iconst C dX5_areCells_52 ?_
      exact zZ_zret C hR (Nat.le_refl _) (Nat.le_refl _) dX5_areCells_53 rfl (Or.inr rfl) (zIs_I (by rw [hpe]; rfl) rfl)
    · omega
set_option maxHeartbeats 4000000 in
set_option maxRecDepth 100000 in
theorem c_X1_tryCommand {g : zG} {I : Nat → Nat → Int} {J : Nat → Nat → Int64} {q : Nat × Nat} {dd : Nat} {c : Int} (hdd : dd < 6) (hg : gH I 1) (hs : gS I (40 + 2 * dd)) (hc : 0 ≤ c ∧ c ≤ 4) : zRun g mX1_tryCommand 6 [.ref 38, .ref 1, .int (iI ((dd : Int))), .int (iI c)] (zst I J q) (some (.int (iI (bI (canN (I 1 0) (J 1 5) (I 1 1) (I (40 + 2 * dd) 0) c))))) (zst (if canN (I 1 0) (J 1 5) (I 1 1) (I (40 + 2 * dd) 0) c = true then tryI I J dd c else I) J q) := by
  obtain ⟨k1, k2, k3⟩ := id hs
  have s1 : isS (40 + 2 * dd) := isS_of (by omega)
  have s2 : isS (40 + 2 * (dd + 1)) := isS_of (by omega)
  refine zRuns_intro rfl (Nat.le_of_ble_eq_true rfl) (fun X C hR => ?_)
  show zZ g X 0 0 _ 0 [(0, .ref 38), (1, .ref 1), (2, .int (iI ((dd : Int)))), (3, .int (iI c))] []
  refine z_aload_n C 1 rfl dX1_tryCommand_0 rfl ?_
  refine z_aload_n C 0 rfl dX1_tryCommand_1 rfl ?_
  refine y_getR C zCl1 0 flX1_11 rfl rfl rfl dX1_tryCommand_2 ?_
  refine z_iload_n C 2 rfl dX1_tryCommand_5 rfl ?_
  refine y_aald C dd 11 (by decide) (by omega) rfl (by omega) (by decide) (rt_39 (by omega)) dX1_tryCommand_6 ?_
  refine y_getI C zCl3 0 flX1_35 rfl (lay_s (isS_of (by omega))) dX1_tryCommand_7 ?_
  refine z_iload_n C 3 rfl dX1_tryCommand_10 rfl ?_
  refine y_callV2 C oX0_canDo iX0_canDo eX0_canDo lkX1_38 (c_X0_canDo isH_1 hg (by first | assumption | omega) (by first | assumption | omega)) rfl (by decide) rfl rfl (by decide) (Nat.le_refl _) (Nat.le_refl _) (Nat.le_of_ble_eq_true rfl) dX1_tryCommand_11 ?_
  refine y_if_neB C 19 dX1_tryCommand_14 (by decide) (fun h14 => ?_) (fun h14 => ?_)
  · refine z_aload_n C 0 rfl dX1_tryCommand_19 rfl ?_
    refine y_getR C zCl1 1 flX1_18 rfl rfl rfl dX1_tryCommand_20 ?_
    refine z_iload_n C 2 rfl dX1_tryCommand_23 rfl ?_
    refine z_iload_n C 3 rfl dX1_tryCommand_24 rfl ?_
    refine y_iast C dd (by omega) rfl (by omega) (by decide) dX1_tryCommand_25 ?_
    refine z_aload_n C 0 rfl dX1_tryCommand_26 rfl ?_
    refine y_getR C zCl1 0 flX1_11 rfl rfl rfl dX1_tryCommand_27 ?_
    refine z_iload_n C 2 rfl dX1_tryCommand_30 rfl ?_
    refine z_iconst C dX1_tryCommand_31 ?_
    refine z_iadd C dX1_tryCommand_32 ?_
    refine y_aald C (dd + 1) 11 (by decide) (by omega) rfl (by omega) (by decide) (rt_39 (by omega)) dX1_tryCommand_33 ?_
    refine z_aload_n C 0 rfl dX1_tryCommand_34 rfl ?_
    refine y_getR C zCl1 0 flX1_11 rfl rfl rfl dX1_tryCommand_35 ?_
    refine z_iload_n C 2 rfl dX1_tryCommand_38 rfl ?_
    refine y_aald C dd 11 (by decide) (by omega) rfl (by omega) (by decide) (rt_39 (by omega)) dX1_tryCommand_39 ?_
    refine y_callV1 C oX3_setTo iX3_setTo eX3_setTo lkX1_44 (c_X3_setTo (isS_of (by omega)) (isS_of (by omega))) (lay_s (isS_of (by omega))) (by decide) rfl rfl (by decide) (Nat.le_refl _) (Nat.le_refl _) (Nat.le_of_ble_eq_true rfl) dX1_tryCommand_40 ?_
    rw [show zSp (zu I 54 dd c) (40 + 2 * (dd + 1)) (zu I 54 dd c (40 + 2 * dd) 0) (zu I 54 dd c (40 + 2 * dd) 1) (zu I 54 dd c (40 + 2 * dd + 1)) = zSq (zu I 54 dd c) (40 + 2 * (dd + 1)) (spOf I (40 + 2 * dd)) by rw [zu54_s s1, zu54_s1 s1]; rfl]
    refine z_aload_n C 1 rfl dX1_tryCommand_43 rfl ?_
    refine z_aload_n C 0 rfl dX1_tryCommand_44 rfl ?_
    refine y_getR C zCl1 0 flX1_11 rfl rfl rfl dX1_tryCommand_45 ?_
    refine z_iload_n C 2 rfl dX1_tryCommand_48 rfl ?_
    refine z_iconst C dX1_tryCommand_49 ?_
    refine z_iadd C dX1_tryCommand_50 ?_
    refine y_aald C (dd + 1) 11 (by decide) (by omega) rfl (by omega) (by decide) (rt_39 (by omega)) dX1_tryCommand_51 ?_
    refine z_iload_n C 3 rfl dX1_tryCommand_52 rfl ?_
    refine y_callV2 C oX0_takeTurn iX0_takeTurn eX0_takeTurn lkX1_48 (c_X0_takeTurn isH_1 (isS_of (by omega)) (gH_sp isH_1 s2 (gH_cong (I := I) (zu_ne (by decide)) (zu_ne (by decide)) (zu_ne (by decide)) hg)) (gS_of (gP_of hs)) (by first | assumption | omega)) rfl (by decide) rfl rfl (by decide) (Nat.le_refl _) (Nat.le_refl _) (Nat.le_of_ble_eq_true rfl) dX1_tryCommand_53 ?_
    refine z_iconst C dX1_tryCommand_56 ?_
    exact zZ_zret C hR (Nat.le_refl _) (Nat.le_refl _) dX1_tryCommand_57 rfl (Or.inr rfl) (zIs_I (by rw [h14]; rfl) (by rw [h14, if_pos rfl]; refine congrArg (fun I' => zst I' J q) ?_; show zSp (zSq _ _ _) _ _ _ _ = _; simp only [zSq, hv_sp isH_1 s2, zSp_0, zSp_c, zSp_zSp]; rw [hv_cong (I := I) (zu_ne (by decide)) (zu_ne (by decide)) (zu_ne (by decide))]; rfl))
  · refine z_iconst C dX1_tryCommand_17 ?_
    exact zZ_zret C hR (Nat.le_refl _) (Nat.le_refl _) dX1_tryCommand_18 rfl (Or.inl rfl) (zIs_I (by rw [h14]; rfl) (by rw [h14]; rfl))
