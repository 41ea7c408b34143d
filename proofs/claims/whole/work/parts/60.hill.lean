set_option maxHeartbeats 4000000 in
set_option maxRecDepth 100000 in
theorem c_X5_hill {g : zG} {I : Nat → Nat → Int} {J : Nat → Nat → Int64} {q : Nat × Nat} {n : Nat} (hg : gH I 1) (hq : gS I 4) (hl : gL I) (hT : gT I) (hn : I 11 1 = (n : Nat)) : zRun g mX5_hill 8 [.ref 0] (zst I J q) (some (.int (iI ((paR (I 12) n (rd0 I J)).1)))) (if (paR (I 12) n (rd0 I J)).1 < 0 then zst (refI (zu (drI (tkI I (I 12) n (paR (I 12) n (rd0 I J)).2.1) (paR (I 12) n (rd0 I J)).2.2) 11 1 0) (-2)) (drJ J (paR (I 12) n (rd0 I J)).2.2) q else zst (zHl (zu (drI (tkI I (I 12) n (paR (I 12) n (rd0 I J)).2.1) (paR (I 12) n (rd0 I J)).2.2) 11 1 0) 1 13) (zu (drJ J (paR (I 12) n (rd0 I J)).2.2) 1 5 ((drJ J (paR (I 12) n (rd0 I J)).2.2) 13 5)) q) := by
  have hrr := paR_r (R := (rd0 I J)) hn hT (rd0_g hg hq)
  refine zRuns_intro rfl (Nat.le_of_ble_eq_true rfl) (fun X C hR => ?_)
  show zZ g X 0 0 _ 0 [(0, .ref 0)] []
  refine z_aload_n C 0 rfl dX5_hill_0 rfl ?_
  refine y_getR C zCl5 3 flX5_26 rfl rfl rfl dX5_hill_1 ?_
  refine z_aload_n C 0 rfl dX5_hill_4 rfl ?_
  refine y_getR C zCl5 0 flX5_10 rfl rfl rfl dX5_hill_5 ?_
  refine y_callV1 C oX4_readOnto iX4_readOnto eX4_readOnto lkX5_172 (c_X4_readOnto hT hn hg hq) rfl (by decide) rfl rfl (by decide) (Nat.le_refl _) (Nat.le_refl _) (Nat.le_of_ble_eq_true rfl) dX5_hill_8 ?_
  refine z_topI C (fun rd erd => ?_)
  have erd : rd = (paR (I 12) n (rd0 I J)).1 := erd
  refine z_istore_n C [(1, .int (iI rd)), (0, .ref 0)] dX5_hill_11 rfl (by decide) rfl ?_
  refine z_aload_n C 1 rfl dX5_hill_12 rfl ?_
  refine y_getR C zCl5 3 flX5_26 rfl rfl rfl dX5_hill_13 ?_
  refine z_iconst C dX5_hill_16 ?_
  refine y_putI C zCl4 1 flX5_168 rfl rfl rfl rfl dX5_hill_17 ?_
  refine z_iload_n C 0 rfl dX5_hill_20 rfl ?_
  refine z_if_ge C 33 dX5_hill_21 (by decide) (by omega) (fun h21 => ?_) (fun h21 => ?_)
  · refine z_aload_n C 1 rfl dX5_hill_33 rfl ?_
    refine y_getR C zCl5 0 flX5_10 rfl rfl rfl dX5_hill_34 ?_
    refine z_aload_n C 1 rfl dX5_hill_37 rfl ?_
    refine y_getR C zCl5 3 flX5_26 rfl rfl rfl dX5_hill_38 ?_
    refine y_getR C zCl4 2 flX5_176 rfl rfl rfl dX5_hill_41 ?_
    refine y_callV1 C oX0_setTo iX0_setTo eX0_setTo lkX5_179 (c_X0_setTo isH_1 isH_13 (by decide)) rfl (by decide) rfl rfl (by decide) (Nat.le_refl _) (Nat.le_refl _) (Nat.le_of_ble_eq_true rfl) dX5_hill_44 ?_
    refine z_iload_n C 0 rfl dX5_hill_47 rfl ?_
    exact zZ_iret C hR (Nat.le_refl _) (Nat.le_refl _) dX5_hill_48 rfl (zIs_I erd (by rw [if_neg (by omega)]))
  · refine z_aload_n C 1 rfl dX5_hill_24 rfl ?_
    refine z_bipush C dX5_hill_25 (by decide) ?_
    refine y_callV1 C oX5_refuse iX5_refuse eX5_refuse lkX5_59 (c_X5_refuse (by decide)) rfl (by decide) rfl rfl (by decide) (Nat.le_refl _) (Nat.le_refl _) (Nat.le_of_ble_eq_true rfl) dX5_hill_27 ?_
    refine z_pop C dX5_hill_30 rfl ?_
    refine z_iload_n C 0 rfl dX5_hill_31 rfl ?_
    exact zZ_iret C hR (Nat.le_refl _) (Nat.le_refl _) dX5_hill_32 rfl (zIs_I erd (by rw [if_pos (by omega)]))
