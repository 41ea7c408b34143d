set_option maxHeartbeats 4000000 in
set_option maxRecDepth 100000 in
theorem c_X5_ways {g : zG} {I : Nat → Nat → Int} {J : Nat → Nat → Int64} {q : Nat × Nat} {m : Int} (hqq : isQ q) (hg : gH I 1) (hq : gS I 4) (hl : gL I) (hm : -2147483648 ≤ m ∧ m ≤ 2147483647) : zRun g mX5_ways 6 [.ref 0, .int (iI m)] (zst I J q) (some (.int (iI (uR (fWays m) (waysN I J q m))))) (if fWays m = 0 then zst (zR2 I (swQ q m.toNat).1 (swQ q m.toNat).2 (waA (I 1 0) (J 1 5) (I 1 1) (I 4 0) (I q.1) (I q.2) m.toNat).1 (waA (I 1 0) (J 1 5) (I 1 1) (I 4 0) (I q.1) (I q.2) m.toNat).2) J (swQ q m.toNat) else zst (refI I (-2)) J q) := by
  refine zRuns_intro rfl (Nat.le_of_ble_eq_true rfl) (fun X C hR => ?_)
  show zZ g X 0 0 _ 0 [(0, .ref 0), (1, .int (iI m))] []
  refine z_iload_n C 1 rfl dX5_ways_0 rfl ?_
  refine z_if_lt C 10 dX5_ways_1 (by decide) (by omega) (fun h1 => ?_) (fun h1 => ?_)
  · refine z_aload_n C 0 rfl dX5_ways_10 rfl ?_
    refine z_bipush C dX5_ways_11 (by decide) ?_
    refine y_callV1 C oX5_refuse iX5_refuse eX5_refuse lkX5_59 (c_X5_refuse (by first | assumption | omega)) rfl (by decide) rfl rfl (by decide) (Nat.le_refl _) (Nat.le_refl _) (Nat.le_of_ble_eq_true rfl) dX5_ways_13 ?_
    exact zZ_iret C hR (Nat.le_refl _) (Nat.le_refl _) dX5_ways_16 rfl (zIs_I (uRc (show fWays m = -2 by unfold fWays; rw [if_neg (by omega)]) (by decide)).symm (by rw [if_neg (show ¬ fWays m = 0 by unfold fWays; rw [if_neg (by omega)]; decide)]))
  · refine z_iload_n C 1 rfl dX5_ways_4 rfl ?_
    refine z_bipush C dX5_ways_5 (by decide) ?_
    refine z_icmp_le C 17 dX5_ways_7 (by decide) (by omega) (by omega) (fun h7 => ?_) (fun h7 => ?_)
    · refine z_aload_n C 0 rfl dX5_ways_17 rfl ?_
      refine y_getR C zCl5 7 flX5_51 rfl rfl rfl dX5_ways_18 ?_
      refine z_aload_n C 0 rfl dX5_ways_21 rfl ?_
      refine y_getR C zCl5 0 flX5_10 rfl rfl rfl dX5_ways_22 ?_
      refine z_iload_n C 1 rfl dX5_ways_25 rfl ?_
      refine y_callV2 C oX1_countRows iX1_countRows eX1_countRows lkX5_290 (c_X1_countRows hqq hg hq (by first | assumption | omega)) rfl (by decide) rfl rfl (by decide) (Nat.le_refl _) (Nat.le_refl _) (Nat.le_of_ble_eq_true rfl) dX5_ways_26 ?_
      exact zZ_iret C hR (Nat.le_refl _) (Nat.le_refl _) dX5_ways_29 rfl (zIs_I (uR0 (show fWays m = 0 by unfold fWays; rw [if_pos (by omega)])).symm (by rw [if_pos (show fWays m = 0 by unfold fWays; rw [if_pos (by omega)])]))
    · refine z_aload_n C 0 rfl dX5_ways_10 rfl ?_
      refine z_bipush C dX5_ways_11 (by decide) ?_
      refine y_callV1 C oX5_refuse iX5_refuse eX5_refuse lkX5_59 (c_X5_refuse (by first | assumption | omega)) rfl (by decide) rfl rfl (by decide) (Nat.le_refl _) (Nat.le_refl _) (Nat.le_of_ble_eq_true rfl) dX5_ways_13 ?_
      exact zZ_iret C hR (Nat.le_refl _) (Nat.le_refl _) dX5_ways_16 rfl (zIs_I (uRc (show fWays m = -2 by unfold fWays; rw [if_neg (by omega)]) (by decide)).symm (by rw [if_neg (show ¬ fWays m = 0 by unfold fWays; rw [if_neg (by omega)]; decide)]))
