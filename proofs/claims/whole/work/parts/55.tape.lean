set_option maxHeartbeats 4000000 in
set_option maxRecDepth 100000 in
theorem c_X4_byteAt {g : zG} {I : Nat → Nat → Int} {J : Nat → Nat → Int64} {q : Nat × Nat} {i : Int} (hT : gT I) (hi : -2147483648 ≤ i ∧ i ≤ 2147483647) : zRun g mX4_byteAt 0 [.ref 11, .int (iI i)] (zst I J q) (some (.int (iI (byN (I 12) (I 11 1).toNat i)))) (zst I J q) := by
  obtain ⟨t1, t2⟩ := id hT
  refine zRuns_intro rfl (Nat.le_of_ble_eq_true rfl) (fun X C hR => ?_)
  show zZ g X 0 0 _ 0 [(0, .ref 11), (1, .int (iI i))] []
  refine z_iload_n C 1 rfl dX4_byteAt_0 rfl ?_
  refine z_if_lt C 21 dX4_byteAt_1 (by decide) (by omega) (fun h1 => ?_) (fun h1 => ?_)
  · refine z_iconst C dX4_byteAt_21 ?_
    exact zZ_iret C hR (Nat.le_refl _) (Nat.le_refl _) dX4_byteAt_22 rfl (zIs_I (by unfold byN; rw [if_neg (by omega)]) rfl)
  · refine z_iload_n C 1 rfl dX4_byteAt_4 rfl ?_
    refine z_aload_n C 0 rfl dX4_byteAt_5 rfl ?_
    refine y_getI C zCl4 1 flX4_15 rfl rfl dX4_byteAt_6 ?_
    refine z_icmp_ge C 21 dX4_byteAt_9 (by decide) (by omega) (by omega) (fun h9 => ?_) (fun h9 => ?_)
    · refine z_iconst C dX4_byteAt_21 ?_
      exact zZ_iret C hR (Nat.le_refl _) (Nat.le_refl _) dX4_byteAt_22 rfl (zIs_I (by unfold byN; rw [if_neg (by omega)]) rfl)
    · refine z_aload_n C 0 rfl dX4_byteAt_12 rfl ?_
      refine y_getR C zCl4 0 flX4_9 rfl rfl rfl dX4_byteAt_13 ?_
      refine z_iload_n C 1 rfl dX4_byteAt_16 rfl ?_
      refine y_iald C i.toNat (by omega) rfl (by omega) (by decide) dX4_byteAt_17 ?_
      refine z_goto C 22 dX4_byteAt_18 (by decide) ?_
      exact zZ_iret C hR (Nat.le_refl _) (Nat.le_refl _) dX4_byteAt_22 rfl (zIs_I (by unfold byN; rw [if_pos (by omega)]) rfl)
set_option maxHeartbeats 4000000 in
set_option maxRecDepth 100000 in
theorem c_X4_tokenOf {g : zG} {I : Nat → Nat → Int} {J : Nat → Nat → Int64} {q : Nat × Nat} {c : Int} (hc : -2147483648 ≤ c ∧ c ≤ 2147483647) : zRun g mX4_tokenOf 0 [.int (iI c)] (zst I J q) (some (.int (iI (tkN c)))) (zst I J q) := by
  refine zRuns_intro rfl (Nat.le_of_ble_eq_true rfl) (fun X C hR => ?_)
  show zZ g X 0 0 _ 0 [(0, .int (iI c))] []
  refine z_iload_n C 0 rfl dX4_tokenOf_0 rfl ?_
  refine z_iconst C dX4_tokenOf_1 ?_
  refine z_icmp_ne C 7 dX4_tokenOf_2 (by decide) (by omega) (by omega) (fun h2 => ?_) (fun h2 => ?_)
  · refine z_iload_n C 0 rfl dX4_tokenOf_7 rfl ?_
    refine z_bipush C dX4_tokenOf_8 (by decide) ?_
    refine z_icmp_lt C 21 dX4_tokenOf_10 (by decide) (by omega) (by omega) (fun h10 => ?_) (fun h10 => ?_)
    · refine z_iload_n C 0 rfl dX4_tokenOf_21 rfl ?_
      refine z_bipush C dX4_tokenOf_22 (by decide) ?_
      refine z_icmp_lt C 35 dX4_tokenOf_24 (by decide) (by omega) (by omega) (fun h24 => ?_) (fun h24 => ?_)
      · refine z_iload_n C 0 rfl dX4_tokenOf_35 rfl ?_
        refine z_bipush C dX4_tokenOf_36 (by decide) ?_
        refine z_icmp_ne C 45 dX4_tokenOf_38 (by decide) (by omega) (by omega) (fun h38 => ?_) (fun h38 => ?_)
        · refine z_iconst C dX4_tokenOf_45 ?_
          exact zZ_iret C hR (Nat.le_refl _) (Nat.le_refl _) dX4_tokenOf_46 rfl (zIs_I (by unfold tkN; (repeat' split) <;> omega) rfl)
        · refine z_iconst C dX4_tokenOf_41 ?_
          refine z_goto C 46 dX4_tokenOf_42 (by decide) ?_
          exact zZ_iret C hR (Nat.le_refl _) (Nat.le_refl _) dX4_tokenOf_46 rfl (zIs_I (by unfold tkN; (repeat' split) <;> omega) rfl)
      · refine z_iload_n C 0 rfl dX4_tokenOf_27 rfl ?_
        refine z_bipush C dX4_tokenOf_28 (by decide) ?_
        refine z_icmp_gt C 35 dX4_tokenOf_30 (by decide) (by omega) (by omega) (fun h30 => ?_) (fun h30 => ?_)
        · refine z_iload_n C 0 rfl dX4_tokenOf_35 rfl ?_
          refine z_bipush C dX4_tokenOf_36 (by decide) ?_
          refine z_icmp_ne C 45 dX4_tokenOf_38 (by decide) (by omega) (by omega) (fun h38 => ?_) (fun h38 => ?_)
          · refine z_iconst C dX4_tokenOf_45 ?_
            exact zZ_iret C hR (Nat.le_refl _) (Nat.le_refl _) dX4_tokenOf_46 rfl (zIs_I (by unfold tkN; (repeat' split) <;> omega) rfl)
          · refine z_iconst C dX4_tokenOf_41 ?_
            refine z_goto C 46 dX4_tokenOf_42 (by decide) ?_
            exact zZ_iret C hR (Nat.le_refl _) (Nat.le_refl _) dX4_tokenOf_46 rfl (zIs_I (by unfold tkN; (repeat' split) <;> omega) rfl)
        · refine z_iconst C dX4_tokenOf_33 ?_
          exact zZ_iret C hR (Nat.le_refl _) (Nat.le_refl _) dX4_tokenOf_34 rfl (zIs_I (by unfold tkN; (repeat' split) <;> omega) rfl)
    · refine z_iload_n C 0 rfl dX4_tokenOf_13 rfl ?_
      refine z_bipush C dX4_tokenOf_14 (by decide) ?_
      refine z_icmp_gt C 21 dX4_tokenOf_16 (by decide) (by omega) (by omega) (fun h16 => ?_) (fun h16 => ?_)
      · refine z_iload_n C 0 rfl dX4_tokenOf_21 rfl ?_
        refine z_bipush C dX4_tokenOf_22 (by decide) ?_
        refine z_icmp_lt C 35 dX4_tokenOf_24 (by decide) (by omega) (by omega) (fun h24 => ?_) (fun h24 => ?_)
        · refine z_iload_n C 0 rfl dX4_tokenOf_35 rfl ?_
          refine z_bipush C dX4_tokenOf_36 (by decide) ?_
          refine z_icmp_ne C 45 dX4_tokenOf_38 (by decide) (by omega) (by omega) (fun h38 => ?_) (fun h38 => ?_)
          · refine z_iconst C dX4_tokenOf_45 ?_
            exact zZ_iret C hR (Nat.le_refl _) (Nat.le_refl _) dX4_tokenOf_46 rfl (zIs_I (by unfold tkN; (repeat' split) <;> omega) rfl)
          · refine z_iconst C dX4_tokenOf_41 ?_
            refine z_goto C 46 dX4_tokenOf_42 (by decide) ?_
            exact zZ_iret C hR (Nat.le_refl _) (Nat.le_refl _) dX4_tokenOf_46 rfl (zIs_I (by unfold tkN; (repeat' split) <;> omega) rfl)
        · refine z_iload_n C 0 rfl dX4_tokenOf_27 rfl ?_
          refine z_bipush C dX4_tokenOf_28 (by decide) ?_
          refine z_icmp_gt C 35 dX4_tokenOf_30 (by decide) (by omega) (by omega) (fun h30 => ?_) (fun h30 => ?_)
          · refine z_iload_n C 0 rfl dX4_tokenOf_35 rfl ?_
            refine z_bipush C dX4_tokenOf_36 (by decide) ?_
            refine z_icmp_ne C 45 dX4_tokenOf_38 (by decide) (by omega) (by omega) (fun h38 => ?_) (fun h38 => ?_)
            · refine z_iconst C dX4_tokenOf_45 ?_
              exact zZ_iret C hR (Nat.le_refl _) (Nat.le_refl _) dX4_tokenOf_46 rfl (zIs_I (by unfold tkN; (repeat' split) <;> omega) rfl)
            · refine z_iconst C dX4_tokenOf_41 ?_
              refine z_goto C 46 dX4_tokenOf_42 (by decide) ?_
              exact zZ_iret C hR (Nat.le_refl _) (Nat.le_refl _) dX4_tokenOf_46 rfl (zIs_I (by unfold tkN; (repeat' split) <;> omega) rfl)
          · refine z_iconst C dX4_tokenOf_33 ?_
            exact zZ_iret C hR (Nat.le_refl _) (Nat.le_refl _) dX4_tokenOf_34 rfl (zIs_I (by unfold tkN; (repeat' split) <;> omega) rfl)
      · refine z_iconst C dX4_tokenOf_19 ?_
        exact zZ_iret C hR (Nat.le_refl _) (Nat.le_refl _) dX4_tokenOf_20 rfl (zIs_I (by unfold tkN; (repeat' split) <;> omega) rfl)
  · refine z_iconst C dX4_tokenOf_5 ?_
    exact zZ_iret C hR (Nat.le_refl _) (Nat.le_refl _) dX4_tokenOf_6 rfl (zIs_I (by unfold tkN; (repeat' split) <;> omega) rfl)
