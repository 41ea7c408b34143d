set_option maxHeartbeats 4000000 in
set_option maxRecDepth 100000 in
theorem c_J6_bitCount_0f7a4 {g : zG} {I : Nat → Nat → Int} {J : Nat → Nat → Int64} {q : Nat × Nat} {x : Int}  : zRun g mJ6_bitCount_0f7a4 0 [.int (iI x)] (zst I J q) (some (.int (iI (bcI x)))) (zst I J q) := by
  refine zRuns_intro rfl (Nat.le_of_ble_eq_true rfl) (fun X C hR => ?_)
  show zZ g X 0 0 _ 0 [(0, .int (iI x))] []
  refine z_iload_n C 0 rfl dJ6_bitCount_0f7a4_0 rfl ?_
  refine z_iload_n C 0 rfl dJ6_bitCount_0f7a4_1 rfl ?_
  refine z_iconst C dJ6_bitCount_0f7a4_2 ?_
  refine z_iushr C (iuN x 1) dJ6_bitCount_0f7a4_3 (iI_of _) ?_
  refine z_ldcw C 1431655765 dJ6_bitCount_0f7a4_4 kcJ6_265 ?_
  refine z_iand C (anN (iuN x 1) 1431655765) dJ6_bitCount_0f7a4_7 (iI_of _) ?_
  refine z_isub C dJ6_bitCount_0f7a4_8 ?_
  refine z_istore_n C [(0, .int (iI (x - ((anN (iuN x 1) 1431655765)))))] dJ6_bitCount_0f7a4_9 rfl (by decide) rfl ?_
  refine z_iload_n C 0 rfl dJ6_bitCount_0f7a4_10 rfl ?_
  refine z_ldcw C 858993459 dJ6_bitCount_0f7a4_11 kcJ6_266 ?_
  refine z_iand C (anN (x - anN (iuN x 1) 1431655765) 858993459) dJ6_bitCount_0f7a4_14 (iI_of _) ?_
  refine z_iload_n C 0 rfl dJ6_bitCount_0f7a4_15 rfl ?_
  refine z_iconst C dJ6_bitCount_0f7a4_16 ?_
  refine z_iushr C (iuN (x - anN (iuN x 1) 1431655765) 2) dJ6_bitCount_0f7a4_17 (iI_of _) ?_
  refine z_ldcw C 858993459 dJ6_bitCount_0f7a4_18 kcJ6_266 ?_
  refine z_iand C (anN (iuN (x - anN (iuN x 1) 1431655765) 2) 858993459) dJ6_bitCount_0f7a4_21 (iI_of _) ?_
  refine z_iadd C dJ6_bitCount_0f7a4_22 ?_
  refine z_istore_n C [(0, .int (iI (((anN (x - anN (iuN x 1) 1431655765) 858993459)) + ((anN (iuN (x - anN (iuN x 1) 1431655765) 2) 858993459)))))] dJ6_bitCount_0f7a4_23 rfl (by decide) rfl ?_
  refine z_iload_n C 0 rfl dJ6_bitCount_0f7a4_24 rfl ?_
  refine z_iload_n C 0 rfl dJ6_bitCount_0f7a4_25 rfl ?_
  refine z_iconst C dJ6_bitCount_0f7a4_26 ?_
  refine z_iushr C (iuN (anN (x - anN (iuN x 1) 1431655765) 858993459 + anN (iuN (x - anN (iuN x 1) 1431655765) 2) 858993459) 4) dJ6_bitCount_0f7a4_27 (iI_of _) ?_
  refine z_iadd C dJ6_bitCount_0f7a4_28 ?_
  refine z_ldcw C 252645135 dJ6_bitCount_0f7a4_29 kcJ6_267 ?_
  refine z_iand C (anN ((anN (x - anN (iuN x 1) 1431655765) 858993459 + anN (iuN (x - anN (iuN x 1) 1431655765) 2) 858993459) + iuN (anN (x - anN (iuN x 1) 1431655765) 858993459 + anN (iuN (x - anN (iuN x 1) 1431655765) 2) 858993459) 4) 252645135) dJ6_bitCount_0f7a4_32 (iI_of _) ?_
  refine z_istore_n C [(0, .int (iI ((anN ((anN (x - anN (iuN x 1) 1431655765) 858993459 + anN (iuN (x - anN (iuN x 1) 1431655765) 2) 858993459) + iuN (anN (x - anN (iuN x 1) 1431655765) 858993459 + anN (iuN (x - anN (iuN x 1) 1431655765) 2) 858993459) 4) 252645135))))] dJ6_bitCount_0f7a4_33 rfl (by decide) rfl ?_
  refine z_iload_n C 0 rfl dJ6_bitCount_0f7a4_34 rfl ?_
  refine z_iload_n C 0 rfl dJ6_bitCount_0f7a4_35 rfl ?_
  refine z_bipush C dJ6_bitCount_0f7a4_36 (by decide) ?_
  refine z_iushr C (iuN (anN ((anN (x - anN (iuN x 1) 1431655765) 858993459 + anN (iuN (x - anN (iuN x 1) 1431655765) 2) 858993459) + iuN (anN (x - anN (iuN x 1) 1431655765) 858993459 + anN (iuN (x - anN (iuN x 1) 1431655765) 2) 858993459) 4) 252645135) 8) dJ6_bitCount_0f7a4_38 (iI_of _) ?_
  refine z_iadd C dJ6_bitCount_0f7a4_39 ?_
  refine z_istore_n C [(0, .int (iI (((anN ((anN (x - anN (iuN x 1) 1431655765) 858993459 + anN (iuN (x - anN (iuN x 1) 1431655765) 2) 858993459) + iuN (anN (x - anN (iuN x 1) 1431655765) 858993459 + anN (iuN (x - anN (iuN x 1) 1431655765) 2) 858993459) 4) 252645135)) + ((iuN (anN ((anN (x - anN (iuN x 1) 1431655765) 858993459 + anN (iuN (x - anN (iuN x 1) 1431655765) 2) 858993459) + iuN (anN (x - anN (iuN x 1) 1431655765) 858993459 + anN (iuN (x - anN (iuN x 1) 1431655765) 2) 858993459) 4) 252645135) 8)))))] dJ6_bitCount_0f7a4_40 rfl (by decide) rfl ?_
  refine z_iload_n C 0 rfl dJ6_bitCount_0f7a4_41 rfl ?_
  refine z_iload_n C 0 rfl dJ6_bitCount_0f7a4_42 rfl ?_
  refine z_bipush C dJ6_bitCount_0f7a4_43 (by decide) ?_
  refine z_iushr C (iuN ((anN ((anN (x - anN (iuN x 1) 1431655765) 858993459 + anN (iuN (x - anN (iuN x 1) 1431655765) 2) 858993459) + iuN (anN (x - anN (iuN x 1) 1431655765) 858993459 + anN (iuN (x - anN (iuN x 1) 1431655765) 2) 858993459) 4) 252645135) + iuN (anN ((anN (x - anN (iuN x 1) 1431655765) 858993459 + anN (iuN (x - anN (iuN x 1) 1431655765) 2) 858993459) + iuN (anN (x - anN (iuN x 1) 1431655765) 858993459 + anN (iuN (x - anN (iuN x 1) 1431655765) 2) 858993459) 4) 252645135) 8) 16) dJ6_bitCount_0f7a4_45 (iI_of _) ?_
  refine z_iadd C dJ6_bitCount_0f7a4_46 ?_
  refine z_istore_n C [(0, .int (iI ((((anN ((anN (x - anN (iuN x 1) 1431655765) 858993459 + anN (iuN (x - anN (iuN x 1) 1431655765) 2) 858993459) + iuN (anN (x - anN (iuN x 1) 1431655765) 858993459 + anN (iuN (x - anN (iuN x 1) 1431655765) 2) 858993459) 4) 252645135)) + ((iuN (anN ((anN (x - anN (iuN x 1) 1431655765) 858993459 + anN (iuN (x - anN (iuN x 1) 1431655765) 2) 858993459) + iuN (anN (x - anN (iuN x 1) 1431655765) 858993459 + anN (iuN (x - anN (iuN x 1) 1431655765) 2) 858993459) 4) 252645135) 8))) + ((iuN ((anN ((anN (x - anN (iuN x 1) 1431655765) 858993459 + anN (iuN (x - anN (iuN x 1) 1431655765) 2) 858993459) + iuN (anN (x - anN (iuN x 1) 1431655765) 858993459 + anN (iuN (x - anN (iuN x 1) 1431655765) 2) 858993459) 4) 252645135) + iuN (anN ((anN (x - anN (iuN x 1) 1431655765) 858993459 + anN (iuN (x - anN (iuN x 1) 1431655765) 2) 858993459) + iuN (anN (x - anN (iuN x 1) 1431655765) 858993459 + anN (iuN (x - anN (iuN x 1) 1431655765) 2) 858993459) 4) 252645135) 8) 16)))))] dJ6_bitCount_0f7a4_47 rfl (by decide) rfl ?_
  refine z_iload_n C 0 rfl dJ6_bitCount_0f7a4_48 rfl ?_
  refine z_bipush C dJ6_bitCount_0f7a4_49 (by decide) ?_
  refine z_iand C (anN (((anN ((anN (x - anN (iuN x 1) 1431655765) 858993459 + anN (iuN (x - anN (iuN x 1) 1431655765) 2) 858993459) + iuN (anN (x - anN (iuN x 1) 1431655765) 858993459 + anN (iuN (x - anN (iuN x 1) 1431655765) 2) 858993459) 4) 252645135) + iuN (anN ((anN (x - anN (iuN x 1) 1431655765) 858993459 + anN (iuN (x - anN (iuN x 1) 1431655765) 2) 858993459) + iuN (anN (x - anN (iuN x 1) 1431655765) 858993459 + anN (iuN (x - anN (iuN x 1) 1431655765) 2) 858993459) 4) 252645135) 8) + iuN ((anN ((anN (x - anN (iuN x 1) 1431655765) 858993459 + anN (iuN (x - anN (iuN x 1) 1431655765) 2) 858993459) + iuN (anN (x - anN (iuN x 1) 1431655765) 858993459 + anN (iuN (x - anN (iuN x 1) 1431655765) 2) 858993459) 4) 252645135) + iuN (anN ((anN (x - anN (iuN x 1) 1431655765) 858993459 + anN (iuN (x - anN (iuN x 1) 1431655765) 2) 858993459) + iuN (anN (x - anN (iuN x 1) 1431655765) 858993459 + anN (iuN (x - anN (iuN x 1) 1431655765) 2) 858993459) 4) 252645135) 8) 16) 63) dJ6_bitCount_0f7a4_51 (iI_of _) ?_
  exact zZ_iret C hR (Nat.le_refl _) (Nat.le_refl _) dJ6_bitCount_0f7a4_52 rfl (zIs_I rfl rfl)
set_option maxHeartbeats 4000000 in
set_option maxRecDepth 100000 in
theorem c_J13_bitCount_95d88 {g : zG} {I : Nat → Nat → Int} {J : Nat → Nat → Int64} {q : Nat × Nat} {x : Int64}  : zRun g mJ13_bitCount_95d88 0 [.long x] (zst I J q) (some (.int (iI (bcL x)))) (zst I J q) := by
  refine zRuns_intro rfl (Nat.le_of_ble_eq_true rfl) (fun X C hR => ?_)
  show zZ g X 0 0 _ 0 [(0, .long x)] []
  refine z_lload_n C 0 rfl dJ13_bitCount_95d88_0 rfl ?_
  refine z_lload_n C 0 rfl dJ13_bitCount_95d88_1 rfl ?_
  refine z_iconst C dJ13_bitCount_95d88_2 ?_
  refine z_lushr C dJ13_bitCount_95d88_3 ?_
  refine z_ldc2 C 6148914691236517205 dJ13_bitCount_95d88_4 kcJ13_314 ?_
  refine z_land C dJ13_bitCount_95d88_7 ?_
  refine z_lsub C dJ13_bitCount_95d88_8 ?_
  refine z_topL C (fun a1 ea1 => ?_)
  refine z_lstore_n C [(0, .long a1)] dJ13_bitCount_95d88_9 rfl (by decide) rfl ?_
  refine z_lload_n C 0 rfl dJ13_bitCount_95d88_10 rfl ?_
  refine z_ldc2 C 3689348814741910323 dJ13_bitCount_95d88_11 kcJ13_316 ?_
  refine z_land C dJ13_bitCount_95d88_14 ?_
  refine z_lload_n C 0 rfl dJ13_bitCount_95d88_15 rfl ?_
  refine z_iconst C dJ13_bitCount_95d88_16 ?_
  refine z_lushr C dJ13_bitCount_95d88_17 ?_
  refine z_ldc2 C 3689348814741910323 dJ13_bitCount_95d88_18 kcJ13_316 ?_
  refine z_land C dJ13_bitCount_95d88_21 ?_
  refine z_ladd C dJ13_bitCount_95d88_22 ?_
  refine z_topL C (fun a2 ea2 => ?_)
  refine z_lstore_n C [(0, .long a2)] dJ13_bitCount_95d88_23 rfl (by decide) rfl ?_
  refine z_lload_n C 0 rfl dJ13_bitCount_95d88_24 rfl ?_
  refine z_lload_n C 0 rfl dJ13_bitCount_95d88_25 rfl ?_
  refine z_iconst C dJ13_bitCount_95d88_26 ?_
  refine z_lushr C dJ13_bitCount_95d88_27 ?_
  refine z_ladd C dJ13_bitCount_95d88_28 ?_
  refine z_ldc2 C 1085102592571150095 dJ13_bitCount_95d88_29 kcJ13_318 ?_
  refine z_land C dJ13_bitCount_95d88_32 ?_
  refine z_topL C (fun a3 ea3 => ?_)
  refine z_lstore_n C [(0, .long a3)] dJ13_bitCount_95d88_33 rfl (by decide) rfl ?_
  refine z_lload_n C 0 rfl dJ13_bitCount_95d88_34 rfl ?_
  refine z_lload_n C 0 rfl dJ13_bitCount_95d88_35 rfl ?_
  refine z_bipush C dJ13_bitCount_95d88_36 (by decide) ?_
  refine z_lushr C dJ13_bitCount_95d88_38 ?_
  refine z_ladd C dJ13_bitCount_95d88_39 ?_
  refine z_topL C (fun a4 ea4 => ?_)
  refine z_lstore_n C [(0, .long a4)] dJ13_bitCount_95d88_40 rfl (by decide) rfl ?_
  refine z_lload_n C 0 rfl dJ13_bitCount_95d88_41 rfl ?_
  refine z_lload_n C 0 rfl dJ13_bitCount_95d88_42 rfl ?_
  refine z_bipush C dJ13_bitCount_95d88_43 (by decide) ?_
  refine z_lushr C dJ13_bitCount_95d88_45 ?_
  refine z_ladd C dJ13_bitCount_95d88_46 ?_
  refine z_topL C (fun a5 ea5 => ?_)
  refine z_lstore_n C [(0, .long a5)] dJ13_bitCount_95d88_47 rfl (by decide) rfl ?_
  refine z_lload_n C 0 rfl dJ13_bitCount_95d88_48 rfl ?_
  refine z_lload_n C 0 rfl dJ13_bitCount_95d88_49 rfl ?_
  refine z_bipush C dJ13_bitCount_95d88_50 (by decide) ?_
  refine z_lushr C dJ13_bitCount_95d88_52 ?_
  refine z_ladd C dJ13_bitCount_95d88_53 ?_
  refine z_topL C (fun a6 ea6 => ?_)
  refine z_lstore_n C [(0, .long a6)] dJ13_bitCount_95d88_54 rfl (by decide) rfl ?_
  refine z_lload_n C 0 rfl dJ13_bitCount_95d88_55 rfl ?_
  refine z_l2i C a6.toInt dJ13_bitCount_95d88_56 (l2i_eq _) ?_
  refine z_bipush C dJ13_bitCount_95d88_57 (by decide) ?_
  refine z_iand C (anN a6.toInt 127) dJ13_bitCount_95d88_59 (iI_of _) ?_
  exact zZ_iret C hR (Nat.le_refl _) (Nat.le_refl _) dJ13_bitCount_95d88_60 rfl (zIs_I (by subst ea6; subst ea5; subst ea4; subst ea3; subst ea2; subst ea1; rfl) rfl)
