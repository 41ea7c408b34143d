set_option maxHeartbeats 4000000 in
set_option maxRecDepth 100000 in
theorem c_X5_stepsBetween {g : zG} {I : Nat → Nat → Int} {J : Nat → Nat → Int64} {q : Nat × Nat} {c e : Int} (hc : 0 ≤ c ∧ c ≤ 99) (he : 0 ≤ e ∧ e ≤ 99) : zRun g mX5_stepsBetween 1 [.int (iI c), .int (iI e)] (zst I J q) (some (.int (iI (stp c e)))) (zst I J q) := by
  refine zRuns_intro rfl (Nat.le_of_ble_eq_true rfl) (fun X C hR => ?_)
  show zZ g X 0 0 _ 0 [(0, .int (iI c)), (1, .int (iI e))] []
  refine z_iload_n C 0 rfl dX5_stepsBetween_0 rfl ?_
  refine z_bipush C dX5_stepsBetween_1 (by decide) ?_
  refine z_idiv C dX5_stepsBetween_3 (by omega) (by omega) ?_
  refine z_iload_n C 1 rfl dX5_stepsBetween_4 rfl ?_
  refine z_bipush C dX5_stepsBetween_5 (by decide) ?_
  refine z_idiv C dX5_stepsBetween_7 (by omega) (by omega) ?_
  refine z_isub C dX5_stepsBetween_8 ?_
  refine z_mabs C lkX5_351 (by omega) (by decide) (Nat.le_refl _) (Nat.le_refl _) (Nat.le_of_ble_eq_true rfl) dX5_stepsBetween_9 ?_
  refine z_iload_n C 0 rfl dX5_stepsBetween_12 rfl ?_
  refine z_bipush C dX5_stepsBetween_13 (by decide) ?_
  refine z_irem C dX5_stepsBetween_15 (by omega) (by omega) ?_
  refine z_iload_n C 1 rfl dX5_stepsBetween_16 rfl ?_
  refine z_bipush C dX5_stepsBetween_17 (by decide) ?_
  refine z_irem C dX5_stepsBetween_19 (by omega) (by omega) ?_
  refine z_isub C dX5_stepsBetween_20 ?_
  refine z_mabs C lkX5_351 (by omega) (by decide) (Nat.le_refl _) (Nat.le_refl _) (Nat.le_of_ble_eq_true rfl) dX5_stepsBetween_21 ?_
  refine z_iadd C dX5_stepsBetween_24 ?_
  exact zZ_iret C hR (Nat.le_refl _) (Nat.le_refl _) dX5_stepsBetween_25 rfl (zIs_I rfl rfl)
set_option maxHeartbeats 4000000 in
set_option maxRecDepth 100000 in
theorem c_X5_bitOf {g : zG} {I : Nat → Nat → Int} {J : Nat → Nat → Int64} {q : Nat × Nat} {c : Int} (hc : 0 ≤ c ∧ c ≤ 99) : zRun g mX5_bitOf 0 [.int (iI c)] (zst I J q) (some (.long (bitL c))) (zst I J q) := by
  refine zRuns_intro rfl (Nat.le_of_ble_eq_true rfl) (fun X C hR => ?_)
  show zZ g X 0 0 _ 0 [(0, .int (iI c))] []
  refine z_lconst C 1 dX5_bitOf_0 rfl ?_
  refine z_iload_n C 0 rfl dX5_bitOf_1 rfl ?_
  refine z_bipush C dX5_bitOf_2 (by decide) ?_
  refine z_idiv C dX5_bitOf_4 (by omega) (by omega) ?_
  refine z_bipush C dX5_bitOf_5 (by decide) ?_
  refine z_imul C dX5_bitOf_7 ?_
  refine z_iload_n C 0 rfl dX5_bitOf_8 rfl ?_
  refine z_bipush C dX5_bitOf_9 (by decide) ?_
  refine z_irem C dX5_bitOf_11 (by omega) (by omega) ?_
  refine z_iadd C dX5_bitOf_12 ?_
  refine z_lshl C dX5_bitOf_13 ?_
  exact zZ_lret C hR (Nat.le_refl _) (Nat.le_refl _) dX5_bitOf_14 rfl (zIs_J rfl rfl)
set_option maxHeartbeats 4000000 in
set_option maxRecDepth 100000 in
theorem c_X5_isShelf {g : zG} {I : Nat → Nat → Int} {J : Nat → Nat → Int64} {q : Nat × Nat} {s : Int} (hs : -2147483648 ≤ s ∧ s ≤ 2147483647) : zRun g mX5_isShelf 0 [.int (iI s)] (zst I J q) (some (.int (iI (bI (decide (0 ≤ s ∧ s < 8)))))) (zst I J q) := by
  refine zRuns_intro rfl (Nat.le_of_ble_eq_true rfl) (fun X C hR => ?_)
  show zZ g X 0 0 _ 0 [(0, .int (iI s))] []
  refine z_iload_n C 0 rfl dX5_isShelf_0 rfl ?_
  refine z_if_lt C 14 dX5_isShelf_1 (by decide) (by omega) (fun h1 => ?_) (fun h1 => ?_)
  · refine z_iconst C dX5_isShelf_14 ?_
    exact zZ_zret C hR (Nat.le_refl _) (Nat.le_refl _) dX5_isShelf_15 rfl (Or.inl rfl) (zIs_I (by simp [bI] <;> omega) rfl)
  · refine z_iload_n C 0 rfl dX5_isShelf_4 rfl ?_
    refine z_bipush C dX5_isShelf_5 (by decide) ?_
    refine z_icmp_ge C 14 dX5_isShelf_7 (by decide) (by omega) (by omega) (fun h7 => ?_) (fun h7 => ?_)
    · refine z_iconst C dX5_isShelf_14 ?_
      exact zZ_zret C hR (Nat.le_refl _) (Nat.le_refl _) dX5_isShelf_15 rfl (Or.inl rfl) (zIs_I (by simp [bI] <;> omega) rfl)
    · refine z_iconst C dX5_isShelf_10 ?_
      refine z_goto C 15 dX5_isShelf_11 (by decide) ?_
      exact zZ_zret C hR (Nat.le_refl _) (Nat.le_refl _) dX5_isShelf_15 rfl (Or.inr rfl) (zIs_I (by simp [bI] <;> omega) rfl)
set_option maxHeartbeats 4000000 in
set_option maxRecDepth 100000 in
theorem c_X5_isKind {g : zG} {I : Nat → Nat → Int} {J : Nat → Nat → Int64} {q : Nat × Nat} {s : Int} (hs : -2147483648 ≤ s ∧ s ≤ 2147483647) : zRun g mX5_isKind 0 [.int (iI s)] (zst I J q) (some (.int (iI (bI (decide (0 ≤ s ∧ s < 6)))))) (zst I J q) := by
  refine zRuns_intro rfl (Nat.le_of_ble_eq_true rfl) (fun X C hR => ?_)
  show zZ g X 0 0 _ 0 [(0, .int (iI s))] []
  refine z_iload_n C 0 rfl dX5_isKind_0 rfl ?_
  refine z_if_lt C 14 dX5_isKind_1 (by decide) (by omega) (fun h1 => ?_) (fun h1 => ?_)
  · refine z_iconst C dX5_isKind_14 ?_
    exact zZ_zret C hR (Nat.le_refl _) (Nat.le_refl _) dX5_isKind_15 rfl (Or.inl rfl) (zIs_I (by simp [bI] <;> omega) rfl)
  · refine z_iload_n C 0 rfl dX5_isKind_4 rfl ?_
    refine z_bipush C dX5_isKind_5 (by decide) ?_
    refine z_icmp_ge C 14 dX5_isKind_7 (by decide) (by omega) (by omega) (fun h7 => ?_) (fun h7 => ?_)
    · refine z_iconst C dX5_isKind_14 ?_
      exact zZ_zret C hR (Nat.le_refl _) (Nat.le_refl _) dX5_isKind_15 rfl (Or.inl rfl) (zIs_I (by simp [bI] <;> omega) rfl)
    · refine z_iconst C dX5_isKind_10 ?_
      refine z_goto C 15 dX5_isKind_11 (by decide) ?_
      exact zZ_zret C hR (Nat.le_refl _) (Nat.le_refl _) dX5_isKind_15 rfl (Or.inr rfl) (zIs_I (by simp [bI] <;> omega) rfl)
set_option maxHeartbeats 4000000 in
set_option maxRecDepth 100000 in
theorem c_X0_isCell {g : zG} {I : Nat → Nat → Int} {J : Nat → Nat → Int64} {q : Nat × Nat} {h : Nat} {c : Int} (hh : isH h) (hg : gH I h) (hc : -2147483648 ≤ c ∧ c ≤ 2147483647) : zRun g mX0_isCell 0 [.ref h, .int (iI c)] (zst I J q) (some (.int (iI (bI (isCellN (I h 0) c))))) (zst I J q) := by
  obtain ⟨g1, g2, g3, g4, g5, g6⟩ := id hg
  refine zRuns_intro rfl (Nat.le_of_ble_eq_true rfl) (fun X C hR => ?_)
  show zZ g X 0 0 _ 0 [(0, .ref h), (1, .int (iI c))] []
  refine z_iload_n C 1 rfl dX0_isCell_0 rfl ?_
  refine z_if_lt C 30 dX0_isCell_1 (by decide) (by omega) (fun h1 => ?_) (fun h1 => ?_)
  · refine z_iconst C dX0_isCell_30 ?_
    exact zZ_zret C hR (Nat.le_refl _) (Nat.le_refl _) dX0_isCell_31 rfl (Or.inl rfl) (zIs_I (by simp [bI, isCellN] <;> omega) rfl)
  · refine z_iload_n C 1 rfl dX0_isCell_4 rfl ?_
    refine z_bipush C dX0_isCell_5 (by decide) ?_
    refine z_idiv C dX0_isCell_7 (by omega) (by omega) ?_
    refine z_aload_n C 0 rfl dX0_isCell_8 rfl ?_
    refine y_getI C zCl0 0 flX0_9 rfl (lay_h hh) dX0_isCell_9 ?_
    refine z_icmp_ge C 30 dX0_isCell_12 (by decide) (by omega) (by omega) (fun h12 => ?_) (fun h12 => ?_)
    · refine z_iconst C dX0_isCell_30 ?_
      exact zZ_zret C hR (Nat.le_refl _) (Nat.le_refl _) dX0_isCell_31 rfl (Or.inl rfl) (zIs_I (by simp [bI, isCellN] <;> omega) rfl)
    · refine z_iload_n C 1 rfl dX0_isCell_15 rfl ?_
      refine z_bipush C dX0_isCell_16 (by decide) ?_
      refine z_irem C dX0_isCell_18 (by omega) (by omega) ?_
      refine z_aload_n C 0 rfl dX0_isCell_19 rfl ?_
      refine y_getI C zCl0 0 flX0_9 rfl (lay_h hh) dX0_isCell_20 ?_
      refine z_icmp_ge C 30 dX0_isCell_23 (by decide) (by omega) (by omega) (fun h23 => ?_) (fun h23 => ?_)
      · refine z_iconst C dX0_isCell_30 ?_
        exact zZ_zret C hR (Nat.le_refl _) (Nat.le_refl _) dX0_isCell_31 rfl (Or.inl rfl) (zIs_I (by simp [bI, isCellN] <;> omega) rfl)
      · refine z_iconst C dX0_isCell_26 ?_
        refine z_goto C 31 dX0_isCell_27 (by decide) ?_
        exact zZ_zret C hR (Nat.le_refl _) (Nat.le_refl _) dX0_isCell_31 rfl (Or.inr rfl) (zIs_I (by simp [bI, isCellN] <;> omega) rfl)
set_option maxHeartbeats 4000000 in
set_option maxRecDepth 100000 in
theorem c_X0_isWall {g : zG} {I : Nat → Nat → Int} {J : Nat → Nat → Int64} {q : Nat × Nat} {h : Nat} {c : Int} (hh : isH h) (hc : 0 ≤ c ∧ c ≤ 99) : zRun g mX0_isWall 1 [.ref h, .int (iI c)] (zst I J q) (some (.int (iI (bI (wallL (J h 5) c))))) (zst I J q) := by
  refine zRuns_intro rfl (Nat.le_of_ble_eq_true rfl) (fun X C hR => ?_)
  show zZ g X 0 0 _ 0 [(0, .ref h), (1, .int (iI c))] []
  refine z_aload_n C 0 rfl dX0_isWall_0 rfl ?_
  refine y_getJ C zCl0 5 flX0_27 rfl (lay_h hh) dX0_isWall_1 ?_
  refine z_iload_n C 1 rfl dX0_isWall_4 rfl ?_
  refine y_callN1 C (host := RX5) oX5_bitOf sX5_bitOf (List.mem_of_getElem? (i := 6) rfl) (c_X5_bitOf (by first | assumption | omega)) (by decide) (Nat.le_refl _) (Nat.le_refl _) (Nat.le_of_ble_eq_true rfl) dX0_isWall_5 ?_
  refine z_land C dX0_isWall_8 ?_
  refine z_lconst C 0 dX0_isWall_9 rfl ?_
  refine z_lcmp_eq C 18 dX0_isWall_10 dX0_isWall_11 (by decide) (fun h10 => ?_) (fun h10 => ?_)
  · refine z_iconst C dX0_isWall_18 ?_
    exact zZ_zret C hR (Nat.le_refl _) (Nat.le_refl _) dX0_isWall_19 rfl (Or.inl rfl) (zIs_I (by simp [bI, wallL, *]) rfl)
  · refine z_iconst C dX0_isWall_14 ?_
    refine z_goto C 19 dX0_isWall_15 (by decide) ?_
    exact zZ_zret C hR (Nat.le_refl _) (Nat.le_refl _) dX0_isWall_19 rfl (Or.inr rfl) (zIs_I (by simp [bI, wallL, *]) rfl)
set_option maxHeartbeats 4000000 in
set_option maxRecDepth 100000 in
theorem c_X0_isOpen {g : zG} {I : Nat → Nat → Int} {J : Nat → Nat → Int64} {q : Nat × Nat} {h : Nat} {c : Int} (hh : isH h) (hg : gH I h) (hc : -100 ≤ c ∧ c ≤ 99) : zRun g mX0_isOpen 1 [.ref h, .int (iI c)] (zst I J q) (some (.int (iI (bI (openN (I h 0) (J h 5) c))))) (zst I J q) := by
  obtain ⟨g1, g2, g3, g4, g5, g6⟩ := id hg
  refine zRuns_intro rfl (Nat.le_of_ble_eq_true rfl) (fun X C hR => ?_)
  show zZ g X 0 0 _ 0 [(0, .ref h), (1, .int (iI c))] []
  refine z_aload_n C 0 rfl dX0_isOpen_0 rfl ?_
  refine z_iload_n C 1 rfl dX0_isOpen_1 rfl ?_
  refine y_callV1 C oX0_isCell iX0_isCell eX0_isCell lkX0_64 (c_X0_isCell hh hg (by first | assumption | omega)) (lay_h hh) (by decide) rfl rfl (by decide) (Nat.le_refl _) (Nat.le_refl _) (Nat.le_of_ble_eq_true rfl) dX0_isOpen_2 ?_
  
  refine y_if_eqB C 26 dX0_isOpen_5 (by decide) (fun h5 => ?_) (fun h5 => ?_)
  · refine z_iconst C dX0_isOpen_26 ?_
    exact zZ_zret C hR (Nat.le_refl _) (Nat.le_refl _) dX0_isOpen_27 rfl (Or.inl rfl) (zIs_I (by simp [bI, openN, wallL, *]) rfl)
  · refine z_aload_n C 0 rfl dX0_isOpen_8 rfl ?_
    refine y_getJ C zCl0 5 flX0_27 rfl (lay_h hh) dX0_isOpen_9 ?_
    refine z_iload_n C 1 rfl dX0_isOpen_12 rfl ?_
    refine y_callN1 C (host := RX5) oX5_bitOf sX5_bitOf (List.mem_of_getElem? (i := 6) rfl) (c_X5_bitOf (by simp [isCellN] at h5; omega)) (by decide) (Nat.le_refl _) (Nat.le_refl _) (Nat.le_of_ble_eq_true rfl) dX0_isOpen_13 ?_
    refine z_land C dX0_isOpen_16 ?_
    refine z_lconst C 0 dX0_isOpen_17 rfl ?_
    refine z_lcmp_ne C 26 dX0_isOpen_18 dX0_isOpen_19 (by decide) (fun h18 => ?_) (fun h18 => ?_)
    · refine z_iconst C dX0_isOpen_26 ?_
      exact zZ_zret C hR (Nat.le_refl _) (Nat.le_refl _) dX0_isOpen_27 rfl (Or.inl rfl) (zIs_I (by simp [bI, openN, wallL, *]) rfl)
    · refine z_iconst C dX0_isOpen_22 ?_
      refine z_goto C 27 dX0_isOpen_23 (by decide) ?_
      exact zZ_zret C hR (Nat.le_refl _) (Nat.le_refl _) dX0_isOpen_27 rfl (Or.inr rfl) (zIs_I (by simp [bI, openN, wallL, *]) rfl)
set_option maxHeartbeats 4000000 in
set_option maxRecDepth 100000 in
theorem c_X0_mayBeDogs {g : zG} {I : Nat → Nat → Int} {J : Nat → Nat → Int64} {q : Nat × Nat} {h : Nat} {c : Int} (hh : isH h) (hg : gH I h) (hc : -100 ≤ c ∧ c ≤ 99) : zRun g mX0_mayBeDogs 2 [.ref h, .int (iI c)] (zst I J q) (some (.int (iI (bI (dogsN (I h 0) (J h 5) (I h 1) c))))) (zst I J q) := by
  obtain ⟨g1, g2, g3, g4, g5, g6⟩ := id hg
  refine zRuns_intro rfl (Nat.le_of_ble_eq_true rfl) (fun X C hR => ?_)
  show zZ g X 0 0 _ 0 [(0, .ref h), (1, .int (iI c))] []
  refine z_iload_n C 1 rfl dX0_mayBeDogs_0 rfl ?_
  refine z_aload_n C 0 rfl dX0_mayBeDogs_1 rfl ?_
  refine y_getI C zCl0 1 flX0_15 rfl (lay_h hh) dX0_mayBeDogs_2 ?_
  refine z_icmp_eq C 20 dX0_mayBeDogs_5 (by decide) (by omega) (by omega) (fun h5 => ?_) (fun h5 => ?_)
  · refine z_iconst C dX0_mayBeDogs_20 ?_
    exact zZ_zret C hR (Nat.le_refl _) (Nat.le_refl _) dX0_mayBeDogs_21 rfl (Or.inl rfl) (zIs_I (by simp [bI, dogsN, *]) rfl)
  · refine z_aload_n C 0 rfl dX0_mayBeDogs_8 rfl ?_
    refine z_iload_n C 1 rfl dX0_mayBeDogs_9 rfl ?_
    refine y_callV1 C oX0_isOpen iX0_isOpen eX0_isOpen lkX0_68 (c_X0_isOpen hh hg (by first | assumption | omega)) (lay_h hh) (by decide) rfl rfl (by decide) (Nat.le_refl _) (Nat.le_refl _) (Nat.le_of_ble_eq_true rfl) dX0_mayBeDogs_10 ?_
    refine y_if_eqB C 20 dX0_mayBeDogs_13 (by decide) (fun h13 => ?_) (fun h13 => ?_)
    · refine z_iconst C dX0_mayBeDogs_20 ?_
      exact zZ_zret C hR (Nat.le_refl _) (Nat.le_refl _) dX0_mayBeDogs_21 rfl (Or.inl rfl) (zIs_I (by simp [bI, dogsN, *]) rfl)
    · refine z_iconst C dX0_mayBeDogs_16 ?_
      refine z_goto C 21 dX0_mayBeDogs_17 (by decide) ?_
      exact zZ_zret C hR (Nat.le_refl _) (Nat.le_refl _) dX0_mayBeDogs_21 rfl (Or.inr rfl) (zIs_I (by simp [bI, dogsN, *]) rfl)
set_option maxHeartbeats 4000000 in
set_option maxRecDepth 100000 in
theorem c_X0_isEwe {g : zG} {I : Nat → Nat → Int} {J : Nat → Nat → Int64} {q : Nat × Nat} {h : Nat} {c : Int} (hh : isH h) (hg : gH I h) (hc : -2147483648 ≤ c ∧ c ≤ 2147483647) : zRun g mX0_isEwe 0 [.ref h, .int (iI c)] (zst I J q) (some (.int (iI (bI (decide (0 ≤ c ∧ c < I h 6)))))) (zst I J q) := by
  obtain ⟨g1, g2, g3, g4, g5, g6⟩ := id hg
  refine zRuns_intro rfl (Nat.le_of_ble_eq_true rfl) (fun X C hR => ?_)
  show zZ g X 0 0 _ 0 [(0, .ref h), (1, .int (iI c))] []
  refine z_iload_n C 1 rfl dX0_isEwe_0 rfl ?_
  refine z_if_lt C 16 dX0_isEwe_1 (by decide) (by omega) (fun h1 => ?_) (fun h1 => ?_)
  · refine z_iconst C dX0_isEwe_16 ?_
    exact zZ_zret C hR (Nat.le_refl _) (Nat.le_refl _) dX0_isEwe_17 rfl (Or.inl rfl) (zIs_I (by simp [bI] <;> omega) rfl)
  · refine z_iload_n C 1 rfl dX0_isEwe_4 rfl ?_
    refine z_aload_n C 0 rfl dX0_isEwe_5 rfl ?_
    refine y_getI C zCl0 6 flX0_31 rfl (lay_h hh) dX0_isEwe_6 ?_
    refine z_icmp_ge C 16 dX0_isEwe_9 (by decide) (by omega) (by omega) (fun h9 => ?_) (fun h9 => ?_)
    · refine z_iconst C dX0_isEwe_16 ?_
      exact zZ_zret C hR (Nat.le_refl _) (Nat.le_refl _) dX0_isEwe_17 rfl (Or.inl rfl) (zIs_I (by simp [bI] <;> omega) rfl)
    · refine z_iconst C dX0_isEwe_12 ?_
      refine z_goto C 17 dX0_isEwe_13 (by decide) ?_
      exact zZ_zret C hR (Nat.le_refl _) (Nat.le_refl _) dX0_isEwe_17 rfl (Or.inr rfl) (zIs_I (by simp [bI] <;> omega) rfl)
set_option maxHeartbeats 4000000 in
set_option maxRecDepth 100000 in
theorem c_X0_hasEweAt {g : zG} {I : Nat → Nat → Int} {J : Nat → Nat → Int64} {q : Nat × Nat} {h : Nat} {c : Int} (hh : isH h) (hg : gH I h) (hs : gS I (h + 3)) (hc : -2147483648 ≤ c ∧ c ≤ 2147483647) : zRun g mX0_hasEweAt 0 [.ref h, .int (iI c)] (zst I J q) (some (.int (iI (bI (eweAtN (I (h + 3 + 1)) c (I h 6).toNat))))) (zst I J q) := by
  obtain ⟨g1, g2, g3, g4, g5, g6⟩ := id hg
  obtain ⟨k1, k2, k3⟩ := id hs
  obtain ⟨n, hn⟩ : ∃ n : Nat, I h 6 = n := ⟨(I h 6).toNat, by omega⟩
  have hn2 : (I h 6).toNat = n := by omega
  refine zRuns_intro rfl (Nat.le_of_ble_eq_true rfl) (fun X C hR => ?_)
  show zZ g X 0 0 _ 0 [(0, .ref h), (1, .int (iI c))] []
  refine z_iconst C dX0_hasEweAt_0 ?_
  refine z_istore_n C [(2, .int (iI 0)), (0, .ref h), (1, .int (iI c))] dX0_hasEweAt_1 rfl (by decide) rfl ?_
  refine zZ_sub [1, 2, 0] rfl ?_
  refine zZ_cast (σ' := (fun _ : Nat => zst I J q) 0) (L' := (fun e : Nat => [(0, .ref h), (1, .int (iI c)), (2, .int (iI (e : Int)))]) 0) rfl rfl rfl ?_
  refine zfor (n) (fun e => eweAtN (I (h + 3 + 1)) c e = false) (fun _ : Nat => zst I J q) (fun e : Nat => [(0, .ref h), (1, .int (iI c)), (2, .int (iI (e : Int)))]) rfl ?_ ?_
  · intro e hee hpe kke
    have q3 := k3 e (by omega)
    refine z_iload_n C 2 rfl dX0_hasEweAt_2 rfl ?_
    refine z_aload_n C 0 rfl dX0_hasEweAt_3 rfl ?_
    refine y_getI C zCl0 6 flX0_31 rfl (lay_h hh) dX0_hasEweAt_4 ?_
    refine z_icmp_ge C 31 dX0_hasEweAt_7 (by decide) (by omega) (by omega) (fun h7 => ?_) (fun h7 => ?_)
    · omega
    · refine z_aload_n C 0 rfl dX0_hasEweAt_10 rfl ?_
      refine y_getR C zCl0 9 flX0_44 rfl (lay_h hh) (rt_h9 hh) dX0_hasEweAt_11 ?_
      refine y_getR C zCl3 2 flX0_77 rfl (lay_h3 hh) (rt_s (isS_h hh)) dX0_hasEweAt_14 ?_
      refine z_iload_n C 2 rfl dX0_hasEweAt_17 rfl ?_
      refine y_iald C e (by omega) (lay_s1 (isS_h hh)) (by omega) (by decide) dX0_hasEweAt_18 ?_
      refine z_iload_n C 1 rfl dX0_hasEweAt_19 rfl ?_
      refine z_icmp_ne C 25 dX0_hasEweAt_20 (by decide) (by omega) (by omega) (fun h20 => ?_) (fun h20 => ?_)
      · obtain ⟨v1, ev1⟩ : ∃ y : Int, y = (e : Int) + 1 := ⟨_, rfl⟩
        refine z_iinc C 2 v1 [(2, .int (iI v1)), (0, .ref h), (1, .int (iI c))] dX0_hasEweAt_25 rfl ev1.symm (by decide) rfl ?_
        refine z_goto C 2 dX0_hasEweAt_28 (by decide) ?_
        refine zZ_sub [1, 2, 0] rfl ?_
        refine zZ_cast rfl (zLk (zLk (zLc (by omega) rfl))) rfl (kke (by simp [eweAtN, hpe, h20]))
      · refine z_iconst C dX0_hasEweAt_23 ?_
        exact zZ_zret C hR (Nat.le_refl _) (Nat.le_refl _) dX0_hasEweAt_24 rfl (Or.inr rfl) (zIs_I (by rw [hn2, (eweAtN_iff _ _ _).mpr ⟨e, hee, h20⟩]; rfl) rfl)
  · intro hpe
    refine z_iload_n C 2 rfl dX0_hasEweAt_2 rfl ?_
    refine z_aload_n C 0 rfl dX0_hasEweAt_3 rfl ?_
    refine y_getI C zCl0 6 flX0_31 rfl (lay_h hh) dX0_hasEweAt_4 ?_
    refine z_icmp_ge C 31 dX0_hasEweAt_7 (by decide) (by omega) (by omega) (fun h7 => ?_) (fun h7 => ?_)
    · refine z_iconst C dX0_hasEweAt_31 ?_
      exact zZ_zret C hR (Nat.le_refl _) (Nat.le_refl _) dX0_hasEweAt_32 rfl (Or.inl rfl) (zIs_I (by rw [hn2, hpe]; rfl) rfl)
    · omega
