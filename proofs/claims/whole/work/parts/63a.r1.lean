set_option maxHeartbeats 4000000 in
set_option maxRecDepth 100000 in
theorem c_X6_within {g : zG} {I : Nat → Nat → Int} {J : Nat → Nat → Int64} {q : Nat × Nat} {v a b : Int} (hv : -2147483648 ≤ v ∧ v ≤ 2147483647) (ha : -2147483648 ≤ a ∧ a ≤ 2147483647) (hb : -2147483648 ≤ b ∧ b ≤ 2147483647) : zRun g mX6_within 0 [.int (iI v), .int (iI a), .int (iI b)] (zst I J q) (some (.int (iI (bI (decide (a ≤ v ∧ v ≤ b)))))) (zst I J q) := by
  refine zRuns_intro rfl (Nat.le_of_ble_eq_true rfl) (fun X C hR => ?_)
  show zZ g X 0 0 _ 0 [(0, .int (iI v)), (1, .int (iI a)), (2, .int (iI b))] []
  refine z_iload_n C 0 rfl dX6_within_0 rfl ?_
  refine z_iload_n C 1 rfl dX6_within_1 rfl ?_
  refine z_icmp_lt C 14 dX6_within_2 (by decide) (by omega) (by omega) (fun h2 => ?_) (fun h2 => ?_)
  · refine z_iconst C dX6_within_14 ?_
    exact zZ_zret C hR (Nat.le_refl _) (Nat.le_refl _) dX6_within_15 rfl (Or.inl rfl) (zIs_I (by simp [bI] <;> omega) rfl)
  · refine z_iload_n C 0 rfl dX6_within_5 rfl ?_
    refine z_iload_n C 2 rfl dX6_within_6 rfl ?_
    refine z_icmp_gt C 14 dX6_within_7 (by decide) (by omega) (by omega) (fun h7 => ?_) (fun h7 => ?_)
    · refine z_iconst C dX6_within_14 ?_
      exact zZ_zret C hR (Nat.le_refl _) (Nat.le_refl _) dX6_within_15 rfl (Or.inl rfl) (zIs_I (by simp [bI] <;> omega) rfl)
    · refine z_iconst C dX6_within_10 ?_
      refine z_goto C 15 dX6_within_11 (by decide) ?_
      exact zZ_zret C hR (Nat.le_refl _) (Nat.le_refl _) dX6_within_15 rfl (Or.inr rfl) (zIs_I (by simp [bI] <;> omega) rfl)
set_option maxHeartbeats 4000000 in
set_option maxRecDepth 100000 in
theorem c_X6_isShelf {g : zG} {I : Nat → Nat → Int} {J : Nat → Nat → Int64} {q : Nat × Nat} {s : Int} (hs : -2147483648 ≤ s ∧ s ≤ 2147483647) : zRun g mX6_isShelf 1 [.int (iI s)] (zst I J q) (some (.int (iI (bI (decide (0 ≤ s ∧ s < 8)))))) (zst I J q) := by
  refine zRuns_intro rfl (Nat.le_of_ble_eq_true rfl) (fun X C hR => ?_)
  show zZ g X 0 0 _ 0 [(0, .int (iI s))] []
  refine z_iload_n C 0 rfl dX6_isShelf_0 rfl ?_
  refine z_iconst C dX6_isShelf_1 ?_
  refine z_bipush C dX6_isShelf_2 (by decide) ?_
  refine y_callS3 C oX6_within sX6_within lkX6_75 (c_X6_within (by first | assumption | omega) (by first | assumption | omega) (by first | assumption | omega)) (by decide) (Nat.le_refl _) (Nat.le_refl _) (Nat.le_of_ble_eq_true rfl) dX6_isShelf_4 ?_
  exact zZ_zret C hR (Nat.le_refl _) (Nat.le_refl _) dX6_isShelf_7 rfl (by rcases bI_01 _ with h | h <;> rw [h] <;> decide) (zIs_I (bI_d (by omega)) rfl)
set_option maxHeartbeats 4000000 in
set_option maxRecDepth 100000 in
theorem c_X6_isEwe {g : zG} {I : Nat → Nat → Int} {J : Nat → Nat → Int64} {q : Nat × Nat} {c : Int} (hgr : gR I) (hc : -2147483648 ≤ c ∧ c ≤ 2147483647) : zRun g mX6_isEwe 1 [.ref 58, .int (iI c)] (zst I J q) (some (.int (iI (bI (decide (0 ≤ c ∧ c < I 58 5)))))) (zst I J q) := by
  obtain ⟨b1, b2, b3, b4, b5, b6, b7⟩ := id hgr
  refine zRuns_intro rfl (Nat.le_of_ble_eq_true rfl) (fun X C hR => ?_)
  show zZ g X 0 0 _ 0 [(0, .ref 58), (1, .int (iI c))] []
  refine z_iload_n C 1 rfl dX6_isEwe_0 rfl ?_
  refine z_iconst C dX6_isEwe_1 ?_
  refine z_aload_n C 0 rfl dX6_isEwe_2 rfl ?_
  refine y_getI C zCl6 5 flX6_72 rfl rfl dX6_isEwe_3 ?_
  refine z_iconst C dX6_isEwe_6 ?_
  refine z_isub C dX6_isEwe_7 ?_
  refine y_callS3 C oX6_within sX6_within lkX6_75 (c_X6_within (by first | assumption | omega) (by first | assumption | omega) (by first | assumption | omega)) (by decide) (Nat.le_refl _) (Nat.le_refl _) (Nat.le_of_ble_eq_true rfl) dX6_isEwe_8 ?_
  exact zZ_zret C hR (Nat.le_refl _) (Nat.le_refl _) dX6_isEwe_11 rfl (by rcases bI_01 _ with h | h <;> rw [h] <;> decide) (zIs_I (bI_d (by omega)) rfl)
set_option maxHeartbeats 4000000 in
set_option maxRecDepth 100000 in
theorem c_X6_isRow {g : zG} {I : Nat → Nat → Int} {J : Nat → Nat → Int64} {q : Nat × Nat} {s : Int} (hrl : gRL I) (hs : 0 ≤ s ∧ s < 8) : zRun g mX6_isRow 1 [.ref 58, .int (iI s)] (zst I J q) (some (.int (iI (bI (decide (0 ≤ I 64 s.toNat ∧ I 64 s.toNat < 5)))))) (zst I J q) := by
  have hls := hrl s.toNat (by omega)
  refine zRuns_intro rfl (Nat.le_of_ble_eq_true rfl) (fun X C hR => ?_)
  show zZ g X 0 0 _ 0 [(0, .ref 58), (1, .int (iI s))] []
  refine z_aload_n C 0 rfl dX6_isRow_0 rfl ?_
  refine y_getR C zCl6 18 flX6_26 rfl rfl rfl dX6_isRow_1 ?_
  refine z_iload_n C 1 rfl dX6_isRow_4 rfl ?_
  refine y_iald C s.toNat (by omega) rfl (by omega) (by decide) dX6_isRow_5 ?_
  refine z_iconst C dX6_isRow_6 ?_
  refine z_iconst C dX6_isRow_7 ?_
  refine y_callS3 C oX6_within sX6_within lkX6_75 (c_X6_within (by first | assumption | omega) (by first | assumption | omega) (by first | assumption | omega)) (by decide) (Nat.le_refl _) (Nat.le_refl _) (Nat.le_of_ble_eq_true rfl) dX6_isRow_8 ?_
  exact zZ_zret C hR (Nat.le_refl _) (Nat.le_refl _) dX6_isRow_11 rfl (by rcases bI_01 _ with h | h <;> rw [h] <;> decide) (zIs_I (bI_d (by omega)) rfl)
set_option maxHeartbeats 4000000 in
set_option maxRecDepth 100000 in
theorem c_X6_noRow {g : zG} {I : Nat → Nat → Int} {J : Nat → Nat → Int64} {q : Nat × Nat} {s : Int} (hrl : gRL I) (hs : 0 ≤ s ∧ s < 8) : zRun g mX6_noRow 0 [.ref 58, .int (iI s)] (zst I J q) (some (.int (iI (noRN I s.toNat)))) (zst I J q) := by
  have hls := hrl s.toNat (by omega)
  refine zRuns_intro rfl (Nat.le_of_ble_eq_true rfl) (fun X C hR => ?_)
  show zZ g X 0 0 _ 0 [(0, .ref 58), (1, .int (iI s))] []
  refine z_aload_n C 0 rfl dX6_noRow_0 rfl ?_
  refine y_getR C zCl6 18 flX6_26 rfl rfl rfl dX6_noRow_1 ?_
  refine z_iload_n C 1 rfl dX6_noRow_4 rfl ?_
  refine y_iald C s.toNat (by omega) rfl (by omega) (by decide) dX6_noRow_5 ?_
  refine z_bipush C dX6_noRow_6 (by decide) ?_
  refine z_icmp_lt C 16 dX6_noRow_8 (by decide) (by omega) (by omega) (fun h8 => ?_) (fun h8 => ?_)
  · refine z_aload_n C 0 rfl dX6_noRow_16 rfl ?_
    refine y_getR C zCl6 18 flX6_26 rfl rfl rfl dX6_noRow_17 ?_
    refine z_iload_n C 1 rfl dX6_noRow_20 rfl ?_
    refine y_iald C s.toNat (by omega) rfl (by omega) (by decide) dX6_noRow_21 ?_
    refine z_if_ge C 30 dX6_noRow_22 (by decide) (by omega) (fun h22 => ?_) (fun h22 => ?_)
    · refine z_iconst C dX6_noRow_30 ?_
      exact zZ_iret C hR (Nat.le_refl _) (Nat.le_refl _) dX6_noRow_31 rfl (zIs_I (by unfold noRN; (repeat' split) <;> omega) rfl)
    · refine z_bipush C dX6_noRow_25 (by decide) ?_
      refine z_goto C 31 dX6_noRow_27 (by decide) ?_
      exact zZ_iret C hR (Nat.le_refl _) (Nat.le_refl _) dX6_noRow_31 rfl (zIs_I (by unfold noRN; (repeat' split) <;> omega) rfl)
  · refine z_bipush C dX6_noRow_11 (by decide) ?_
    refine z_goto C 31 dX6_noRow_13 (by decide) ?_
    exact zZ_iret C hR (Nat.le_refl _) (Nat.le_refl _) dX6_noRow_31 rfl (zIs_I (by unfold noRN; (repeat' split) <;> omega) rfl)
set_option maxHeartbeats 4000000 in
set_option maxRecDepth 100000 in
theorem c_X6_no {g : zG} {I : Nat → Nat → Int} {J : Nat → Nat → Int64} {q : Nat × Nat} {x : Int} (hx : -6 ≤ x ∧ x ≤ -2) : zRun g mX6_no 0 [.ref 58, .int (iI x)] (zst I J q) (some (.int (iI (x)))) (zst (refR I x) J q) := by
  refine zRuns_intro rfl (Nat.le_of_ble_eq_true rfl) (fun X C hR => ?_)
  show zZ g X 0 0 _ 0 [(0, .ref 58), (1, .int (iI x))] []
  refine z_aload_n C 0 rfl dX6_no_0 rfl ?_
  refine y_getR C zCl6 21 flX6_36 rfl rfl rfl dX6_no_1 ?_
  refine z_iload_n C 1 rfl dX6_no_4 rfl ?_
  refine z_ineg C dX6_no_5 ?_
  refine z_dup2 C dX6_no_6 rfl rfl ?_
  refine y_iald C (-x).toNat (by omega) rfl (by omega) (by decide) dX6_no_7 ?_
  refine z_iconst C dX6_no_8 ?_
  refine z_iadd C dX6_no_9 ?_
  refine y_iast C (-x).toNat (by omega) rfl (by omega) (by decide) dX6_no_10 ?_
  refine z_iload_n C 1 rfl dX6_no_11 rfl ?_
  exact zZ_iret C hR (Nat.le_refl _) (Nat.le_refl _) dX6_no_12 rfl (zIs_I rfl rfl)
set_option maxHeartbeats 4000000 in
set_option maxRecDepth 100000 in
theorem c_X6_isCell {g : zG} {I : Nat → Nat → Int} {J : Nat → Nat → Int64} {q : Nat × Nat} {x : Int64} (hgr : gR I) : zRun g mX6_isCell 0 [.ref 58, .long x] (zst I J q) (some (.int (iI (bI (isCellN (I 58 0) x.toInt))))) (zst I J q) := by
  obtain ⟨b1, b2, b3, b4, b5, b6, b7⟩ := id hgr
  have hn64 : (iI (I 58 0)).toInt64.toInt = I 58 0 := i2l_toInt (by omega)
  refine zRuns_intro rfl (Nat.le_of_ble_eq_true rfl) (fun X C hR => ?_)
  show zZ g X 0 0 _ 0 [(0, .ref 58), (1, .long x)] []
  refine z_lload_n C 1 rfl dX6_isCell_0 rfl ?_
  refine z_lconst C 0 dX6_isCell_1 rfl ?_
  refine z_lcmp_lt C 38 dX6_isCell_2 dX6_isCell_3 (by decide) (fun h2 => ?_) (fun h2 => ?_)
  · refine z_iconst C dX6_isCell_38 ?_
    exact zZ_zret C hR (Nat.le_refl _) (Nat.le_refl _) dX6_isCell_39 rfl (Or.inl rfl) (zIs_I (by rw [i64lt] at h2; have h2 : x.toInt < 0 := h2; rw [isCellL b1, decide_eq_false (by omega)]; rfl) rfl)
  · refine z_lload_n C 1 rfl dX6_isCell_6 rfl ?_
    refine z_ldc2 C 10 dX6_isCell_7 kcX6_70 ?_
    refine z_ldiv C dX6_isCell_10 (by decide) ?_
    refine z_aload_n C 0 rfl dX6_isCell_11 rfl ?_
    refine y_getI C zCl6 0 flX6_57 rfl rfl dX6_isCell_12 ?_
    refine z_i2l C (iI (I 58 0)).toInt64 dX6_isCell_15 rfl ?_
    refine z_lcmp_ge C 38 dX6_isCell_16 dX6_isCell_17 (by decide) (fun h16 => ?_) (fun h16 => ?_)
    · refine z_iconst C dX6_isCell_38 ?_
      exact zZ_zret C hR (Nat.le_refl _) (Nat.le_refl _) dX6_isCell_39 rfl (Or.inl rfl) (zIs_I (by rw [i64lt] at h2; have h2 : ¬ x.toInt < 0 := h2; have hx := i64_10 (x := x) (by omega); rw [i64le, hn64, hx.1] at h16; rw [isCellL b1, decide_eq_false (by omega)]; rfl) rfl)
    · refine z_lload_n C 1 rfl dX6_isCell_20 rfl ?_
      refine z_ldc2 C 10 dX6_isCell_21 kcX6_70 ?_
      refine z_lrem C dX6_isCell_24 (by decide) ?_
      refine z_aload_n C 0 rfl dX6_isCell_25 rfl ?_
      refine y_getI C zCl6 0 flX6_57 rfl rfl dX6_isCell_26 ?_
      refine z_i2l C (iI (I 58 0)).toInt64 dX6_isCell_29 rfl ?_
      refine z_lcmp_ge C 38 dX6_isCell_30 dX6_isCell_31 (by decide) (fun h30 => ?_) (fun h30 => ?_)
      · refine z_iconst C dX6_isCell_38 ?_
        exact zZ_zret C hR (Nat.le_refl _) (Nat.le_refl _) dX6_isCell_39 rfl (Or.inl rfl) (zIs_I (by rw [i64lt] at h2; have h2 : ¬ x.toInt < 0 := h2; have hx := i64_10 (x := x) (by omega); rw [i64le, hn64, hx.1] at h16; rw [i64le, hn64, hx.2] at h30; rw [isCellL b1, decide_eq_false (by omega)]; rfl) rfl)
      · refine z_iconst C dX6_isCell_34 ?_
        refine z_goto C 39 dX6_isCell_35 (by decide) ?_
        exact zZ_zret C hR (Nat.le_refl _) (Nat.le_refl _) dX6_isCell_39 rfl (Or.inr rfl) (zIs_I (by rw [i64lt] at h2; have h2 : ¬ x.toInt < 0 := h2; have hx := i64_10 (x := x) (by omega); rw [i64le, hn64, hx.1] at h16; rw [i64le, hn64, hx.2] at h30; rw [isCellL b1, decide_eq_true (by omega)]; rfl) rfl)
set_option maxHeartbeats 4000000 in
set_option maxRecDepth 100000 in
theorem c_X6_steps {g : zG} {I : Nat → Nat → Int} {J : Nat → Nat → Int64} {q : Nat × Nat} {c e : Int} (hc : 0 ≤ c ∧ c ≤ 99) (he : 0 ≤ e ∧ e ≤ 99) : zRun g mX6_steps 1 [.int (iI c), .int (iI e)] (zst I J q) (some (.int (iI (stp c e)))) (zst I J q) := by
  refine zRuns_intro rfl (Nat.le_of_ble_eq_true rfl) (fun X C hR => ?_)
  show zZ g X 0 0 _ 0 [(0, .int (iI c)), (1, .int (iI e))] []
  refine z_iload_n C 0 rfl dX6_steps_0 rfl ?_
  refine z_bipush C dX6_steps_1 (by decide) ?_
  refine z_idiv C dX6_steps_3 (by omega) (by omega) ?_
  refine z_iload_n C 1 rfl dX6_steps_4 rfl ?_
  refine z_bipush C dX6_steps_5 (by decide) ?_
  refine z_idiv C dX6_steps_7 (by omega) (by omega) ?_
  refine z_isub C dX6_steps_8 ?_
  refine z_mabs C lkX6_114 (by omega) (by decide) (Nat.le_refl _) (Nat.le_refl _) (Nat.le_of_ble_eq_true rfl) dX6_steps_9 ?_
  refine z_iload_n C 0 rfl dX6_steps_12 rfl ?_
  refine z_bipush C dX6_steps_13 (by decide) ?_
  refine z_irem C dX6_steps_15 (by omega) (by omega) ?_
  refine z_iload_n C 1 rfl dX6_steps_16 rfl ?_
  refine z_bipush C dX6_steps_17 (by decide) ?_
  refine z_irem C dX6_steps_19 (by omega) (by omega) ?_
  refine z_isub C dX6_steps_20 ?_
  refine z_mabs C lkX6_114 (by omega) (by decide) (Nat.le_refl _) (Nat.le_refl _) (Nat.le_of_ble_eq_true rfl) dX6_steps_21 ?_
  refine z_iadd C dX6_steps_24 ?_
  exact zZ_iret C hR (Nat.le_refl _) (Nat.le_refl _) dX6_steps_25 rfl (zIs_I rfl rfl)
