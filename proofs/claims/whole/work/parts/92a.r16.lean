set_option maxHeartbeats 4000000 in
set_option maxRecDepth 100000 in
theorem c_X6_isLetter {g : zG} {I : Nat → Nat → Int} {J : Nat → Nat → Int64} {q : Nat × Nat} {c : Int} (hc : -2147483648 ≤ c ∧ c ≤ 2147483647) : zRun g mX6_isLetter 0 [.int (iI c)] (zst I J q) (some (.int (iI (bI (decide (97 ≤ c ∧ c ≤ 122)))))) (zst I J q) := by
  refine zRuns_intro rfl (Nat.le_of_ble_eq_true rfl) (fun X C hR => ?_)
  show zZ g X 0 0 _ 0 [(0, .int (iI c))] []
  refine z_iload_n C 0 rfl dX6_isLetter_0 rfl ?_
  refine z_bipush C dX6_isLetter_1 (by decide) ?_
  refine z_icmp_lt C 16 dX6_isLetter_3 (by decide) (by omega) (by omega) (fun h3 => ?_) (fun h3 => ?_)
  · refine z_iconst C dX6_isLetter_16 ?_
    exact zZ_zret C hR (Nat.le_refl _) (Nat.le_refl _) dX6_isLetter_17 rfl (Or.inl rfl) (zIs_I (by simp [bI] <;> omega) rfl)
  · refine z_iload_n C 0 rfl dX6_isLetter_6 rfl ?_
    refine z_bipush C dX6_isLetter_7 (by decide) ?_
    refine z_icmp_gt C 16 dX6_isLetter_9 (by decide) (by omega) (by omega) (fun h9 => ?_) (fun h9 => ?_)
    · refine z_iconst C dX6_isLetter_16 ?_
      exact zZ_zret C hR (Nat.le_refl _) (Nat.le_refl _) dX6_isLetter_17 rfl (Or.inl rfl) (zIs_I (by simp [bI] <;> omega) rfl)
    · refine z_iconst C dX6_isLetter_12 ?_
      refine z_goto C 17 dX6_isLetter_13 (by decide) ?_
      exact zZ_zret C hR (Nat.le_refl _) (Nat.le_refl _) dX6_isLetter_17 rfl (Or.inr rfl) (zIs_I (by simp [bI] <;> omega) rfl)
set_option maxHeartbeats 4000000 in
set_option maxRecDepth 100000 in
theorem c_X6_isDigit {g : zG} {I : Nat → Nat → Int} {J : Nat → Nat → Int64} {q : Nat × Nat} {c : Int} (hc : -2147483648 ≤ c ∧ c ≤ 2147483647) : zRun g mX6_isDigit 0 [.int (iI c)] (zst I J q) (some (.int (iI (bI (decide (48 ≤ c ∧ c ≤ 57)))))) (zst I J q) := by
  refine zRuns_intro rfl (Nat.le_of_ble_eq_true rfl) (fun X C hR => ?_)
  show zZ g X 0 0 _ 0 [(0, .int (iI c))] []
  refine z_iload_n C 0 rfl dX6_isDigit_0 rfl ?_
  refine z_bipush C dX6_isDigit_1 (by decide) ?_
  refine z_icmp_lt C 16 dX6_isDigit_3 (by decide) (by omega) (by omega) (fun h3 => ?_) (fun h3 => ?_)
  · refine z_iconst C dX6_isDigit_16 ?_
    exact zZ_zret C hR (Nat.le_refl _) (Nat.le_refl _) dX6_isDigit_17 rfl (Or.inl rfl) (zIs_I (by simp [bI] <;> omega) rfl)
  · refine z_iload_n C 0 rfl dX6_isDigit_6 rfl ?_
    refine z_bipush C dX6_isDigit_7 (by decide) ?_
    refine z_icmp_gt C 16 dX6_isDigit_9 (by decide) (by omega) (by omega) (fun h9 => ?_) (fun h9 => ?_)
    · refine z_iconst C dX6_isDigit_16 ?_
      exact zZ_zret C hR (Nat.le_refl _) (Nat.le_refl _) dX6_isDigit_17 rfl (Or.inl rfl) (zIs_I (by simp [bI] <;> omega) rfl)
    · refine z_iconst C dX6_isDigit_12 ?_
      refine z_goto C 17 dX6_isDigit_13 (by decide) ?_
      exact zZ_zret C hR (Nat.le_refl _) (Nat.le_refl _) dX6_isDigit_17 rfl (Or.inr rfl) (zIs_I (by simp [bI] <;> omega) rfl)
