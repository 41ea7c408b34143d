set_option maxHeartbeats 4000000 in
set_option maxRecDepth 100000 in
theorem c_J7_fill_d0a16 {g : zG} {I : Nat → Nat → Int} {J : Nat → Nat → Int64} {q : Nat × Nat} {a m : Nat} {v : Int64} (ha : LAY[a]? = some (8, m)) (hm : m < 1000) : zRun g mJ7_fill_d0a16 0 [.ref a, .long v] (zst I J q) (none) (zst I (zfl J a m v) q) := by
  refine zRuns_intro rfl (Nat.le_of_ble_eq_true rfl) (fun X C hR => ?_)
  show zZ g X 0 0 _ 0 [(0, .ref a), (1, .long v)] []
  refine z_iconst C dJ7_fill_d0a16_0 ?_
  refine z_istore_n C [(3, .int (iI 0)), (0, .ref a), (1, .long v)] dJ7_fill_d0a16_1 rfl (by decide) rfl ?_
  refine z_aload_n C 1 rfl dJ7_fill_d0a16_2 rfl ?_
  refine z_alen C 8 1 ha zE_8 rfl rfl dJ7_fill_d0a16_3 ?_
  refine z_istore C [(4, .int (iI ((m : Int)))), (3, .int (iI 0)), (0, .ref a), (1, .long v)] dJ7_fill_d0a16_4 (by decide) rfl ?_
  refine zZ_sub [2, 3, 0, 1] rfl ?_
  refine zZ_cast (σ' := (fun e : Nat => zst I (zfl J a e v) q) 0) (L' := (fun e : Nat => [(0, .ref a), (1, .long v), (4, .int (iI ((m : Int)))), (3, .int (iI (e : Int)))]) 0) (by simp only [zfl_0]) rfl rfl ?_
  refine zfor (m) (fun _ => True) (fun e : Nat => zst I (zfl J a e v) q) (fun e : Nat => [(0, .ref a), (1, .long v), (4, .int (iI ((m : Int)))), (3, .int (iI (e : Int)))]) trivial ?_ ?_
  · intro e hee hpe kke
    refine z_iload_n C 3 rfl dJ7_fill_d0a16_6 rfl ?_
    refine z_iload C 2 rfl dJ7_fill_d0a16_7 ?_
    refine z_icmp_ge C 22 dJ7_fill_d0a16_9 (by decide) (by omega) (by omega) (fun h9 => ?_) (fun h9 => ?_)
    · omega
    · refine z_aload_n C 0 rfl dJ7_fill_d0a16_12 rfl ?_
      refine z_iload_n C 3 rfl dJ7_fill_d0a16_13 rfl ?_
      refine z_lload_n C 1 rfl dJ7_fill_d0a16_14 rfl ?_
      refine y_last C e (by omega) ha (by omega) (by omega) dJ7_fill_d0a16_15 ?_
      obtain ⟨v1, ev1⟩ : ∃ y : Int, y = (e : Int) + 1 := ⟨_, rfl⟩
      refine z_iinc C 3 v1 [(3, .int (iI v1)), (0, .ref a), (1, .long v), (4, .int (iI ((m : Int))))] dJ7_fill_d0a16_16 rfl ev1.symm (by decide) rfl ?_
      refine z_goto C 6 dJ7_fill_d0a16_19 (by decide) ?_
      refine zZ_sub [1, 2, 3, 0] rfl ?_
      refine zZ_cast (by rw [zfl_s]) (zLk (zLk (zLk (zLc (by omega) rfl)))) rfl (kke trivial)
  · intro hpe
    refine z_iload_n C 3 rfl dJ7_fill_d0a16_6 rfl ?_
    refine z_iload C 2 rfl dJ7_fill_d0a16_7 ?_
    refine z_icmp_ge C 22 dJ7_fill_d0a16_9 (by decide) (by omega) (by omega) (fun h9 => ?_) (fun h9 => ?_)
    · exact zZ_vret C hR (Nat.le_refl _) (Nat.le_refl _) dJ7_fill_d0a16_22 rfl (zIs_V rfl)
    · omega
set_option maxHeartbeats 4000000 in
set_option maxRecDepth 100000 in
theorem c_J7_fill_53178 {g : zG} {I : Nat → Nat → Int} {J : Nat → Nat → Int64} {q : Nat × Nat} {a m : Nat} {v : Int} (ha : LAY[a]? = some (7, m)) (hm : m < 1000) : zRun g mJ7_fill_53178 0 [.ref a, .int (iI v)] (zst I J q) (none) (zst (zfl I a m v) J q) := by
  refine zRuns_intro rfl (Nat.le_of_ble_eq_true rfl) (fun X C hR => ?_)
  show zZ g X 0 0 _ 0 [(0, .ref a), (1, .int (iI v))] []
  refine z_iconst C dJ7_fill_53178_0 ?_
  refine z_istore_n C [(2, .int (iI 0)), (0, .ref a), (1, .int (iI v))] dJ7_fill_53178_1 rfl (by decide) rfl ?_
  refine z_aload_n C 1 rfl dJ7_fill_53178_2 rfl ?_
  refine z_alen C 7 0 ha zE_7 rfl rfl dJ7_fill_53178_3 ?_
  refine z_istore_n C [(3, .int (iI ((m : Int)))), (2, .int (iI 0)), (0, .ref a), (1, .int (iI v))] dJ7_fill_53178_4 rfl (by decide) rfl ?_
  refine zZ_sub [2, 3, 0, 1] rfl ?_
  refine zZ_cast (σ' := (fun e : Nat => zst (zfl I a e v) J q) 0) (L' := (fun e : Nat => [(0, .ref a), (1, .int (iI v)), (3, .int (iI ((m : Int)))), (2, .int (iI (e : Int)))]) 0) (by simp only [zfl_0]) rfl rfl ?_
  refine zfor (m) (fun _ => True) (fun e : Nat => zst (zfl I a e v) J q) (fun e : Nat => [(0, .ref a), (1, .int (iI v)), (3, .int (iI ((m : Int)))), (2, .int (iI (e : Int)))]) trivial ?_ ?_
  · intro e hee hpe kke
    refine z_iload_n C 3 rfl dJ7_fill_53178_5 rfl ?_
    refine z_iload_n C 2 rfl dJ7_fill_53178_6 rfl ?_
    refine z_icmp_ge C 20 dJ7_fill_53178_7 (by decide) (by omega) (by omega) (fun h7 => ?_) (fun h7 => ?_)
    · omega
    · refine z_aload_n C 0 rfl dJ7_fill_53178_10 rfl ?_
      refine z_iload_n C 3 rfl dJ7_fill_53178_11 rfl ?_
      refine z_iload_n C 1 rfl dJ7_fill_53178_12 rfl ?_
      refine y_iast C e (by omega) ha (by omega) (by omega) dJ7_fill_53178_13 ?_
      obtain ⟨v1, ev1⟩ : ∃ y : Int, y = (e : Int) + 1 := ⟨_, rfl⟩
      refine z_iinc C 3 v1 [(2, .int (iI v1)), (0, .ref a), (1, .int (iI v)), (3, .int (iI ((m : Int))))] dJ7_fill_53178_14 rfl ev1.symm (by decide) rfl ?_
      refine z_goto C 5 dJ7_fill_53178_17 (by decide) ?_
      refine zZ_sub [1, 2, 3, 0] rfl ?_
      refine zZ_cast (by rw [zfl_s]) (zLk (zLk (zLk (zLc (by omega) rfl)))) rfl (kke trivial)
  · intro hpe
    refine z_iload_n C 3 rfl dJ7_fill_53178_5 rfl ?_
    refine z_iload_n C 2 rfl dJ7_fill_53178_6 rfl ?_
    refine z_icmp_ge C 20 dJ7_fill_53178_7 (by decide) (by omega) (by omega) (fun h7 => ?_) (fun h7 => ?_)
    · exact zZ_vret C hR (Nat.le_refl _) (Nat.le_refl _) dJ7_fill_53178_20 rfl (zIs_V rfl)
    · omega
set_option maxHeartbeats 4000000 in
set_option maxRecDepth 100000 in
theorem c_X2_hasEwe {g : zG} {I : Nat → Nat → Int} {J : Nat → Nat → Int64} {q : Nat × Nat} {s : Nat} (hs : isL s) (hr : -1 ≤ I s 0 ∧ I s 0 ≤ 14) : zRun g mX2_hasEwe 0 [.ref s] (zst I J q) (some (.int (iI (bI (decide (10 ≤ I s 0)))))) (zst I J q) := by
  refine zRuns_intro rfl (Nat.le_of_ble_eq_true rfl) (fun X C hR => ?_)
  show zZ g X 0 0 _ 0 [(0, .ref s)] []
  refine z_aload_n C 0 rfl dX2_hasEwe_0 rfl ?_
  refine y_getI C zCl2 0 flX2_9 rfl (lay_l hs) dX2_hasEwe_1 ?_
  refine z_bipush C dX2_hasEwe_4 (by decide) ?_
  refine z_icmp_lt C 13 dX2_hasEwe_6 (by decide) (by omega) (by omega) (fun h6 => ?_) (fun h6 => ?_)
  · refine z_iconst C dX2_hasEwe_13 ?_
    exact zZ_zret C hR (Nat.le_refl _) (Nat.le_refl _) dX2_hasEwe_14 rfl (Or.inl rfl) (zIs_I (by simp [bI] <;> omega) rfl)
  · refine z_iconst C dX2_hasEwe_9 ?_
    refine z_goto C 14 dX2_hasEwe_10 (by decide) ?_
    exact zZ_zret C hR (Nat.le_refl _) (Nat.le_refl _) dX2_hasEwe_14 rfl (Or.inr rfl) (zIs_I (by simp [bI] <;> omega) rfl)
set_option maxHeartbeats 4000000 in
set_option maxRecDepth 100000 in
theorem c_X2_hasRow {g : zG} {I : Nat → Nat → Int} {J : Nat → Nat → Int64} {q : Nat × Nat} {s : Nat} (hs : isL s) (hr : -1 ≤ I s 0 ∧ I s 0 ≤ 14) : zRun g mX2_hasRow 0 [.ref s] (zst I J q) (some (.int (iI (bI (decide (0 ≤ I s 0 ∧ I s 0 < 5)))))) (zst I J q) := by
  refine zRuns_intro rfl (Nat.le_of_ble_eq_true rfl) (fun X C hR => ?_)
  show zZ g X 0 0 _ 0 [(0, .ref s)] []
  refine z_aload_n C 0 rfl dX2_hasRow_0 rfl ?_
  refine y_getI C zCl2 0 flX2_9 rfl (lay_l hs) dX2_hasRow_1 ?_
  refine z_if_lt C 19 dX2_hasRow_4 (by decide) (by omega) (fun h4 => ?_) (fun h4 => ?_)
  · refine z_iconst C dX2_hasRow_19 ?_
    exact zZ_zret C hR (Nat.le_refl _) (Nat.le_refl _) dX2_hasRow_20 rfl (Or.inl rfl) (zIs_I (by simp [bI] <;> omega) rfl)
  · refine z_aload_n C 0 rfl dX2_hasRow_7 rfl ?_
    refine y_getI C zCl2 0 flX2_9 rfl (lay_l hs) dX2_hasRow_8 ?_
    refine z_iconst C dX2_hasRow_11 ?_
    refine z_icmp_ge C 19 dX2_hasRow_12 (by decide) (by omega) (by omega) (fun h12 => ?_) (fun h12 => ?_)
    · refine z_iconst C dX2_hasRow_19 ?_
      exact zZ_zret C hR (Nat.le_refl _) (Nat.le_refl _) dX2_hasRow_20 rfl (Or.inl rfl) (zIs_I (by simp [bI] <;> omega) rfl)
    · refine z_iconst C dX2_hasRow_15 ?_
      refine z_goto C 20 dX2_hasRow_16 (by decide) ?_
      exact zZ_zret C hR (Nat.le_refl _) (Nat.le_refl _) dX2_hasRow_20 rfl (Or.inr rfl) (zIs_I (by simp [bI] <;> omega) rfl)
set_option maxHeartbeats 4000000 in
set_option maxRecDepth 100000 in
theorem c_X2_takeRow {g : zG} {I : Nat → Nat → Int} {J : Nat → Nat → Int64} {q : Nat × Nat} {s : Nat} {so n : Int} (hs : isL s) : zRun g mX2_takeRow 1 [.ref s, .int (iI so), .int (iI n)] (zst I J q) (none) (zst (zu (zu I s 0 so) s 1 n) (zfl J (s + 1) 40 0) q) := by
  refine zRuns_intro rfl (Nat.le_of_ble_eq_true rfl) (fun X C hR => ?_)
  show zZ g X 0 0 _ 0 [(0, .ref s), (1, .int (iI so)), (2, .int (iI n))] []
  refine z_aload_n C 0 rfl dX2_takeRow_0 rfl ?_
  refine z_iload_n C 1 rfl dX2_takeRow_1 rfl ?_
  refine y_putI C zCl2 0 flX2_9 rfl rfl rfl (lay_l hs) dX2_takeRow_2 ?_
  refine z_aload_n C 0 rfl dX2_takeRow_5 rfl ?_
  refine z_iload_n C 2 rfl dX2_takeRow_6 rfl ?_
  refine y_putI C zCl2 1 flX2_15 rfl rfl rfl (lay_l hs) dX2_takeRow_7 ?_
  refine z_aload_n C 0 rfl dX2_takeRow_10 rfl ?_
  refine y_getR C zCl2 2 flX2_18 rfl (lay_l hs) (rt_l hs) dX2_takeRow_11 ?_
  refine z_lconst C 0 dX2_takeRow_14 rfl ?_
  refine y_callS2 C oJ7_fill_d0a16 sJ7_fill_d0a16 lkX2_22 (c_J7_fill_d0a16 (lay_l1 hs) (by decide)) (by decide) (Nat.le_refl _) (Nat.le_refl _) (Nat.le_of_ble_eq_true rfl) dX2_takeRow_15 ?_
  exact zZ_vret C hR (Nat.le_refl _) (Nat.le_refl _) dX2_takeRow_18 rfl (zIs_V rfl)
set_option maxHeartbeats 4000000 in
set_option maxRecDepth 100000 in
theorem c_X2_hasPart {g : zG} {I : Nat → Nat → Int} {J : Nat → Nat → Int64} {q : Nat × Nat} {s : Nat} {i n : Int} (hs : isL s) (hr : 0 ≤ I s 1 ∧ I s 1 ≤ 40) (hi : -2147483648 ≤ i ∧ i ≤ 2147483647) (hn : -2147483648 ≤ n ∧ n ≤ 2147483647) : zRun g mX2_hasPart 0 [.ref s, .int (iI i), .int (iI n)] (zst I J q) (some (.int (iI (bI (decide ((0 ≤ n ∧ n ≤ I s 1) ∧ 0 ≤ i ∧ i ≤ I s 1 - n)))))) (zst I J q) := by
  refine zRuns_intro rfl (Nat.le_of_ble_eq_true rfl) (fun X C hR => ?_)
  show zZ g X 0 0 _ 0 [(0, .ref s), (1, .int (iI i)), (2, .int (iI n))] []
  refine z_iload_n C 2 rfl dX2_hasPart_0 rfl ?_
  refine z_if_lt C 30 dX2_hasPart_1 (by decide) (by omega) (fun h1 => ?_) (fun h1 => ?_)
  · refine z_iconst C dX2_hasPart_30 ?_
    exact zZ_zret C hR (Nat.le_refl _) (Nat.le_refl _) dX2_hasPart_31 rfl (Or.inl rfl) (zIs_I (by simp [bI] <;> omega) rfl)
  · refine z_iload_n C 2 rfl dX2_hasPart_4 rfl ?_
    refine z_aload_n C 0 rfl dX2_hasPart_5 rfl ?_
    refine y_getI C zCl2 1 flX2_15 rfl (lay_l hs) dX2_hasPart_6 ?_
    refine z_icmp_gt C 30 dX2_hasPart_9 (by decide) (by omega) (by omega) (fun h9 => ?_) (fun h9 => ?_)
    · refine z_iconst C dX2_hasPart_30 ?_
      exact zZ_zret C hR (Nat.le_refl _) (Nat.le_refl _) dX2_hasPart_31 rfl (Or.inl rfl) (zIs_I (by simp [bI] <;> omega) rfl)
    · refine z_iload_n C 1 rfl dX2_hasPart_12 rfl ?_
      refine z_if_lt C 30 dX2_hasPart_13 (by decide) (by omega) (fun h13 => ?_) (fun h13 => ?_)
      · refine z_iconst C dX2_hasPart_30 ?_
        exact zZ_zret C hR (Nat.le_refl _) (Nat.le_refl _) dX2_hasPart_31 rfl (Or.inl rfl) (zIs_I (by simp [bI] <;> omega) rfl)
      · refine z_iload_n C 1 rfl dX2_hasPart_16 rfl ?_
        refine z_aload_n C 0 rfl dX2_hasPart_17 rfl ?_
        refine y_getI C zCl2 1 flX2_15 rfl (lay_l hs) dX2_hasPart_18 ?_
        refine z_iload_n C 2 rfl dX2_hasPart_21 rfl ?_
        refine z_isub C dX2_hasPart_22 ?_
        refine z_icmp_gt C 30 dX2_hasPart_23 (by decide) (by omega) (by omega) (fun h23 => ?_) (fun h23 => ?_)
        · refine z_iconst C dX2_hasPart_30 ?_
          exact zZ_zret C hR (Nat.le_refl _) (Nat.le_refl _) dX2_hasPart_31 rfl (Or.inl rfl) (zIs_I (by simp [bI] <;> omega) rfl)
        · refine z_iconst C dX2_hasPart_26 ?_
          refine z_goto C 31 dX2_hasPart_27 (by decide) ?_
          exact zZ_zret C hR (Nat.le_refl _) (Nat.le_refl _) dX2_hasPart_31 rfl (Or.inr rfl) (zIs_I (by simp [bI] <;> omega) rfl)
set_option maxHeartbeats 4000000 in
set_option maxRecDepth 100000 in
theorem c_X5_refuse {g : zG} {I : Nat → Nat → Int} {J : Nat → Nat → Int64} {q : Nat × Nat} {x : Int} (hx : -6 ≤ x ∧ x ≤ -2) : zRun g mX5_refuse 0 [.ref 0, .int (iI x)] (zst I J q) (some (.int (iI (x)))) (zst (refI I x) J q) := by
  refine zRuns_intro rfl (Nat.le_of_ble_eq_true rfl) (fun X C hR => ?_)
  show zZ g X 0 0 _ 0 [(0, .ref 0), (1, .int (iI x))] []
  refine z_bipush C dX5_refuse_0 (by decide) ?_
  refine z_iload_n C 1 rfl dX5_refuse_2 rfl ?_
  refine z_isub C dX5_refuse_3 ?_
  refine z_istore_n C [(2, .int (iI ((-2) - x))), (0, .ref 0), (1, .int (iI x))] dX5_refuse_4 rfl (by decide) rfl ?_
  refine z_iload_n C 0 rfl dX5_refuse_5 rfl ?_
  refine z_if_lt C 24 dX5_refuse_6 (by decide) (by omega) (fun h6 => ?_) (fun h6 => ?_)
  · omega
  · refine z_iload_n C 0 rfl dX5_refuse_9 rfl ?_
    refine z_iconst C dX5_refuse_10 ?_
    refine z_icmp_ge C 24 dX5_refuse_11 (by decide) (by omega) (by omega) (fun h11 => ?_) (fun h11 => ?_)
    · omega
    · refine z_aload_n C 1 rfl dX5_refuse_14 rfl ?_
      refine y_getR C zCl5 5 flX5_37 rfl rfl rfl dX5_refuse_15 ?_
      refine z_iload_n C 0 rfl dX5_refuse_18 rfl ?_
      refine z_dup2 C dX5_refuse_19 rfl rfl ?_
      refine y_iald C (-2 - x).toNat (by omega) rfl (by omega) (by decide) dX5_refuse_20 ?_
      refine z_iconst C dX5_refuse_21 ?_
      refine z_iadd C dX5_refuse_22 ?_
      refine y_iast C (-2 - x).toNat (by omega) rfl (by omega) (by decide) dX5_refuse_23 ?_
      refine z_iload_n C 2 rfl dX5_refuse_24 rfl ?_
      exact zZ_iret C hR (Nat.le_refl _) (Nat.le_refl _) dX5_refuse_25 rfl (zIs_I rfl (by rfl))
set_option maxHeartbeats 4000000 in
set_option maxRecDepth 100000 in
theorem c_X5_isCommand {g : zG} {I : Nat → Nat → Int} {J : Nat → Nat → Int64} {q : Nat × Nat} {x : Int64}  : zRun g mX5_isCommand 0 [.long x] (zst I J q) (some (.int (iI (bI (isCmd x))))) (zst I J q) := by
  refine zRuns_intro rfl (Nat.le_of_ble_eq_true rfl) (fun X C hR => ?_)
  show zZ g X 0 0 _ 0 [(0, .long x)] []
  refine z_lload_n C 0 rfl dX5_isCommand_0 rfl ?_
  refine z_lconst C 0 dX5_isCommand_1 rfl ?_
  refine z_lcmp_lt C 18 dX5_isCommand_2 dX5_isCommand_3 (by decide) (fun h2 => ?_) (fun h2 => ?_)
  · refine z_iconst C dX5_isCommand_18 ?_
    exact zZ_zret C hR (Nat.le_refl _) (Nat.le_refl _) dX5_isCommand_19 rfl (Or.inl rfl) (zIs_I (by (try rw [i64lt] at h2); (try rw [i64le] at h2); (try rw [i64lt] at h10); (try rw [i64le] at h10); simp only [show (0 : Int64).toInt = 0 from rfl, show (5 : Int64).toInt = 5 from rfl] at *; simp [bI, isCmd] <;> omega) rfl)
  · refine z_lload_n C 0 rfl dX5_isCommand_6 rfl ?_
    refine z_ldc2 C 5 dX5_isCommand_7 kcX5_347 ?_
    refine z_lcmp_ge C 18 dX5_isCommand_10 dX5_isCommand_11 (by decide) (fun h10 => ?_) (fun h10 => ?_)
    · refine z_iconst C dX5_isCommand_18 ?_
      exact zZ_zret C hR (Nat.le_refl _) (Nat.le_refl _) dX5_isCommand_19 rfl (Or.inl rfl) (zIs_I (by (try rw [i64lt] at h2); (try rw [i64le] at h2); (try rw [i64lt] at h10); (try rw [i64le] at h10); simp only [show (0 : Int64).toInt = 0 from rfl, show (5 : Int64).toInt = 5 from rfl] at *; simp [bI, isCmd] <;> omega) rfl)
    · refine z_iconst C dX5_isCommand_14 ?_
      refine z_goto C 19 dX5_isCommand_15 (by decide) ?_
      exact zZ_zret C hR (Nat.le_refl _) (Nat.le_refl _) dX5_isCommand_19 rfl (Or.inr rfl) (zIs_I (by (try rw [i64lt] at h2); (try rw [i64le] at h2); (try rw [i64lt] at h10); (try rw [i64le] at h10); simp only [show (0 : Int64).toInt = 0 from rfl, show (5 : Int64).toInt = 5 from rfl] at *; simp [bI, isCmd] <;> omega) rfl)
set_option maxHeartbeats 4000000 in
set_option maxRecDepth 100000 in
theorem c_X5_faultOfRow {g : zG} {I : Nat → Nat → Int} {J : Nat → Nat → Int64} {q : Nat × Nat} {s n limit : Int} (hl : gL I) (hs : -2147483648 ≤ s ∧ s ≤ 2147483647) (hn : -2147483648 ≤ n ∧ n ≤ 2147483647) (hlim : 0 ≤ limit ∧ limit ≤ 40) : zRun g mX5_faultOfRow 1 [.ref 0, .int (iI s), .int (iI n), .int (iI limit)] (zst I J q) (some (.int (iI (frowN I s n limit)))) (zst I J q) := by
  refine zRuns_intro rfl (Nat.le_of_ble_eq_true rfl) (fun X C hR => ?_)
  show zZ g X 0 0 _ 0 [(0, .ref 0), (1, .int (iI s)), (2, .int (iI n)), (3, .int (iI limit))] []
  refine z_iload_n C 1 rfl dX5_faultOfRow_0 rfl ?_
  refine y_callS1 C oX5_isShelf sX5_isShelf lkX5_55 (c_X5_isShelf (by first | assumption | omega)) (by decide) (Nat.le_refl _) (Nat.le_refl _) (Nat.le_of_ble_eq_true rfl) dX5_faultOfRow_1 ?_
  refine y_if_eqB C 16 dX5_faultOfRow_4 (by decide) (fun h4 => ?_) (fun h4 => ?_)
  · refine z_bipush C dX5_faultOfRow_16 (by decide) ?_
    exact zZ_iret C hR (Nat.le_refl _) (Nat.le_refl _) dX5_faultOfRow_18 rfl (zIs_I (by (try simp only [decide_eq_true_eq, decide_eq_false_iff_not] at *); unfold frowN; (repeat' split) <;> omega) rfl)
  · have hs8 : 0 ≤ s ∧ s < 8 := by simpa using h4
    have hls := hl s.toNat (by omega)
    refine z_iload_n C 2 rfl dX5_faultOfRow_7 rfl ?_
    refine z_if_lt C 16 dX5_faultOfRow_8 (by decide) (by omega) (fun h8 => ?_) (fun h8 => ?_)
    · refine z_bipush C dX5_faultOfRow_16 (by decide) ?_
      exact zZ_iret C hR (Nat.le_refl _) (Nat.le_refl _) dX5_faultOfRow_18 rfl (zIs_I (by (try simp only [decide_eq_true_eq, decide_eq_false_iff_not] at *); unfold frowN; (repeat' split) <;> omega) rfl)
    · refine z_iload_n C 2 rfl dX5_faultOfRow_11 rfl ?_
      refine z_iload_n C 3 rfl dX5_faultOfRow_12 rfl ?_
      refine z_icmp_le C 19 dX5_faultOfRow_13 (by decide) (by omega) (by omega) (fun h13 => ?_) (fun h13 => ?_)
      · refine z_aload_n C 0 rfl dX5_faultOfRow_19 rfl ?_
        refine y_getR C zCl5 4 flX5_32 rfl rfl rfl dX5_faultOfRow_20 ?_
        refine z_iload_n C 1 rfl dX5_faultOfRow_23 rfl ?_
        refine y_aald C s.toNat 10 (by decide) (by omega) rfl (by omega) (by decide) (rt_18 (by omega)) dX5_faultOfRow_24 ?_
        refine y_callV0 C oX2_hasEwe iX2_hasEwe eX2_hasEwe lkX5_90 (c_X2_hasEwe (isL_of (by omega)) (by first | assumption | omega)) (lay_l (isL_of (by omega))) (by decide) rfl rfl (by decide) (Nat.le_refl _) (Nat.le_refl _) (Nat.le_of_ble_eq_true rfl) dX5_faultOfRow_25 ?_
        refine y_if_eqB C 34 dX5_faultOfRow_28 (by decide) (fun h28 => ?_) (fun h28 => ?_)
        · refine z_aload_n C 0 rfl dX5_faultOfRow_34 rfl ?_
          refine y_getR C zCl5 4 flX5_32 rfl rfl rfl dX5_faultOfRow_35 ?_
          refine z_iload_n C 1 rfl dX5_faultOfRow_38 rfl ?_
          refine y_aald C s.toNat 10 (by decide) (by omega) rfl (by omega) (by decide) (rt_18 (by omega)) dX5_faultOfRow_39 ?_
          refine y_callV0 C oX2_hasRow iX2_hasRow eX2_hasRow lkX5_86 (c_X2_hasRow (isL_of (by omega)) (by first | assumption | omega)) (lay_l (isL_of (by omega))) (by decide) rfl rfl (by decide) (Nat.le_refl _) (Nat.le_refl _) (Nat.le_of_ble_eq_true rfl) dX5_faultOfRow_40 ?_
          refine y_if_neB C 49 dX5_faultOfRow_43 (by decide) (fun h43 => ?_) (fun h43 => ?_)
          · refine z_aload_n C 0 rfl dX5_faultOfRow_49 rfl ?_
            refine y_getR C zCl5 4 flX5_32 rfl rfl rfl dX5_faultOfRow_50 ?_
            refine z_iload_n C 1 rfl dX5_faultOfRow_53 rfl ?_
            refine y_aald C s.toNat 10 (by decide) (by omega) rfl (by omega) (by decide) (rt_18 (by omega)) dX5_faultOfRow_54 ?_
            refine y_getI C zCl2 1 flX5_71 rfl (lay_l (isL_of (by omega))) dX5_faultOfRow_55 ?_
            refine z_iload_n C 2 rfl dX5_faultOfRow_58 rfl ?_
            refine z_icmp_ge C 67 dX5_faultOfRow_59 (by decide) (by omega) (by omega) (fun h59 => ?_) (fun h59 => ?_)
            · refine z_iconst C dX5_faultOfRow_67 ?_
              exact zZ_iret C hR (Nat.le_refl _) (Nat.le_refl _) dX5_faultOfRow_68 rfl (zIs_I (by (try simp only [decide_eq_true_eq, decide_eq_false_iff_not] at *); unfold frowN; (repeat' split) <;> omega) rfl)
            · refine z_bipush C dX5_faultOfRow_62 (by decide) ?_
              refine z_goto C 68 dX5_faultOfRow_64 (by decide) ?_
              exact zZ_iret C hR (Nat.le_refl _) (Nat.le_refl _) dX5_faultOfRow_68 rfl (zIs_I (by (try simp only [decide_eq_true_eq, decide_eq_false_iff_not] at *); unfold frowN; (repeat' split) <;> omega) rfl)
          · refine z_bipush C dX5_faultOfRow_46 (by decide) ?_
            exact zZ_iret C hR (Nat.le_refl _) (Nat.le_refl _) dX5_faultOfRow_48 rfl (zIs_I (by (try simp only [decide_eq_true_eq, decide_eq_false_iff_not] at *); unfold frowN; (repeat' split) <;> omega) rfl)
        · refine z_bipush C dX5_faultOfRow_31 (by decide) ?_
          exact zZ_iret C hR (Nat.le_refl _) (Nat.le_refl _) dX5_faultOfRow_33 rfl (zIs_I (by (try simp only [decide_eq_true_eq, decide_eq_false_iff_not] at *); unfold frowN; (repeat' split) <;> omega) rfl)
      · refine z_bipush C dX5_faultOfRow_16 (by decide) ?_
        exact zZ_iret C hR (Nat.le_refl _) (Nat.le_refl _) dX5_faultOfRow_18 rfl (zIs_I (by (try simp only [decide_eq_true_eq, decide_eq_false_iff_not] at *); unfold frowN; (repeat' split) <;> omega) rfl)
