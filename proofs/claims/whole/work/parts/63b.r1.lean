set_option maxHeartbeats 4000000 in
set_option maxRecDepth 100000 in
theorem c_X6_isEweAt {g : zG} {I : Nat → Nat → Int} {J : Nat → Nat → Int64} {q : Nat × Nat} {c : Int} (hgr : gR I) (hrs : gRS (spR I)) (hc : -2147483648 ≤ c ∧ c ≤ 2147483647) : zRun g mX6_isEweAt 0 [.ref 58, .int (iI c)] (zst I J q) (some (.int (iI (bI (eweAtN (I 62) c (I 58 5).toNat))))) (zst I J q) := by
  obtain ⟨b1, b2, b3, b4, b5, b6, b7⟩ := id hgr
  obtain ⟨k1, k2, k3⟩ := id hrs
  have k1 : gC7 (I 58 3) := k1
  have k2 : 0 ≤ I 58 4 ∧ I 58 4 ≤ 4 := k2
  have k3 : ∀ e, e < 5 → gC7 (I 62 e) := k3
  have k1' := k1.1
  have b2' := b2.1
  obtain ⟨n, hn⟩ : ∃ n : Nat, I 58 5 = n := ⟨(I 58 5).toNat, by omega⟩
  have hn2 : (I 58 5).toNat = n := by omega
  refine zRuns_intro rfl (Nat.le_of_ble_eq_true rfl) (fun X C hR => ?_)
  show zZ g X 0 0 _ 0 [(0, .ref 58), (1, .int (iI c))] []
  refine z_iconst C dX6_isEweAt_0 ?_
  refine z_istore_n C [(2, .int (iI 0)), (0, .ref 58), (1, .int (iI c))] dX6_isEweAt_1 rfl (by decide) rfl ?_
  refine zZ_sub [1, 2, 0] rfl ?_
  refine zZ_cast (σ' := (fun _ : Nat => zst I J q) 0) (L' := (fun e : Nat => [(0, .ref 58), (1, .int (iI c)), (2, .int (iI (e : Int)))]) 0) rfl rfl rfl ?_
  refine zfor (n) (fun e => eweAtN (I 62) c e = false) (fun _ : Nat => zst I J q) (fun e : Nat => [(0, .ref 58), (1, .int (iI c)), (2, .int (iI (e : Int)))]) rfl ?_ ?_
  · intro e hee hpe kke
    have q3 := (k3 e (by omega)).1
    refine z_iload_n C 2 rfl dX6_isEweAt_2 rfl ?_
    refine z_aload_n C 0 rfl dX6_isEweAt_3 rfl ?_
    refine y_getI C zCl6 5 flX6_72 rfl rfl dX6_isEweAt_4 ?_
    refine z_icmp_ge C 28 dX6_isEweAt_7 (by decide) (by omega) (by omega) (fun h7 => ?_) (fun h7 => ?_)
    · omega
    · refine z_aload_n C 0 rfl dX6_isEweAt_10 rfl ?_
      refine y_getR C zCl6 8 flX6_20 rfl rfl rfl dX6_isEweAt_11 ?_
      refine z_iload_n C 2 rfl dX6_isEweAt_14 rfl ?_
      refine y_iald C e (by omega) rfl (by omega) (by decide) dX6_isEweAt_15 ?_
      refine z_iload_n C 1 rfl dX6_isEweAt_16 rfl ?_
      refine z_icmp_ne C 22 dX6_isEweAt_17 (by decide) (by omega) (by omega) (fun h17 => ?_) (fun h17 => ?_)
      · obtain ⟨v1, ev1⟩ : ∃ y : Int, y = (e : Int) + 1 := ⟨_, rfl⟩
        refine z_iinc C 2 v1 [(2, .int (iI v1)), (0, .ref 58), (1, .int (iI c))] dX6_isEweAt_22 rfl ev1.symm (by decide) rfl ?_
        refine z_goto C 2 dX6_isEweAt_25 (by decide) ?_
        refine zZ_sub [1, 2, 0] rfl ?_
        refine zZ_cast rfl (zLk (zLk (zLc (by omega) rfl))) rfl (kke (by simp [eweAtN, hpe, h17]))
      · refine z_iconst C dX6_isEweAt_20 ?_
        exact zZ_zret C hR (Nat.le_refl _) (Nat.le_refl _) dX6_isEweAt_21 rfl (Or.inr rfl) (zIs_I (by rw [hn2, (eweAtN_iff _ _ _).mpr ⟨e, hee, h17⟩]; rfl) rfl)
  · intro hpe
    refine z_iload_n C 2 rfl dX6_isEweAt_2 rfl ?_
    refine z_aload_n C 0 rfl dX6_isEweAt_3 rfl ?_
    refine y_getI C zCl6 5 flX6_72 rfl rfl dX6_isEweAt_4 ?_
    refine z_icmp_ge C 28 dX6_isEweAt_7 (by decide) (by omega) (by omega) (fun h7 => ?_) (fun h7 => ?_)
    · refine z_iconst C dX6_isEweAt_28 ?_
      exact zZ_zret C hR (Nat.le_refl _) (Nat.le_refl _) dX6_isEweAt_29 rfl (Or.inl rfl) (zIs_I (by rw [hn2, hpe]; rfl) rfl)
    · omega
set_option maxHeartbeats 4000000 in
set_option maxRecDepth 100000 in
theorem c_X6_isIn {g : zG} {I : Nat → Nat → Int} {J : Nat → Nat → Int64} {q : Nat × Nat} {w : Nat} (hgr : gR I) (hrs : gRS (spR I)) (hw : w < 5) : zRun g mX6_isIn 0 [.ref 58, .int (iI ((w : Int)))] (zst I J q) (some (.int (iI (bI (decide (I 62 w = I 58 2)))))) (zst I J q) := by
  obtain ⟨b1, b2, b3, b4, b5, b6, b7⟩ := id hgr
  obtain ⟨k1, k2, k3⟩ := id hrs
  have k1 : gC7 (I 58 3) := k1
  have k2 : 0 ≤ I 58 4 ∧ I 58 4 ≤ 4 := k2
  have k3 : ∀ e, e < 5 → gC7 (I 62 e) := k3
  have k1' := k1.1
  have b2' := b2.1
  have q3 := (k3 w hw).1
  refine zRuns_intro rfl (Nat.le_of_ble_eq_true rfl) (fun X C hR => ?_)
  show zZ g X 0 0 _ 0 [(0, .ref 58), (1, .int (iI ((w : Int))))] []
  refine z_aload_n C 0 rfl dX6_isIn_0 rfl ?_
  refine y_getR C zCl6 8 flX6_20 rfl rfl rfl dX6_isIn_1 ?_
  refine z_iload_n C 1 rfl dX6_isIn_4 rfl ?_
  refine y_iald C w (by omega) rfl (by omega) (by decide) dX6_isIn_5 ?_
  refine z_aload_n C 0 rfl dX6_isIn_6 rfl ?_
  refine y_getI C zCl6 2 flX6_119 rfl rfl dX6_isIn_7 ?_
  refine z_icmp_ne C 17 dX6_isIn_10 (by decide) (by omega) (by omega) (fun h10 => ?_) (fun h10 => ?_)
  · refine z_iconst C dX6_isIn_17 ?_
    exact zZ_zret C hR (Nat.le_refl _) (Nat.le_refl _) dX6_isIn_18 rfl (Or.inl rfl) (zIs_I (by simp [bI] <;> omega) rfl)
  · refine z_iconst C dX6_isIn_13 ?_
    refine z_goto C 18 dX6_isIn_14 (by decide) ?_
    exact zZ_zret C hR (Nat.le_refl _) (Nat.le_refl _) dX6_isIn_18 rfl (Or.inr rfl) (zIs_I (by simp [bI] <;> omega) rfl)
set_option maxHeartbeats 4000000 in
set_option maxRecDepth 100000 in
theorem c_X6_in {g : zG} {I : Nat → Nat → Int} {J : Nat → Nat → Int64} {q : Nat × Nat}  (hgr : gR I) (hrs : gRS (spR I)) : zRun g mX6_in 1 [.ref 58] (zst I J q) (some (.int (iI (inN (hvR I) (I 62))))) (zst I J q) := by
  obtain ⟨b1, b2, b3, b4, b5, b6, b7⟩ := id hgr
  obtain ⟨k1, k2, k3⟩ := id hrs
  have k1 : gC7 (I 58 3) := k1
  have k2 : 0 ≤ I 58 4 ∧ I 58 4 ≤ 4 := k2
  have k3 : ∀ e, e < 5 → gC7 (I 62 e) := k3
  have k1' := k1.1
  have b2' := b2.1
  obtain ⟨n, hn⟩ : ∃ n : Nat, I 58 5 = n := ⟨(I 58 5).toNat, by omega⟩
  have hn2 : (I 58 5).toNat = n := by omega
  have hW : inN (hvR I) (I 62) = cnt (fun e => decide (I 62 e = I 58 2)) n := by rw [← hn2]; rfl
  refine zRuns_intro rfl (Nat.le_of_ble_eq_true rfl) (fun X C hR => ?_)
  show zZ g X 0 0 _ 0 [(0, .ref 58)] []
  refine z_iconst C dX6_in_0 ?_
  refine z_istore_n C [(1, .int (iI 0)), (0, .ref 58)] dX6_in_1 rfl (by decide) rfl ?_
  refine z_iconst C dX6_in_2 ?_
  refine z_istore_n C [(2, .int (iI 0)), (1, .int (iI 0)), (0, .ref 58)] dX6_in_3 rfl (by decide) rfl ?_
  refine zZ_sub [2, 1, 0] rfl ?_
  refine zZ_cast (σ' := (fun _ : Nat => zst I J q) 0) (L' := (fun e : Nat => [(0, .ref 58), (1, .int (iI (cnt (fun e => decide (I 62 e = I 58 2)) e))), (2, .int (iI (e : Int)))]) 0) rfl rfl rfl ?_
  refine zfor (n) (fun _ => True) (fun _ : Nat => zst I J q) (fun e : Nat => [(0, .ref 58), (1, .int (iI (cnt (fun e => decide (I 62 e = I 58 2)) e))), (2, .int (iI (e : Int)))]) trivial ?_ ?_
  · intro e hee hpe kke
    obtain ⟨ct, hct⟩ : ∃ ct, cnt (fun e => decide (I 62 e = I 58 2)) e = ct := ⟨_, rfl⟩
    rw [hct]
    refine z_iload_n C 2 rfl dX6_in_4 rfl ?_
    refine z_aload_n C 0 rfl dX6_in_5 rfl ?_
    refine y_getI C zCl6 5 flX6_72 rfl rfl dX6_in_6 ?_
    refine z_icmp_ge C 29 dX6_in_9 (by decide) (by omega) (by omega) (fun h9 => ?_) (fun h9 => ?_)
    · omega
    · refine z_aload_n C 0 rfl dX6_in_12 rfl ?_
      refine z_iload_n C 2 rfl dX6_in_13 rfl ?_
      refine y_callV1 C oX6_isIn iX6_isIn eX6_isIn lkX6_122 (c_X6_isIn hgr hrs (by first | assumption | omega)) rfl (by decide) rfl rfl (by decide) (Nat.le_refl _) (Nat.le_refl _) (Nat.le_of_ble_eq_true rfl) dX6_in_14 ?_
      refine y_if_eqB C 23 dX6_in_17 (by decide) (fun h17 => ?_) (fun h17 => ?_)
      · obtain ⟨v1, ev1⟩ : ∃ y : Int, y = (e : Int) + 1 := ⟨_, rfl⟩
        refine z_iinc C 2 v1 [(2, .int (iI v1)), (0, .ref 58), (1, .int (iI ct))] dX6_in_23 rfl ev1.symm (by decide) rfl ?_
        refine z_goto C 4 dX6_in_26 (by decide) ?_
        refine zZ_sub [1, 2, 0] rfl ?_
        refine zZ_cast rfl (zLk (zLc (by simp only [cnt]; rw [hct, h17]; simp [bI]) (zLc (by omega) rfl))) rfl (kke trivial)
      · obtain ⟨v2, ev2⟩ : ∃ y : Int, y = ct + 1 := ⟨_, rfl⟩
        refine z_iinc C 1 v2 [(1, .int (iI v2)), (0, .ref 58), (2, .int (iI ((e : Int))))] dX6_in_20 rfl ev2.symm (by decide) rfl ?_
        obtain ⟨v3, ev3⟩ : ∃ y : Int, y = (e : Int) + 1 := ⟨_, rfl⟩
        refine z_iinc C 2 v3 [(2, .int (iI v3)), (1, .int (iI v2)), (0, .ref 58)] dX6_in_23 rfl ev3.symm (by decide) rfl ?_
        refine z_goto C 4 dX6_in_26 (by decide) ?_
        refine zZ_sub [2, 1, 0] rfl ?_
        refine zZ_cast rfl (zLk (zLc (by simp only [cnt]; rw [hct, h17]; simp [bI]; omega) (zLc (by omega) rfl))) rfl (kke trivial)
  · intro hpe
    refine z_iload_n C 2 rfl dX6_in_4 rfl ?_
    refine z_aload_n C 0 rfl dX6_in_5 rfl ?_
    refine y_getI C zCl6 5 flX6_72 rfl rfl dX6_in_6 ?_
    refine z_icmp_ge C 29 dX6_in_9 (by decide) (by omega) (by omega) (fun h9 => ?_) (fun h9 => ?_)
    · refine z_iload_n C 1 rfl dX6_in_29 rfl ?_
      exact zZ_iret C hR (Nat.le_refl _) (Nat.le_refl _) dX6_in_30 rfl (zIs_I hW.symm rfl)
    · omega
