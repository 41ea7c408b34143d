set_option maxHeartbeats 4000000 in
set_option maxRecDepth 100000 in
theorem c_X6_isWord {g : zG} {I : Nat → Nat → Int} {J : Nat → Nat → Int64} {q : Nat × Nat} {k : Nat} (hk : k < 7) (hT : gTR I) (hp : 0 ≤ I 58 14 ∧ I 58 14 ≤ I 58 15 ∧ I 58 15 ≤ I 58 12) (ht : 0 ≤ I 58 16 ∧ I 58 16 ≤ 200) : zRun g mX6_isWord 4 [.ref 58, .ref (1010 + k)] (zst I J q) (some (.int (iI (bI (decide (I 58 16 = 119) && wordN (I 63) (I 58 14).toNat (I 58 15).toNat k))))) (zst I J q) := by
  obtain ⟨t1, t2⟩ := id hT
  obtain ⟨n, hn⟩ : ∃ n : Nat, I 58 12 = n := ⟨(I 58 12).toNat, by omega⟩
  obtain ⟨s, hs⟩ : ∃ p : Nat, I 58 14 = p := ⟨(I 58 14).toNat, by omega⟩
  obtain ⟨z, hz⟩ : ∃ p : Nat, I 58 15 = p := ⟨(I 58 15).toNat, by omega⟩
  have hs2 : (I 58 14).toNat = s := by omega
  have hz2 : (I 58 15).toNat = z := by omega
  rw [hs2, hz2]
  have hzl := zLen_r k hk
  refine zRuns_intro rfl (Nat.le_of_ble_eq_true rfl) (fun X C hR => ?_)
  show zZ g X 0 0 _ 0 [(0, .ref 58), (1, .ref (1010 + k))] []
  refine z_aload_n C 0 rfl dX6_isWord_0 rfl ?_
  refine y_getI C zCl6 16 flX6_158 rfl rfl dX6_isWord_1 ?_
  refine z_bipush C dX6_isWord_4 (by decide) ?_
  refine z_icmp_ne C 25 dX6_isWord_6 (by decide) (by omega) (by omega) (fun h6 => ?_) (fun h6 => ?_)
  · refine z_iconst C dX6_isWord_25 ?_
    exact zZ_zret C hR (Nat.le_refl _) (Nat.le_refl _) dX6_isWord_26 rfl (Or.inl rfl) (zIs_I (by rw [decide_eq_false (show ¬ I 58 16 = 119 by omega)]; rfl) rfl)
  · refine z_aload_n C 0 rfl dX6_isWord_9 rfl ?_
    refine y_getI C zCl6 15 flX6_152 rfl rfl dX6_isWord_10 ?_
    refine z_aload_n C 0 rfl dX6_isWord_13 rfl ?_
    refine y_getI C zCl6 14 flX6_155 rfl rfl dX6_isWord_14 ?_
    refine z_isub C dX6_isWord_17 ?_
    refine z_aload_n C 1 rfl dX6_isWord_18 rfl ?_
    refine zs_call (as := []) C hk oJ0_length_8abf5 iJ0_length_8abf5 eJ0_length_8abf5 lkX6_170 rfl (c_J0_length hk) rfl (by decide) (Nat.le_refl _) (Nat.le_refl _) (Nat.le_of_ble_eq_true rfl) dX6_isWord_19 (fun r1 σ1 h => ?_)
    obtain ⟨rfl, rfl⟩ := h
    show zZ g X 0 0 _ _ _ (.int (iI (zLen k : Nat)) :: _)
    refine z_icmp_eq C 27 dX6_isWord_22 (by decide) (by omega) (by omega) (fun h22 => ?_) (fun h22 => ?_)
    · refine z_iconst C dX6_isWord_27 ?_
      refine z_istore_n C [(2, .int (iI 0)), (0, .ref 58), (1, .ref (1010 + k))] dX6_isWord_28 rfl (by decide) rfl ?_
      refine zZ_sub [1, 2, 0] rfl ?_
      refine zZ_cast (σ' := (fun _ : Nat => zst I J q) 0) (L' := (fun e : Nat => [(0, .ref 58), (1, .ref (1010 + k)), (2, .int (iI (e : Int)))]) 0) rfl rfl rfl ?_
      refine zfor (zLen k) (fun e => firstN (fun i => !decide (I 63 (s + i) = txN k i)) e = none) (fun _ : Nat => zst I J q) (fun e : Nat => [(0, .ref 58), (1, .ref (1010 + k)), (2, .int (iI (e : Int)))]) rfl ?_ ?_
      · intro e hee hpe kke
        refine z_iload_n C 2 rfl dX6_isWord_29 rfl ?_
        refine z_aload_n C 1 rfl dX6_isWord_30 rfl ?_
        refine zs_call (as := []) C hk oJ0_length_8abf5 iJ0_length_8abf5 eJ0_length_8abf5 lkX6_170 rfl (c_J0_length hk) rfl (by decide) (Nat.le_refl _) (Nat.le_refl _) (Nat.le_of_ble_eq_true rfl) dX6_isWord_31 (fun r1 σ1 h => ?_)
        obtain ⟨rfl, rfl⟩ := h
        show zZ g X 0 0 _ _ _ (.int (iI (zLen k : Nat)) :: _)
        refine z_icmp_ge C 64 dX6_isWord_34 (by decide) (by omega) (by omega) (fun h34 => ?_) (fun h34 => ?_)
        · omega
        · refine z_aload_n C 0 rfl dX6_isWord_37 rfl ?_
          refine y_getR C zCl6 13 flX6_23 rfl rfl rfl dX6_isWord_38 ?_
          refine z_aload_n C 0 rfl dX6_isWord_41 rfl ?_
          refine y_getI C zCl6 14 flX6_155 rfl rfl dX6_isWord_42 ?_
          refine z_iload_n C 2 rfl dX6_isWord_45 rfl ?_
          refine z_iadd C dX6_isWord_46 ?_
          refine y_iald C (s + e) (by omega) rfl (by omega) (by decide) dX6_isWord_47 ?_
          refine z_aload_n C 1 rfl dX6_isWord_48 rfl ?_
          refine z_iload_n C 2 rfl dX6_isWord_49 rfl ?_
          refine zs_call (as := [.int (iI (e : Int))]) C hk oJ0_charAt_5068e iJ0_charAt_5068e eJ0_charAt_5068e lkX6_175 rfl (c_J0_charAt hk rfl hee) rfl (by decide) (Nat.le_refl _) (Nat.le_refl _) (Nat.le_of_ble_eq_true rfl) dX6_isWord_50 (fun r1 σ1 h => ?_)
          obtain ⟨rfl, rfl⟩ := h
          show zZ g X 0 0 _ _ _ (.int (iI (txN k e)) :: _)
          refine z_icmp_eq C 58 dX6_isWord_53 (by decide) (by have := t2 (s + e) (by omega); omega) (by have := txN_r k hk e (by omega); omega) (fun h53 => ?_) (fun h53 => ?_)
          · obtain ⟨v1, ev1⟩ : ∃ y : Int, y = (e : Int) + 1 := ⟨_, rfl⟩
            refine z_iinc C 2 v1 [(2, .int (iI v1)), (0, .ref 58), (1, .ref (1010 + k))] dX6_isWord_58 rfl ev1.symm (by decide) rfl ?_
            refine z_goto C 29 dX6_isWord_61 (by decide) ?_
            refine zZ_sub [1, 2, 0] rfl ?_
            refine zZ_cast rfl (zLk (zLk (zLc (by omega) rfl))) rfl (kke (by simp only [firstN, hpe]; rw [if_neg (by simpa using h53)]))
          · refine z_iconst C dX6_isWord_56 ?_
            exact zZ_zret C hR (Nat.le_refl _) (Nat.le_refl _) dX6_isWord_57 rfl (Or.inl rfl) (zIs_I (by unfold wordN; rw [firstN_some hee hpe (by simpa using h53)]; simp [bI]) rfl)
      · intro hpe
        refine z_iload_n C 2 rfl dX6_isWord_29 rfl ?_
        refine z_aload_n C 1 rfl dX6_isWord_30 rfl ?_
        refine zs_call (as := []) C hk oJ0_length_8abf5 iJ0_length_8abf5 eJ0_length_8abf5 lkX6_170 rfl (c_J0_length hk) rfl (by decide) (Nat.le_refl _) (Nat.le_refl _) (Nat.le_of_ble_eq_true rfl) dX6_isWord_31 (fun r1 σ1 h => ?_)
        obtain ⟨rfl, rfl⟩ := h
        show zZ g X 0 0 _ _ _ (.int (iI (zLen k : Nat)) :: _)
        refine z_icmp_ge C 64 dX6_isWord_34 (by decide) (by omega) (by omega) (fun h34 => ?_) (fun h34 => ?_)
        · refine z_iconst C dX6_isWord_64 ?_
          exact zZ_zret C hR (Nat.le_refl _) (Nat.le_refl _) dX6_isWord_65 rfl (Or.inr rfl) (zIs_I (by unfold wordN; rw [hpe, decide_eq_true (show z = s + zLen k by omega), decide_eq_true (show I 58 16 = 119 by omega)]; rfl) rfl)
        · omega
    · refine z_iconst C dX6_isWord_25 ?_
      exact zZ_zret C hR (Nat.le_refl _) (Nat.le_refl _) dX6_isWord_26 rfl (Or.inl rfl) (zIs_I (by unfold wordN; rw [decide_eq_false (show ¬ z = s + zLen k by omega), Bool.false_and, Bool.and_false]; rfl) rfl)
