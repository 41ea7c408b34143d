set_option maxHeartbeats 4000000 in
set_option maxRecDepth 100000 in
theorem c_X4_isWord {g : zG} {I : Nat → Nat → Int} {J : Nat → Nat → Int64} {q : Nat × Nat} {k : Nat} (hk : k < 7) (hT : gT I) (hp : 0 ≤ I 11 4 ∧ I 11 4 ≤ I 11 5 ∧ I 11 5 ≤ I 11 1) : zRun g mX4_isWord 4 [.ref 11, .ref (1010 + k)] (zst I J q) (some (.int (iI (bI (wordN (I 12) (I 11 4).toNat (I 11 5).toNat k))))) (zst I J q) := by
  obtain ⟨t1, t2⟩ := id hT
  obtain ⟨n, hn⟩ : ∃ n : Nat, I 11 1 = n := ⟨(I 11 1).toNat, by omega⟩
  have hn2 : (I 11 1).toNat = n := by omega
  obtain ⟨s, hs⟩ : ∃ p : Nat, I 11 4 = p := ⟨(I 11 4).toNat, by omega⟩
  obtain ⟨z, hz⟩ : ∃ p : Nat, I 11 5 = p := ⟨(I 11 5).toNat, by omega⟩
  have hs2 : (I 11 4).toNat = s := by omega
  have hz2 : (I 11 5).toNat = z := by omega
  rw [hs2, hz2]
  have hzl := zLen_r k hk
  refine zRuns_intro rfl (Nat.le_of_ble_eq_true rfl) (fun X C hR => ?_)
  show zZ g X 0 0 _ 0 [(0, .ref 11), (1, .ref (1010 + k))] []
  refine z_aload_n C 0 rfl dX4_isWord_0 rfl ?_
  refine y_getI C zCl4 5 flX4_32 rfl rfl dX4_isWord_1 ?_
  refine z_aload_n C 0 rfl dX4_isWord_4 rfl ?_
  refine y_getI C zCl4 4 flX4_29 rfl rfl dX4_isWord_5 ?_
  refine z_isub C dX4_isWord_8 ?_
  refine z_aload_n C 1 rfl dX4_isWord_9 rfl ?_
  refine zs_call (as := []) C hk oJ0_length_8abf5 iJ0_length_8abf5 eJ0_length_8abf5 lkX4_137 rfl (c_J0_length hk) rfl (by decide) (Nat.le_refl _) (Nat.le_refl _) (Nat.le_of_ble_eq_true rfl) dX4_isWord_10 (fun r1 σ1 h => ?_)
  obtain ⟨rfl, rfl⟩ := h
  show zZ g X 0 0 _ _ _ (.int (iI (zLen k : Nat)) :: _)
  refine z_icmp_eq C 18 dX4_isWord_13 (by decide) (by omega) (by omega) (fun h13 => ?_) (fun h13 => ?_)
  · refine z_iconst C dX4_isWord_18 ?_
    refine z_istore_n C [(2, .int (iI 0)), (0, .ref 11), (1, .ref (1010 + k))] dX4_isWord_19 rfl (by decide) rfl ?_
    refine zZ_sub [1, 2, 0] rfl ?_
    refine zZ_cast (σ' := (fun _ : Nat => zst I J q) 0) (L' := (fun e : Nat => [(0, .ref 11), (1, .ref (1010 + k)), (2, .int (iI (e : Int)))]) 0) rfl rfl rfl ?_
    refine zfor (zLen k) (fun e => firstN (fun i => !decide (I 12 (s + i) = txN k i)) e = none) (fun _ : Nat => zst I J q) (fun e : Nat => [(0, .ref 11), (1, .ref (1010 + k)), (2, .int (iI (e : Int)))]) rfl ?_ ?_
    · intro e hee hpe kke
      refine z_iload_n C 2 rfl dX4_isWord_20 rfl ?_
      refine z_aload_n C 1 rfl dX4_isWord_21 rfl ?_
      refine zs_call (as := []) C hk oJ0_length_8abf5 iJ0_length_8abf5 eJ0_length_8abf5 lkX4_137 rfl (c_J0_length hk) rfl (by decide) (Nat.le_refl _) (Nat.le_refl _) (Nat.le_of_ble_eq_true rfl) dX4_isWord_22 (fun r1 σ1 h => ?_)
      obtain ⟨rfl, rfl⟩ := h
      show zZ g X 0 0 _ _ _ (.int (iI (zLen k : Nat)) :: _)
      refine z_icmp_ge C 54 dX4_isWord_25 (by decide) (by omega) (by omega) (fun h25 => ?_) (fun h25 => ?_)
      · omega
      · refine z_aload_n C 0 rfl dX4_isWord_28 rfl ?_
        refine z_aload_n C 0 rfl dX4_isWord_29 rfl ?_
        refine y_getI C zCl4 4 flX4_29 rfl rfl dX4_isWord_30 ?_
        refine z_iload_n C 2 rfl dX4_isWord_33 rfl ?_
        refine z_iadd C dX4_isWord_34 ?_
        refine y_callV1 C oX4_byteAt iX4_byteAt eX4_byteAt lkX4_133 (c_X4_byteAt hT (by first | assumption | omega)) rfl (by decide) rfl rfl (by decide) (Nat.le_refl _) (Nat.le_refl _) (Nat.le_of_ble_eq_true rfl) dX4_isWord_35 ?_
        refine z_top C (I 12 (s + e)) (by rw [hn2, hs, show (s : Int) + (e : Int) = ((s + e : Nat) : Int) by omega]; exact byN_in (by omega)) ?_
        refine z_aload_n C 1 rfl dX4_isWord_38 rfl ?_
        refine z_iload_n C 2 rfl dX4_isWord_39 rfl ?_
        refine zs_call (as := [.int (iI (e : Int))]) C hk oJ0_charAt_5068e iJ0_charAt_5068e eJ0_charAt_5068e lkX4_142 rfl (c_J0_charAt hk rfl hee) rfl (by decide) (Nat.le_refl _) (Nat.le_refl _) (Nat.le_of_ble_eq_true rfl) dX4_isWord_40 (fun r1 σ1 h => ?_)
        obtain ⟨rfl, rfl⟩ := h
        show zZ g X 0 0 _ _ _ (.int (iI (txN k e)) :: _)
        refine z_icmp_eq C 48 dX4_isWord_43 (by decide) (by have := t2 (s + e) (by omega); omega) (by have := txN_r k hk e (by omega); omega) (fun h43 => ?_) (fun h43 => ?_)
        · obtain ⟨v1, ev1⟩ : ∃ y : Int, y = (e : Int) + 1 := ⟨_, rfl⟩
          refine z_iinc C 2 v1 [(2, .int (iI v1)), (0, .ref 11), (1, .ref (1010 + k))] dX4_isWord_48 rfl ev1.symm (by decide) rfl ?_
          refine z_goto C 20 dX4_isWord_51 (by decide) ?_
          refine zZ_sub [1, 2, 0] rfl ?_
          refine zZ_cast rfl (zLk (zLk (zLc (by omega) rfl))) rfl (kke (by simp only [firstN, hpe]; rw [if_neg (by simpa using h43)]))
        · refine z_iconst C dX4_isWord_46 ?_
          exact zZ_zret C hR (Nat.le_refl _) (Nat.le_refl _) dX4_isWord_47 rfl (Or.inl rfl) (zIs_I (by unfold wordN; rw [firstN_some hee hpe (by simpa using h43)]; simp [bI]) rfl)
    · intro hpe
      refine z_iload_n C 2 rfl dX4_isWord_20 rfl ?_
      refine z_aload_n C 1 rfl dX4_isWord_21 rfl ?_
      refine zs_call (as := []) C hk oJ0_length_8abf5 iJ0_length_8abf5 eJ0_length_8abf5 lkX4_137 rfl (c_J0_length hk) rfl (by decide) (Nat.le_refl _) (Nat.le_refl _) (Nat.le_of_ble_eq_true rfl) dX4_isWord_22 (fun r1 σ1 h => ?_)
      obtain ⟨rfl, rfl⟩ := h
      show zZ g X 0 0 _ _ _ (.int (iI (zLen k : Nat)) :: _)
      refine z_icmp_ge C 54 dX4_isWord_25 (by decide) (by omega) (by omega) (fun h25 => ?_) (fun h25 => ?_)
      · refine z_iconst C dX4_isWord_54 ?_
        exact zZ_zret C hR (Nat.le_refl _) (Nat.le_refl _) dX4_isWord_55 rfl (Or.inr rfl) (zIs_I (by unfold wordN; rw [hpe, decide_eq_true (show z = s + zLen k by omega)]; rfl) rfl)
      · omega
  · refine z_iconst C dX4_isWord_16 ?_
    exact zZ_zret C hR (Nat.le_refl _) (Nat.le_refl _) dX4_isWord_17 rfl (Or.inl rfl) (zIs_I (by unfold wordN; rw [decide_eq_false (by omega)]; rfl) rfl)
set_option maxHeartbeats 4000000 in
set_option maxRecDepth 100000 in
theorem c_X4_nextNumber {g : zG} {I : Nat → Nat → Int} {J : Nat → Nat → Int64} {q : Nat × Nat}  (hT : gT I) (hp : 0 ≤ I 11 5 ∧ I 11 5 ≤ I 11 1) : zRun g mX4_nextNumber 3 [.ref 11] (zst I J q) (some (.int (iI (nmN (I 12) (I 11 1).toNat (I 11 5).toNat)))) (zst (tkI I (I 12) (I 11 1).toNat (I 11 5).toNat) J q) := by
  obtain ⟨t1, t2⟩ := id hT
  obtain ⟨n, hn⟩ : ∃ n : Nat, I 11 1 = n := ⟨(I 11 1).toNat, by omega⟩
  have hn2 : (I 11 1).toNat = n := by omega
  obtain ⟨p, hp0⟩ : ∃ p : Nat, I 11 5 = p := ⟨(I 11 5).toNat, by omega⟩
  have hp2 : (I 11 5).toNat = p := by omega
  rw [hn2, hp2]
  have hf : ∀ k, k < n → 0 ≤ I 12 k := fun k hk => (t2 k (by omega)).1
  have htr := tok_r (p := p) hf (by omega)
  have hTr := tokT_r (I 12) n p
  unfold tkI
  obtain ⟨T, hT0⟩ : ∃ T, T = tokT (I 12) n p := ⟨_, rfl⟩
  obtain ⟨s, hs0⟩ : ∃ T, T = skN (I 12) n p := ⟨_, rfl⟩
  obtain ⟨z, hz0⟩ : ∃ T, T = tokE (I 12) n p := ⟨_, rfl⟩
  rw [← hT0] at hTr
  rw [← hs0, ← hz0] at htr
  rw [← hT0, ← hs0, ← hz0]
  refine zRuns_intro rfl (Nat.le_of_ble_eq_true rfl) (fun X C hR => ?_)
  show zZ g X 0 0 _ 0 [(0, .ref 11)] []
  refine z_aload_n C 0 rfl dX4_nextNumber_0 rfl ?_
  refine y_callV0 C oX4_nextToken iX4_nextToken eX4_nextToken lkX4_39 (c_X4_nextToken hT (by first | assumption | omega)) rfl (by decide) rfl rfl (by decide) (Nat.le_refl _) (Nat.le_refl _) (Nat.le_of_ble_eq_true rfl) dX4_nextNumber_1 ?_
  refine zZ_cast (σ' := zst (zTk I T (s : Nat) (z : Nat)) J q) (by unfold tkI; rw [hn2, hp2, hT0, hs0, hz0]) rfl rfl ?_
  refine z_aload_n C 0 rfl dX4_nextNumber_4 rfl ?_
  refine y_getI C zCl4 3 flX4_26 rfl rfl dX4_nextNumber_5 ?_
  rw [zTk_3]
  refine z_iconst C dX4_nextNumber_8 ?_
  refine z_icmp_ne C 25 dX4_nextNumber_9 (by decide) (by omega) (by omega) (fun h9 => ?_) (fun h9 => ?_)
  · refine z_iconst C dX4_nextNumber_25 ?_
    exact zZ_iret C hR (Nat.le_refl _) (Nat.le_refl _) dX4_nextNumber_26 rfl (zIs_I (by unfold nmN; rw [← hT0, ← hs0, ← hz0, if_neg (by omega)]) rfl)
  · refine z_aload_n C 0 rfl dX4_nextNumber_12 rfl ?_
    refine y_getI C zCl4 5 flX4_32 rfl rfl dX4_nextNumber_13 ?_
    rw [zTk_5]
    refine z_aload_n C 0 rfl dX4_nextNumber_16 rfl ?_
    refine y_getI C zCl4 4 flX4_29 rfl rfl dX4_nextNumber_17 ?_
    rw [zTk_4]
    refine z_isub C dX4_nextNumber_20 ?_
    refine z_iconst C dX4_nextNumber_21 ?_
    refine z_icmp_le C 27 dX4_nextNumber_22 (by decide) (by omega) (by omega) (fun h22 => ?_) (fun h22 => ?_)
    · refine z_iconst C dX4_nextNumber_27 ?_
      refine z_istore_n C [(1, .int (iI 0)), (0, .ref 11)] dX4_nextNumber_28 rfl (by decide) rfl ?_
      refine z_aload_n C 1 rfl dX4_nextNumber_29 rfl ?_
      refine y_getI C zCl4 4 flX4_29 rfl rfl dX4_nextNumber_30 ?_
      rw [zTk_4]
      refine z_topI C (fun s1 es1 => ?_)
      refine z_istore_n C [(2, .int (iI s1)), (1, .int (iI 0)), (0, .ref 11)] dX4_nextNumber_33 rfl (by decide) rfl ?_
      refine zZ_sub [2, 1, 0] rfl ?_
      refine zZ_cast (σ' := (fun _ : Nat => zst (zTk I T (s : Nat) (z : Nat)) J q) 0) (L' := (fun e : Nat => [(0, .ref 11), (1, .int (iI (dgN (I 12) s e))), (2, .int (iI ((s + e : Nat) : Int)))]) 0) rfl (by subst es1; rfl) rfl ?_
      refine zfor ((z - s)) (fun _ => True) (fun _ : Nat => zst (zTk I T (s : Nat) (z : Nat)) J q) (fun e : Nat => [(0, .ref 11), (1, .int (iI (dgN (I 12) s e))), (2, .int (iI ((s + e : Nat) : Int)))]) trivial ?_ ?_
      · intro e hee hpe kke
        refine z_iload_n C 2 rfl dX4_nextNumber_34 rfl ?_
        refine z_aload_n C 0 rfl dX4_nextNumber_35 rfl ?_
        refine y_getI C zCl4 5 flX4_32 rfl rfl dX4_nextNumber_36 ?_
        rw [zTk_5]
        refine z_icmp_ge C 62 dX4_nextNumber_39 (by decide) (by omega) (by omega) (fun h39 => ?_) (fun h39 => ?_)
        · omega
        · refine z_iload_n C 1 rfl dX4_nextNumber_42 rfl ?_
          refine z_bipush C dX4_nextNumber_43 (by decide) ?_
          refine z_imul C dX4_nextNumber_45 ?_
          refine z_aload_n C 0 rfl dX4_nextNumber_46 rfl ?_
          refine z_iload_n C 2 rfl dX4_nextNumber_47 rfl ?_
          refine y_callV1 C oX4_byteAt iX4_byteAt eX4_byteAt lkX4_133 (c_X4_byteAt (gT_tk hT) (by omega)) rfl (by decide) rfl rfl (by decide) (Nat.le_refl _) (Nat.le_refl _) (Nat.le_of_ble_eq_true rfl) dX4_nextNumber_48 ?_
          refine z_top C (I 12 (s + e)) (by rw [zTk_12, zTk_1, hn2]; exact byN_in (by omega)) ?_
          refine z_iadd C dX4_nextNumber_51 ?_
          refine z_bipush C dX4_nextNumber_52 (by decide) ?_
          refine z_isub C dX4_nextNumber_54 ?_
          refine z_topI C (fun v1 ev1 => ?_)
          refine z_istore_n C [(1, .int (iI v1)), (0, .ref 11), (2, .int (iI (((s + e : Nat) : Int))))] dX4_nextNumber_55 rfl (by decide) rfl ?_
          obtain ⟨v2, ev2⟩ : ∃ y : Int, y = ((s + e : Nat) : Int) + 1 := ⟨_, rfl⟩
          refine z_iinc C 2 v2 [(2, .int (iI v2)), (1, .int (iI v1)), (0, .ref 11)] dX4_nextNumber_56 rfl ev2.symm (by decide) rfl ?_
          refine z_goto C 34 dX4_nextNumber_59 (by decide) ?_
          refine zZ_sub [2, 1, 0] rfl ?_
          refine zZ_cast rfl (zLk (zLc (by simp only [dgN]; omega) (zLc (by omega) rfl))) rfl (kke trivial)
      · intro hpe
        refine z_iload_n C 2 rfl dX4_nextNumber_34 rfl ?_
        refine z_aload_n C 0 rfl dX4_nextNumber_35 rfl ?_
        refine y_getI C zCl4 5 flX4_32 rfl rfl dX4_nextNumber_36 ?_
        rw [zTk_5]
        refine z_icmp_ge C 62 dX4_nextNumber_39 (by decide) (by omega) (by omega) (fun h39 => ?_) (fun h39 => ?_)
        · refine z_iload_n C 1 rfl dX4_nextNumber_62 rfl ?_
          exact zZ_iret C hR (Nat.le_refl _) (Nat.le_refl _) dX4_nextNumber_63 rfl (zIs_I (by unfold nmN; rw [← hT0, ← hs0, ← hz0, if_pos (by omega)]) rfl)
        · omega
    · refine z_iconst C dX4_nextNumber_25 ?_
      exact zZ_iret C hR (Nat.le_refl _) (Nat.le_refl _) dX4_nextNumber_26 rfl (zIs_I (by unfold nmN; rw [← hT0, ← hs0, ← hz0, if_neg (by omega)]) rfl)
