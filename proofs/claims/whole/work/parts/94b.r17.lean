set_option maxHeartbeats 4000000 in
set_option maxRecDepth 100000 in
theorem c_X6_number {g : zG} {I : Nat → Nat → Int} {J : Nat → Nat → Int64} {q : Nat × Nat} {lo hi : Int} (hT : gTR I) (hp : 0 ≤ I 58 15 ∧ I 58 15 ≤ I 58 12) (hlo : 0 ≤ lo ∧ lo ≤ 2147483647) (hhi : -2147483648 ≤ hi ∧ hi ≤ 2147483647) : zRun g mX6_number 2 [.ref 58, .int (iI lo), .int (iI hi)] (zst I J q) (some (.int (iI (numR (I 63) (I 58 12).toNat (I 58 15).toNat lo hi)))) (zst (nxR I (I 63) (I 58 12).toNat (I 58 15).toNat) J q) := by
  obtain ⟨t1, t2⟩ := id hT
  obtain ⟨n, hn⟩ : ∃ n : Nat, I 58 12 = n := ⟨(I 58 12).toNat, by omega⟩
  have hn2 : (I 58 12).toNat = n := by omega
  obtain ⟨p, hp0⟩ : ∃ p : Nat, I 58 15 = p := ⟨(I 58 15).toNat, by omega⟩
  have hp2 : (I 58 15).toNat = p := by omega
  rw [hn2, hp2]
  have hf : ∀ k, k < n → 0 ≤ I 63 k := fun k hk => (t2 k (by omega)).1
  have hnm := nmN_r (p := p) hf
  refine zRuns_intro rfl (Nat.le_of_ble_eq_true rfl) (fun X C hR => ?_)
  show zZ g X 0 0 _ 0 [(0, .ref 58), (1, .int (iI lo)), (2, .int (iI hi))] []
  refine z_aload_n C 0 rfl dX6_number_0 rfl ?_
  refine y_callV0 C oX6_next iX6_next eX6_next lkX6_179 (c_X6_next hT (by first | assumption | omega)) rfl (by decide) rfl rfl (by decide) (Nat.le_refl _) (Nat.le_refl _) (Nat.le_of_ble_eq_true rfl) dX6_number_1 ?_
  refine zZ_cast (σ' := zst (nxR I (I 63) n p) J q)  (by refine congrArg (fun I' => zst I' J q) ?_; rw [hn2, hp2]) rfl rfl ?_
  refine z_aload_n C 0 rfl dX6_number_4 rfl ?_
  refine y_getI C zCl6 16 flX6_158 rfl rfl dX6_number_5 ?_
  refine z_top C (rtkN (tokT (I 63) n p) (tokE (I 63) n p - skN (I 63) n p)) (rfl) ?_
  have hrr := rtk_r (T := tokT (I 63) n p) (len := tokE (I 63) n p - skN (I 63) n p)
  refine z_bipush C dX6_number_8 (by decide) ?_
  refine z_icmp_ne C 32 dX6_number_10 (by decide) (by omega) (by omega) (fun h10 => ?_) (fun h10 => ?_)
  · refine z_iconst C dX6_number_32 ?_
    exact zZ_iret C hR (Nat.le_refl _) (Nat.le_refl _) dX6_number_33 rfl (zIs_I (by unfold numR; rw [nm_no hf (by omega) h10, if_neg (by omega)]) rfl)
  · refine z_aload_n C 0 rfl dX6_number_13 rfl ?_
    refine y_getI C zCl6 17 flX6_167 rfl rfl dX6_number_14 ?_
    refine z_top C (nmN (I 63) n p) (nm_48 hf (by omega) h10 (I 58 17)) ?_
    refine z_iload_n C 1 rfl dX6_number_17 rfl ?_
    refine z_iload_n C 2 rfl dX6_number_18 rfl ?_
    refine y_callS3 C oX6_within sX6_within lkX6_75 (c_X6_within (by first | assumption | omega) (by first | assumption | omega) (by first | assumption | omega)) (by decide) (Nat.le_refl _) (Nat.le_refl _) (Nat.le_of_ble_eq_true rfl) dX6_number_19 ?_
    refine y_if_eqB C 32 dX6_number_22 (by decide) (fun h22 => ?_) (fun h22 => ?_)
    · refine z_iconst C dX6_number_32 ?_
      exact zZ_iret C hR (Nat.le_refl _) (Nat.le_refl _) dX6_number_33 rfl (zIs_I (by unfold numR; exact (if_neg (of_decide_eq_false h22)).symm) rfl)
    · refine z_aload_n C 0 rfl dX6_number_25 rfl ?_
      refine y_getI C zCl6 17 flX6_167 rfl rfl dX6_number_26 ?_
      refine z_top C (nmN (I 63) n p) (nm_48 hf (by omega) h10 (I 58 17)) ?_
      refine z_goto C 33 dX6_number_29 (by decide) ?_
      exact zZ_iret C hR (Nat.le_refl _) (Nat.le_refl _) dX6_number_33 rfl (zIs_I (by unfold numR; exact (if_pos (of_decide_eq_true h22)).symm) rfl)
set_option maxHeartbeats 4000000 in
set_option maxRecDepth 100000 in
theorem c_X6_place {g : zG} {I : Nat → Nat → Int} {J : Nat → Nat → Int64} {q : Nat × Nat}  (hgr : gR I) (hT : gTR I) (hp : 0 ≤ I 58 15 ∧ I 58 15 ≤ I 58 12) : zRun g mX6_place 3 [.ref 58] (zst I J q) (some (.int (iI (plR (I 63) (I 58 12).toNat (I 58 15).toNat (I 58 0))))) (zst (nxR I (I 63) (I 58 12).toNat (I 58 15).toNat) J q) := by
  obtain ⟨b1, b2, b3, b4, b5, b6, b7⟩ := id hgr
  obtain ⟨t1, t2⟩ := id hT
  obtain ⟨n, hn⟩ : ∃ n : Nat, I 58 12 = n := ⟨(I 58 12).toNat, by omega⟩
  have hn2 : (I 58 12).toNat = n := by omega
  obtain ⟨p, hp0⟩ : ∃ p : Nat, I 58 15 = p := ⟨(I 58 15).toNat, by omega⟩
  have hp2 : (I 58 15).toNat = p := by omega
  rw [hn2, hp2]
  have hf : ∀ k, k < n → 0 ≤ I 63 k := fun k hk => (t2 k (by omega)).1
  have hnm := nmN_r (p := p) hf
  refine zRuns_intro rfl (Nat.le_of_ble_eq_true rfl) (fun X C hR => ?_)
  show zZ g X 0 0 _ 0 [(0, .ref 58)] []
  refine z_aload_n C 0 rfl dX6_place_0 rfl ?_
  refine z_iconst C dX6_place_1 ?_
  refine z_bipush C dX6_place_2 (by decide) ?_
  refine y_callV2 C oX6_number iX6_number eX6_number lkX6_182 (c_X6_number hT (by first | assumption | omega) (by first | assumption | omega) (by first | assumption | omega)) rfl (by decide) rfl rfl (by decide) (Nat.le_refl _) (Nat.le_refl _) (Nat.le_of_ble_eq_true rfl) dX6_place_4 ?_
  refine zZ_cast (σ' := zst (nxR I (I 63) n p) J q)  (by refine congrArg (fun I' => zst I' J q) ?_; rw [hn2, hp2]) rfl rfl ?_
  refine z_top C (numR (I 63) n p 0 66) (by rw [hn2, hp2]) ?_
  have hnr : numR (I 63) n p 0 66 = if 0 ≤ nmN (I 63) n p ∧ nmN (I 63) n p ≤ 66 then nmN (I 63) n p else -1 := rfl
  refine z_topI C (fun nm enm => ?_)
  have enm2 : nm = numR (I 63) n p 0 66 := enm
  have hnm2 : -1 ≤ nm ∧ nm ≤ 66 := by rw [enm2, hnr]; split <;> omega
  have hic : isCellN (I 58 0) (nmN (I 63) n p) = true → nm = nmN (I 63) n p := fun z => by have z2 := isCellN_r b1.2 z; rw [enm2, hnr, if_pos z2]
  refine z_istore_n C [(1, .int (iI nm)), (0, .ref 58)] dX6_place_7 rfl (by decide) rfl ?_
  refine z_iload_n C 0 rfl dX6_place_8 rfl ?_
  refine z_iconst C dX6_place_9 ?_
  refine z_icmp_eq C 22 dX6_place_10 (by decide) (by omega) (by omega) (fun h10 => ?_) (fun h10 => ?_)
  · have hno : ¬ isCellN (I 58 0) (nmN (I 63) n p) = true := fun z => by have z2 := hic z; have z3 := isCellN_r b1.2 z; omega
    refine z_iconst C dX6_place_22 ?_
    refine z_goto C 27 dX6_place_23 (by decide) ?_
    exact zZ_iret C hR (Nat.le_refl _) (Nat.le_refl _) dX6_place_27 rfl (zIs_I (by unfold plR; exact (if_neg hno).symm) rfl)
  · refine z_aload_n C 1 rfl dX6_place_13 rfl ?_
    refine z_iload_n C 0 rfl dX6_place_14 rfl ?_
    refine z_i2l C ((iI nm).toInt64) dX6_place_15 rfl ?_
    refine y_callV1 C oX6_isCell iX6_isCell eX6_isCell lkX6_128 (c_X6_isCell (show gR (nxR I (I 63) n p) from hgr)) rfl (by decide) rfl rfl (by decide) (Nat.le_refl _) (Nat.le_refl _) (Nat.le_of_ble_eq_true rfl) dX6_place_16 ?_
    refine z_top C (bI (isCellN (I 58 0) nm)) (by rw [i2l_toInt (by omega)]; rfl) ?_
    refine y_if_neB C 26 dX6_place_19 (by decide) (fun h19 => ?_) (fun h19 => ?_)
    · refine z_iload_n C 0 rfl dX6_place_26 rfl ?_
      exact zZ_iret C hR (Nat.le_refl _) (Nat.le_refl _) dX6_place_27 rfl (zIs_I (by have h2 : nm = nmN (I 63) n p := (by have h3 := hnr; rw [← enm2] at h3; (split at h3) <;> omega); unfold plR; rw [← h2]; exact (if_pos h19).symm) rfl)
    · have hno : ¬ isCellN (I 58 0) (nmN (I 63) n p) = true := fun z => by have z2 := hic z; rw [← z2] at z; exact absurd (z.symm.trans h19) (by decide)
      refine z_iconst C dX6_place_22 ?_
      refine z_goto C 27 dX6_place_23 (by decide) ?_
      exact zZ_iret C hR (Nat.le_refl _) (Nat.le_refl _) dX6_place_27 rfl (zIs_I (by unfold plR; exact (if_neg hno).symm) rfl)
