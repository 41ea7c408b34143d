set_option maxHeartbeats 4000000 in
set_option maxRecDepth 100000 in
theorem c_X6_can {g : zG} {I : Nat → Nat → Int} {J : Nat → Nat → Int64} {q : Nat × Nat} {k : Nat} (hgr : gR I) (hrs : gRS (spR I)) (hk : k < 5) : zRun g mX6_can 2 [.ref 58, .int (iI ((k : Int)))] (zst I J q) (some (.int (iI (bI (canN (I 58 0) (maskW (I 59)) (I 58 2) (I 58 3) (k : Int)))))) (zst I J q) := by
  obtain ⟨b1, b2, b3, b4, b5, b6, b7⟩ := id hgr
  obtain ⟨k1, k2, k3⟩ := id hrs
  have k1 : gC7 (I 58 3) := k1
  have k2 : 0 ≤ I 58 4 ∧ I 58 4 ≤ 4 := k2
  have k3 : ∀ e, e < 5 → gC7 (I 62 e) := k3
  have k1' := k1.1
  have b2' := b2.1
  have hbc := bsN_c (n := I 58 0) (w := maskW (I 59)) (pen := I 58 2) (c := I 58 3) (k := k) k1 b1.2
  have h7 := bsN_7 (w := maskW (I 59)) (c := I 58 3) (k := k) b1.2
  have hr7 : -1 ≤ bsN (I 58 0) (maskW (I 59)) (I 58 3) k ∧ bsN (I 58 0) (maskW (I 59)) (I 58 3) k ≤ 66 := by rcases h7 with h | h; omega; have := h.1; omega
  refine zRuns_intro rfl (Nat.le_of_ble_eq_true rfl) (fun X C hR => ?_)
  show zZ g X 0 0 _ 0 [(0, .ref 58), (1, .int (iI ((k : Int))))] []
  refine z_iload_n C 1 rfl dX6_can_0 rfl ?_
  refine z_if_eq C 33 dX6_can_1 (by decide) (by omega) (fun h1 => ?_) (fun h1 => ?_)
  · refine z_iconst C dX6_can_33 ?_
    refine z_goto C 38 dX6_can_34 (by decide) ?_
    exact zZ_zret C hR (Nat.le_refl _) (Nat.le_refl _) dX6_can_38 rfl (Or.inr rfl) (zIs_I (by unfold canN; rw [decide_eq_true (show (k : Int) = 0 by omega)]; rfl) rfl)
  · refine z_aload_n C 0 rfl dX6_can_4 rfl ?_
    refine z_aload_n C 0 rfl dX6_can_5 rfl ?_
    refine y_getI C zCl6 3 flX6_61 rfl rfl dX6_can_6 ?_
    refine z_iload_n C 1 rfl dX6_can_9 rfl ?_
    refine y_callV2 C oX6_beside iX6_beside eX6_beside lkX6_218 (c_X6_beside hgr k1 (by first | assumption | omega)) rfl (by decide) rfl rfl (by decide) (Nat.le_refl _) (Nat.le_refl _) (Nat.le_of_ble_eq_true rfl) dX6_can_10 ?_
    refine z_iconst C dX6_can_13 ?_
    refine z_icmp_eq C 37 dX6_can_14 (by decide) (by omega) (by omega) (fun h14 => ?_) (fun h14 => ?_)
    · refine z_iconst C dX6_can_37 ?_
      exact zZ_zret C hR (Nat.le_refl _) (Nat.le_refl _) dX6_can_38 rfl (Or.inl rfl) (zIs_I (by unfold canN; rw [decide_eq_false (by omega), Int.toNat_natCast, show dogsN (I 58 0) (maskW (I 59)) (I 58 2) (I 58 3 + shN k) = false from Bool.eq_false_iff.mpr (fun z => by have z2 := hbc.mpr z; omega)]; rfl) rfl)
    · refine z_aload_n C 0 rfl dX6_can_17 rfl ?_
      refine z_aload_n C 0 rfl dX6_can_18 rfl ?_
      refine y_getI C zCl6 3 flX6_61 rfl rfl dX6_can_19 ?_
      refine z_iload_n C 1 rfl dX6_can_22 rfl ?_
      refine y_callV2 C oX6_beside iX6_beside eX6_beside lkX6_218 (c_X6_beside hgr k1 (by first | assumption | omega)) rfl (by decide) rfl rfl (by decide) (Nat.le_refl _) (Nat.le_refl _) (Nat.le_of_ble_eq_true rfl) dX6_can_23 ?_
      refine z_aload_n C 0 rfl dX6_can_26 rfl ?_
      refine y_getI C zCl6 2 flX6_119 rfl rfl dX6_can_27 ?_
      refine z_icmp_eq C 37 dX6_can_30 (by decide) (by omega) (by omega) (fun h30 => ?_) (fun h30 => ?_)
      · refine z_iconst C dX6_can_37 ?_
        exact zZ_zret C hR (Nat.le_refl _) (Nat.le_refl _) dX6_can_38 rfl (Or.inl rfl) (zIs_I (by unfold canN; rw [decide_eq_false (by omega), Int.toNat_natCast, show dogsN (I 58 0) (maskW (I 59)) (I 58 2) (I 58 3 + shN k) = false from Bool.eq_false_iff.mpr (fun z => by have z2 := hbc.mpr z; omega)]; rfl) rfl)
      · refine z_iconst C dX6_can_33 ?_
        refine z_goto C 38 dX6_can_34 (by decide) ?_
        exact zZ_zret C hR (Nat.le_refl _) (Nat.le_refl _) dX6_can_38 rfl (Or.inr rfl) (zIs_I (by unfold canN; rw [decide_eq_false (by omega), Int.toNat_natCast, hbc.mp ⟨h14, h30⟩]; rfl) rfl)
