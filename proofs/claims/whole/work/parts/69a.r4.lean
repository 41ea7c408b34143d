set_option maxHeartbeats 4000000 in
set_option maxRecDepth 100000 in
theorem c_X6_mayWall {g : zG} {I : Nat → Nat → Int} {J : Nat → Nat → Int64} {q : Nat × Nat} {c : Int} (hgr : gR I) (hrs : gRS (spR I)) (hc : -2147483648 ≤ c ∧ c ≤ 2147483647) : zRun g mX6_mayWall 1 [.ref 58, .int (iI c)] (zst I J q) (some (.int (iI (bI (!decide (c = I 58 2) && (!decide (c = I 58 3) && !eweAtN (I 62) c (I 58 5).toNat)))))) (zst I J q) := by
  obtain ⟨b1, b2, b3, b4, b5, b6, b7⟩ := id hgr
  obtain ⟨k1, k2, k3⟩ := id hrs
  have k1 : gC7 (I 58 3) := k1
  have k2 : 0 ≤ I 58 4 ∧ I 58 4 ≤ 4 := k2
  have k3 : ∀ e, e < 5 → gC7 (I 62 e) := k3
  have k1' := k1.1
  have b2' := b2.1
  refine zRuns_intro rfl (Nat.le_of_ble_eq_true rfl) (fun X C hR => ?_)
  show zZ g X 0 0 _ 0 [(0, .ref 58), (1, .int (iI c))] []
  refine z_iload_n C 1 rfl dX6_mayWall_0 rfl ?_
  refine z_aload_n C 0 rfl dX6_mayWall_1 rfl ?_
  refine y_getI C zCl6 2 flX6_119 rfl rfl dX6_mayWall_2 ?_
  refine z_icmp_eq C 28 dX6_mayWall_5 (by decide) (by omega) (by omega) (fun h5 => ?_) (fun h5 => ?_)
  · refine z_iconst C dX6_mayWall_28 ?_
    exact zZ_zret C hR (Nat.le_refl _) (Nat.le_refl _) dX6_mayWall_29 rfl (Or.inl rfl) (zIs_I (by simp [bI, *]) rfl)
  · refine z_iload_n C 1 rfl dX6_mayWall_8 rfl ?_
    refine z_aload_n C 0 rfl dX6_mayWall_9 rfl ?_
    refine y_getI C zCl6 3 flX6_61 rfl rfl dX6_mayWall_10 ?_
    refine z_icmp_eq C 28 dX6_mayWall_13 (by decide) (by omega) (by omega) (fun h13 => ?_) (fun h13 => ?_)
    · refine z_iconst C dX6_mayWall_28 ?_
      exact zZ_zret C hR (Nat.le_refl _) (Nat.le_refl _) dX6_mayWall_29 rfl (Or.inl rfl) (zIs_I (by simp [bI, *]) rfl)
    · refine z_aload_n C 0 rfl dX6_mayWall_16 rfl ?_
      refine z_iload_n C 1 rfl dX6_mayWall_17 rfl ?_
      refine y_callV1 C oX6_isEweAt iX6_isEweAt eX6_isEweAt lkX6_125 (c_X6_isEweAt hgr hrs (by first | assumption | omega)) rfl (by decide) rfl rfl (by decide) (Nat.le_refl _) (Nat.le_refl _) (Nat.le_of_ble_eq_true rfl) dX6_mayWall_18 ?_
      refine y_if_neB C 28 dX6_mayWall_21 (by decide) (fun h21 => ?_) (fun h21 => ?_)
      · refine z_iconst C dX6_mayWall_28 ?_
        exact zZ_zret C hR (Nat.le_refl _) (Nat.le_refl _) dX6_mayWall_29 rfl (Or.inl rfl) (zIs_I (by simp [bI, *]) rfl)
      · refine z_iconst C dX6_mayWall_24 ?_
        refine z_goto C 29 dX6_mayWall_25 (by decide) ?_
        exact zZ_zret C hR (Nat.le_refl _) (Nat.le_refl _) dX6_mayWall_29 rfl (Or.inr rfl) (zIs_I (by simp [bI, *]) rfl)
set_option maxHeartbeats 4000000 in
set_option maxRecDepth 100000 in
theorem c_X6_mayPen {g : zG} {I : Nat → Nat → Int} {J : Nat → Nat → Int64} {q : Nat × Nat} {c : Int} (hgr : gR I) (hrs : gRS (spR I)) (hc7 : gC7 c) : zRun g mX6_mayPen 2 [.ref 58, .int (iI c)] (zst I J q) (some (.int (iI (bI (!wallL (maskW (I 59)) c && (!decide (c = I 58 3) && (!eweAtN (I 62) c (I 58 5).toNat && !eweAtN (I 62) (I 58 2) (I 58 5).toNat))))))) (zst I J q) := by
  obtain ⟨b1, b2, b3, b4, b5, b6, b7⟩ := id hgr
  obtain ⟨k1, k2, k3⟩ := id hrs
  have k1 : gC7 (I 58 3) := k1
  have k2 : 0 ≤ I 58 4 ∧ I 58 4 ≤ 4 := k2
  have k3 : ∀ e, e < 5 → gC7 (I 62 e) := k3
  have k1' := k1.1
  have b2' := b2.1
  have hwm := wallMi (f := I 59) hc7
  have hw7 := b7 c.toNat (by have := hc7.1; omega)
  have hc := hc7.1
  have hin := in_r hgr
  have hi0 := in_0 (I := I)
  refine zRuns_intro rfl (Nat.le_of_ble_eq_true rfl) (fun X C hR => ?_)
  show zZ g X 0 0 _ 0 [(0, .ref 58), (1, .int (iI c))] []
  refine z_aload_n C 0 rfl dX6_mayPen_0 rfl ?_
  refine y_getR C zCl6 1 flX6_7 rfl rfl rfl dX6_mayPen_1 ?_
  refine z_iload_n C 1 rfl dX6_mayPen_4 rfl ?_
  refine y_zald C c.toNat (by omega) rfl (by omega) (by decide) dX6_mayPen_5 ?_
  refine z_if_ne C 36 dX6_mayPen_6 (by decide) (by omega) (fun h6 => ?_) (fun h6 => ?_)
  · refine z_iconst C dX6_mayPen_36 ?_
    exact zZ_zret C hR (Nat.le_refl _) (Nat.le_refl _) dX6_mayPen_37 rfl (Or.inl rfl) (zIs_I (by rw [hwm, decide_eq_true (show I 59 c.toNat = 1 by omega)]; rfl) rfl)
  · refine z_iload_n C 1 rfl dX6_mayPen_9 rfl ?_
    refine z_aload_n C 0 rfl dX6_mayPen_10 rfl ?_
    refine y_getI C zCl6 3 flX6_61 rfl rfl dX6_mayPen_11 ?_
    refine z_icmp_eq C 36 dX6_mayPen_14 (by decide) (by omega) (by omega) (fun h14 => ?_) (fun h14 => ?_)
    · refine z_iconst C dX6_mayPen_36 ?_
      exact zZ_zret C hR (Nat.le_refl _) (Nat.le_refl _) dX6_mayPen_37 rfl (Or.inl rfl) (zIs_I (by rw [hwm, decide_eq_false (show ¬ I 59 c.toNat = 1 by omega), decide_eq_true (show c = I 58 3 by omega)]; rfl) rfl)
    · refine z_aload_n C 0 rfl dX6_mayPen_17 rfl ?_
      refine z_iload_n C 1 rfl dX6_mayPen_18 rfl ?_
      refine y_callV1 C oX6_isEweAt iX6_isEweAt eX6_isEweAt lkX6_125 (c_X6_isEweAt hgr hrs (by first | assumption | omega)) rfl (by decide) rfl rfl (by decide) (Nat.le_refl _) (Nat.le_refl _) (Nat.le_of_ble_eq_true rfl) dX6_mayPen_19 ?_
      refine y_if_neB C 36 dX6_mayPen_22 (by decide) (fun h22 => ?_) (fun h22 => ?_)
      · refine z_iconst C dX6_mayPen_36 ?_
        exact zZ_zret C hR (Nat.le_refl _) (Nat.le_refl _) dX6_mayPen_37 rfl (Or.inl rfl) (zIs_I (by rw [h22]; simp [bI]) rfl)
      · refine z_aload_n C 0 rfl dX6_mayPen_25 rfl ?_
        refine y_callV0 C oX6_in iX6_in eX6_in lkX6_135 (c_X6_in hgr hrs) rfl (by decide) rfl rfl (by decide) (Nat.le_refl _) (Nat.le_refl _) (Nat.le_of_ble_eq_true rfl) dX6_mayPen_26 ?_
        refine z_if_ne C 36 dX6_mayPen_29 (by decide) (by omega) (fun h29 => ?_) (fun h29 => ?_)
        · refine z_iconst C dX6_mayPen_36 ?_
          exact zZ_zret C hR (Nat.le_refl _) (Nat.le_refl _) dX6_mayPen_37 rfl (Or.inl rfl) (zIs_I (by rw [show eweAtN (I 62) (I 58 2) (I 58 5).toNat = true from Bool.not_eq_false _ ▸ (mt hi0.mpr h29)]; simp [bI]) rfl)
        · refine z_iconst C dX6_mayPen_32 ?_
          refine z_goto C 37 dX6_mayPen_33 (by decide) ?_
          exact zZ_zret C hR (Nat.le_refl _) (Nat.le_refl _) dX6_mayPen_37 rfl (Or.inr rfl) (zIs_I (by rw [hwm, decide_eq_false (show ¬ I 59 c.toNat = 1 by omega), decide_eq_false (show ¬ c = I 58 3 by omega), h22, hi0.mp h29]; rfl) rfl)
set_option maxHeartbeats 4000000 in
set_option maxRecDepth 100000 in
theorem c_X6_mayDog {g : zG} {I : Nat → Nat → Int} {J : Nat → Nat → Int64} {q : Nat × Nat} {c : Int} (hgr : gR I) (hrs : gRS (spR I)) (hc7 : gC7 c) : zRun g mX6_mayDog 0 [.ref 58, .int (iI c)] (zst I J q) (some (.int (iI (bI (!wallL (maskW (I 59)) c && !decide (c = I 58 2)))))) (zst I J q) := by
  obtain ⟨b1, b2, b3, b4, b5, b6, b7⟩ := id hgr
  obtain ⟨k1, k2, k3⟩ := id hrs
  have k1 : gC7 (I 58 3) := k1
  have k2 : 0 ≤ I 58 4 ∧ I 58 4 ≤ 4 := k2
  have k3 : ∀ e, e < 5 → gC7 (I 62 e) := k3
  have k1' := k1.1
  have b2' := b2.1
  have hwm := wallMi (f := I 59) hc7
  have hw7 := b7 c.toNat (by have := hc7.1; omega)
  have hc := hc7.1
  refine zRuns_intro rfl (Nat.le_of_ble_eq_true rfl) (fun X C hR => ?_)
  show zZ g X 0 0 _ 0 [(0, .ref 58), (1, .int (iI c))] []
  refine z_aload_n C 0 rfl dX6_mayDog_0 rfl ?_
  refine y_getR C zCl6 1 flX6_7 rfl rfl rfl dX6_mayDog_1 ?_
  refine z_iload_n C 1 rfl dX6_mayDog_4 rfl ?_
  refine y_zald C c.toNat (by omega) rfl (by omega) (by decide) dX6_mayDog_5 ?_
  refine z_if_ne C 21 dX6_mayDog_6 (by decide) (by omega) (fun h6 => ?_) (fun h6 => ?_)
  · refine z_iconst C dX6_mayDog_21 ?_
    exact zZ_zret C hR (Nat.le_refl _) (Nat.le_refl _) dX6_mayDog_22 rfl (Or.inl rfl) (zIs_I (by rw [hwm, decide_eq_true (show I 59 c.toNat = 1 by omega)]; rfl) rfl)
  · refine z_iload_n C 1 rfl dX6_mayDog_9 rfl ?_
    refine z_aload_n C 0 rfl dX6_mayDog_10 rfl ?_
    refine y_getI C zCl6 2 flX6_119 rfl rfl dX6_mayDog_11 ?_
    refine z_icmp_eq C 21 dX6_mayDog_14 (by decide) (by omega) (by omega) (fun h14 => ?_) (fun h14 => ?_)
    · refine z_iconst C dX6_mayDog_21 ?_
      exact zZ_zret C hR (Nat.le_refl _) (Nat.le_refl _) dX6_mayDog_22 rfl (Or.inl rfl) (zIs_I (by rw [decide_eq_true (show c = I 58 2 by omega)]; simp [bI]) rfl)
    · refine z_iconst C dX6_mayDog_17 ?_
      refine z_goto C 22 dX6_mayDog_18 (by decide) ?_
      exact zZ_zret C hR (Nat.le_refl _) (Nat.le_refl _) dX6_mayDog_22 rfl (Or.inr rfl) (zIs_I (by rw [hwm, decide_eq_false (show ¬ I 59 c.toNat = 1 by omega), decide_eq_false (show ¬ c = I 58 2 by omega)]; rfl) rfl)
set_option maxHeartbeats 4000000 in
set_option maxRecDepth 100000 in
theorem c_X6_wall {g : zG} {I : Nat → Nat → Int} {J : Nat → Nat → Int64} {q : Nat × Nat} {c : Int} {b : Bool} (hgr : gR I) (hrs : gRS (spR I)) (hrl : gRL I) (hc : -2147483648 ≤ c ∧ c ≤ 2147483647) : zRun g mX6_wall 2 [.ref 58, .int (iI c), .int (iI (bI b))] (zst I J q) (some (.int (iI (uR (fWall (VI I) c b) (bI (wallL (maskW (I 59)) c)))))) (zst (uK I (fWall (VI I) c b) (zu I 59 c.toNat (bI b))) J q) := by
  obtain ⟨b1, b2, b3, b4, b5, b6, b7⟩ := id hgr
  obtain ⟨k1, k2, k3⟩ := id hrs
  have k1 : gC7 (I 58 3) := k1
  have k2 : 0 ≤ I 58 4 ∧ I 58 4 ≤ 4 := k2
  have k3 : ∀ e, e < 5 → gC7 (I 62 e) := k3
  have k1' := k1.1
  have b2' := b2.1
  have v10 : VI I 1 0 = I 58 0 := congrArg (fun x => x) rfl
  have v11 : VI I 1 1 = I 58 2 := congrArg (fun x => x) rfl
  have v12 : VI I 1 2 = I 58 9 := congrArg (fun x => x) rfl
  have v16 : VI I 1 6 = I 58 5 := congrArg (fun x => x) rfl
  have v40 : VI I 4 0 = I 58 3 := congrArg (fun x => x) rfl
  have v41 : VI I 4 1 = I 58 4 := congrArg (fun x => x) rfl
  have v111 : VI I 11 1 = I 58 12 := congrArg (fun x => x) rfl
  have v13 : VI I 1 3 = I 58 10 := congrArg (fun x => x) rfl
  have v14 : VI I 1 4 = I 58 11 := congrArg (fun x => x) rfl
  refine zRuns_intro rfl (Nat.le_of_ble_eq_true rfl) (fun X C hR => ?_)
  show zZ g X 0 0 _ 0 [(0, .ref 58), (1, .int (iI c)), (2, .int (iI (bI b)))] []
  refine z_aload_n C 0 rfl dX6_wall_0 rfl ?_
  refine z_iload_n C 1 rfl dX6_wall_1 rfl ?_
  refine z_i2l C (iI c).toInt64 dX6_wall_2 rfl ?_
  refine y_callV1 C oX6_isCell iX6_isCell eX6_isCell lkX6_128 (c_X6_isCell hgr) rfl (by decide) rfl rfl (by decide) (Nat.le_refl _) (Nat.le_refl _) (Nat.le_of_ble_eq_true rfl) dX6_wall_3 ?_
  refine z_top C (bI (isCellN (I 58 0) c)) (by rw [i2l_toInt hc]) ?_
  refine y_if_neB C 16 dX6_wall_6 (by decide) (fun h6 => ?_) (fun h6 => ?_)
  · have hc7 := gC7_of b1.2 h6
    have hcr := hc7.1
    have hwm := wallMi (f := I 59) hc7
    have hw7 := b7 c.toNat (by have := hc7.1; omega)
    refine z_iload_n C 2 rfl dX6_wall_16 rfl ?_
    refine y_if_eqB C 35 dX6_wall_17 (by decide) (fun h17 => ?_) (fun h17 => ?_)
    · refine z_aload_n C 0 rfl dX6_wall_35 rfl ?_
      refine y_getR C zCl6 1 flX6_7 rfl rfl rfl dX6_wall_36 ?_
      refine z_iload_n C 1 rfl dX6_wall_39 rfl ?_
      refine y_zald C c.toNat (by omega) rfl (by omega) (by decide) dX6_wall_40 ?_
      refine z_if_eq C 48 dX6_wall_41 (by decide) (by omega) (fun h41 => ?_) (fun h41 => ?_)
      · refine z_iconst C dX6_wall_48 ?_
        refine z_istore_n C [(3, .int (iI 0)), (0, .ref 58), (1, .int (iI c)), (2, .int (iI (bI b)))] dX6_wall_49 rfl (by decide) rfl ?_
        refine z_aload_n C 1 rfl dX6_wall_50 rfl ?_
        refine y_getR C zCl6 1 flX6_7 rfl rfl rfl dX6_wall_51 ?_
        refine z_iload_n C 2 rfl dX6_wall_54 rfl ?_
        refine z_iload_n C 3 rfl dX6_wall_55 rfl ?_
        refine y_zast C c.toNat (by omega) rfl (by omega) (by decide) (bI_01 _) dX6_wall_56 ?_
        refine z_iload_n C 0 rfl dX6_wall_57 rfl ?_
        exact zZ_iret C hR (Nat.le_refl _) (Nat.le_refl _) dX6_wall_58 rfl (zIs_I (by rw [uR0 (show fWall (VI I) c b = 0 by (unfold fWall; simp only [mayWN_V, v10]; rw [if_neg (by rw [h6]; decide), if_neg (by rw [h17]; intro z; cases z.1)]))]; rw [hwm, decide_eq_false (by omega)]; rfl) (by rw [uK0 (show fWall (VI I) c b = 0 by (unfold fWall; simp only [mayWN_V, v10]; rw [if_neg (by rw [h6]; decide), if_neg (by rw [h17]; intro z; cases z.1)]))]))
      · refine z_iconst C dX6_wall_44 ?_
        refine z_goto C 49 dX6_wall_45 (by decide) ?_
        refine z_istore_n C [(3, .int (iI 1)), (0, .ref 58), (1, .int (iI c)), (2, .int (iI (bI b)))] dX6_wall_49 rfl (by decide) rfl ?_
        refine z_aload_n C 1 rfl dX6_wall_50 rfl ?_
        refine y_getR C zCl6 1 flX6_7 rfl rfl rfl dX6_wall_51 ?_
        refine z_iload_n C 2 rfl dX6_wall_54 rfl ?_
        refine z_iload_n C 3 rfl dX6_wall_55 rfl ?_
        refine y_zast C c.toNat (by omega) rfl (by omega) (by decide) (bI_01 _) dX6_wall_56 ?_
        refine z_iload_n C 0 rfl dX6_wall_57 rfl ?_
        exact zZ_iret C hR (Nat.le_refl _) (Nat.le_refl _) dX6_wall_58 rfl (zIs_I (by rw [uR0 (show fWall (VI I) c b = 0 by (unfold fWall; simp only [mayWN_V, v10]; rw [if_neg (by rw [h6]; decide), if_neg (by rw [h17]; intro z; cases z.1)]))]; rw [hwm, decide_eq_true (by omega)]; rfl) (by rw [uK0 (show fWall (VI I) c b = 0 by (unfold fWall; simp only [mayWN_V, v10]; rw [if_neg (by rw [h6]; decide), if_neg (by rw [h17]; intro z; cases z.1)]))]))
    · refine z_aload_n C 0 rfl dX6_wall_20 rfl ?_
      refine z_iload_n C 1 rfl dX6_wall_21 rfl ?_
      refine y_callV1 C oX6_mayWall iX6_mayWall eX6_mayWall lkX6_132 (c_X6_mayWall hgr hrs (by first | assumption | omega)) rfl (by decide) rfl rfl (by decide) (Nat.le_refl _) (Nat.le_refl _) (Nat.le_of_ble_eq_true rfl) dX6_wall_22 ?_
      refine y_if_neB C 35 dX6_wall_25 (by decide) (fun h25 => ?_) (fun h25 => ?_)
      · refine z_aload_n C 0 rfl dX6_wall_35 rfl ?_
        refine y_getR C zCl6 1 flX6_7 rfl rfl rfl dX6_wall_36 ?_
        refine z_iload_n C 1 rfl dX6_wall_39 rfl ?_
        refine y_zald C c.toNat (by omega) rfl (by omega) (by decide) dX6_wall_40 ?_
        refine z_if_eq C 48 dX6_wall_41 (by decide) (by omega) (fun h41 => ?_) (fun h41 => ?_)
        · refine z_iconst C dX6_wall_48 ?_
          refine z_istore_n C [(3, .int (iI 0)), (0, .ref 58), (1, .int (iI c)), (2, .int (iI (bI b)))] dX6_wall_49 rfl (by decide) rfl ?_
          refine z_aload_n C 1 rfl dX6_wall_50 rfl ?_
          refine y_getR C zCl6 1 flX6_7 rfl rfl rfl dX6_wall_51 ?_
          refine z_iload_n C 2 rfl dX6_wall_54 rfl ?_
          refine z_iload_n C 3 rfl dX6_wall_55 rfl ?_
          refine y_zast C c.toNat (by omega) rfl (by omega) (by decide) (bI_01 _) dX6_wall_56 ?_
          refine z_iload_n C 0 rfl dX6_wall_57 rfl ?_
          exact zZ_iret C hR (Nat.le_refl _) (Nat.le_refl _) dX6_wall_58 rfl (zIs_I (by rw [uR0 (show fWall (VI I) c b = 0 by (unfold fWall; simp only [mayWN_V, v10]; rw [if_neg (by rw [h6]; decide), if_neg (fun z => by have z2 := z.2; rw [h6, h25] at z2; cases z2)]))]; rw [hwm, decide_eq_false (by omega)]; rfl) (by rw [uK0 (show fWall (VI I) c b = 0 by (unfold fWall; simp only [mayWN_V, v10]; rw [if_neg (by rw [h6]; decide), if_neg (fun z => by have z2 := z.2; rw [h6, h25] at z2; cases z2)]))]))
        · refine z_iconst C dX6_wall_44 ?_
          refine z_goto C 49 dX6_wall_45 (by decide) ?_
          refine z_istore_n C [(3, .int (iI 1)), (0, .ref 58), (1, .int (iI c)), (2, .int (iI (bI b)))] dX6_wall_49 rfl (by decide) rfl ?_
          refine z_aload_n C 1 rfl dX6_wall_50 rfl ?_
          refine y_getR C zCl6 1 flX6_7 rfl rfl rfl dX6_wall_51 ?_
          refine z_iload_n C 2 rfl dX6_wall_54 rfl ?_
          refine z_iload_n C 3 rfl dX6_wall_55 rfl ?_
          refine y_zast C c.toNat (by omega) rfl (by omega) (by decide) (bI_01 _) dX6_wall_56 ?_
          refine z_iload_n C 0 rfl dX6_wall_57 rfl ?_
          exact zZ_iret C hR (Nat.le_refl _) (Nat.le_refl _) dX6_wall_58 rfl (zIs_I (by rw [uR0 (show fWall (VI I) c b = 0 by (unfold fWall; simp only [mayWN_V, v10]; rw [if_neg (by rw [h6]; decide), if_neg (fun z => by have z2 := z.2; rw [h6, h25] at z2; cases z2)]))]; rw [hwm, decide_eq_true (by omega)]; rfl) (by rw [uK0 (show fWall (VI I) c b = 0 by (unfold fWall; simp only [mayWN_V, v10]; rw [if_neg (by rw [h6]; decide), if_neg (fun z => by have z2 := z.2; rw [h6, h25] at z2; cases z2)]))]))
      · refine z_aload_n C 0 rfl dX6_wall_28 rfl ?_
        refine z_bipush C dX6_wall_29 (by decide) ?_
        refine y_callV1 C oX6_no iX6_no eX6_no lkX6_83 (c_X6_no (by first | assumption | omega)) rfl (by decide) rfl rfl (by decide) (Nat.le_refl _) (Nat.le_refl _) (Nat.le_of_ble_eq_true rfl) dX6_wall_31 ?_
        exact zZ_iret C hR (Nat.le_refl _) (Nat.le_refl _) dX6_wall_34 rfl (zIs_I (uRc (show fWall (VI I) c b = -5 by (try simp only [decide_eq_true_eq, decide_eq_false_iff_not, bI] at *); (unfold fWall; simp only [mayWN_V, v10]; (repeat' split) <;> first | rfl | omega | (exfalso; simp_all; done) | (exfalso; simp_all; omega))) (by decide)).symm (by rw [uKc (show fWall (VI I) c b = -5 by (try simp only [decide_eq_true_eq, decide_eq_false_iff_not, bI] at *); (unfold fWall; simp only [mayWN_V, v10]; (repeat' split) <;> first | rfl | omega | (exfalso; simp_all; done) | (exfalso; simp_all; omega))) (by decide)]))
  · refine z_aload_n C 0 rfl dX6_wall_9 rfl ?_
    refine z_bipush C dX6_wall_10 (by decide) ?_
    refine y_callV1 C oX6_no iX6_no eX6_no lkX6_83 (c_X6_no (by first | assumption | omega)) rfl (by decide) rfl rfl (by decide) (Nat.le_refl _) (Nat.le_refl _) (Nat.le_of_ble_eq_true rfl) dX6_wall_12 ?_
    exact zZ_iret C hR (Nat.le_refl _) (Nat.le_refl _) dX6_wall_15 rfl (zIs_I (uRc (show fWall (VI I) c b = -2 by (try simp only [decide_eq_true_eq, decide_eq_false_iff_not, bI] at *); (unfold fWall; simp only [mayWN_V, v10]; (repeat' split) <;> first | rfl | omega | (exfalso; simp_all; done) | (exfalso; simp_all; omega))) (by decide)).symm (by rw [uKc (show fWall (VI I) c b = -2 by (try simp only [decide_eq_true_eq, decide_eq_false_iff_not, bI] at *); (unfold fWall; simp only [mayWN_V, v10]; (repeat' split) <;> first | rfl | omega | (exfalso; simp_all; done) | (exfalso; simp_all; omega))) (by decide)]))
set_option maxHeartbeats 4000000 in
set_option maxRecDepth 100000 in
theorem c_X6_pen {g : zG} {I : Nat → Nat → Int} {J : Nat → Nat → Int64} {q : Nat × Nat} {c : Int} (hgr : gR I) (hrs : gRS (spR I)) (hrl : gRL I) (hc : -2147483648 ≤ c ∧ c ≤ 2147483647) : zRun g mX6_pen 3 [.ref 58, .int (iI c)] (zst I J q) (some (.int (iI (uR (fPen (VI I) (VJ I J) c) (I 58 2))))) (zst (uK I (fPen (VI I) (VJ I J) c) (zu I 58 2 c)) J q) := by
  obtain ⟨b1, b2, b3, b4, b5, b6, b7⟩ := id hgr
  obtain ⟨k1, k2, k3⟩ := id hrs
  have k1 : gC7 (I 58 3) := k1
  have k2 : 0 ≤ I 58 4 ∧ I 58 4 ≤ 4 := k2
  have k3 : ∀ e, e < 5 → gC7 (I 62 e) := k3
  have k1' := k1.1
  have b2' := b2.1
  have v10 : VI I 1 0 = I 58 0 := congrArg (fun x => x) rfl
  have v11 : VI I 1 1 = I 58 2 := congrArg (fun x => x) rfl
  have v12 : VI I 1 2 = I 58 9 := congrArg (fun x => x) rfl
  have v16 : VI I 1 6 = I 58 5 := congrArg (fun x => x) rfl
  have v40 : VI I 4 0 = I 58 3 := congrArg (fun x => x) rfl
  have v41 : VI I 4 1 = I 58 4 := congrArg (fun x => x) rfl
  have v111 : VI I 11 1 = I 58 12 := congrArg (fun x => x) rfl
  have v13 : VI I 1 3 = I 58 10 := congrArg (fun x => x) rfl
  have v14 : VI I 1 4 = I 58 11 := congrArg (fun x => x) rfl
  refine zRuns_intro rfl (Nat.le_of_ble_eq_true rfl) (fun X C hR => ?_)
  show zZ g X 0 0 _ 0 [(0, .ref 58), (1, .int (iI c))] []
  refine z_aload_n C 0 rfl dX6_pen_0 rfl ?_
  refine z_iload_n C 1 rfl dX6_pen_1 rfl ?_
  refine z_i2l C (iI c).toInt64 dX6_pen_2 rfl ?_
  refine y_callV1 C oX6_isCell iX6_isCell eX6_isCell lkX6_128 (c_X6_isCell hgr) rfl (by decide) rfl rfl (by decide) (Nat.le_refl _) (Nat.le_refl _) (Nat.le_of_ble_eq_true rfl) dX6_pen_3 ?_
  refine z_top C (bI (isCellN (I 58 0) c)) (by rw [i2l_toInt hc]) ?_
  refine y_if_neB C 16 dX6_pen_6 (by decide) (fun h6 => ?_) (fun h6 => ?_)
  · have hc7 := gC7_of b1.2 h6
    have hcr := hc7.1
    have hwm := wallMi (f := I 59) hc7
    have hw7 := b7 c.toNat (by have := hc7.1; omega)
    refine z_aload_n C 0 rfl dX6_pen_16 rfl ?_
    refine z_iload_n C 1 rfl dX6_pen_17 rfl ?_
    refine y_callV1 C oX6_mayPen iX6_mayPen eX6_mayPen lkX6_139 (c_X6_mayPen hgr hrs hc7) rfl (by decide) rfl rfl (by decide) (Nat.le_refl _) (Nat.le_refl _) (Nat.le_of_ble_eq_true rfl) dX6_pen_18 ?_
    refine y_if_neB C 31 dX6_pen_21 (by decide) (fun h21 => ?_) (fun h21 => ?_)
    · refine z_aload_n C 0 rfl dX6_pen_31 rfl ?_
      refine y_getI C zCl6 2 flX6_119 rfl rfl dX6_pen_32 ?_
      refine z_topI C (fun w ew => ?_)
      refine z_istore_n C [(2, .int (iI w)), (0, .ref 58), (1, .int (iI c))] dX6_pen_35 rfl (by decide) rfl ?_
      refine z_aload_n C 1 rfl dX6_pen_36 rfl ?_
      refine z_iload_n C 2 rfl dX6_pen_37 rfl ?_
      refine y_putI C zCl6 2 flX6_119 rfl rfl rfl rfl dX6_pen_38 ?_
      refine z_iload_n C 0 rfl dX6_pen_41 rfl ?_
      exact zZ_iret C hR (Nat.le_refl _) (Nat.le_refl _) dX6_pen_42 rfl (zIs_I ((ew).trans (uR0 (show fPen (VI I) (VJ I J) c = 0 by (unfold fPen; simp only [mayPN_V, v10]; rw [if_neg (by rw [h6]; decide), if_neg (fun z => by unfold openN at z; rw [h6, Bool.true_and, h21] at z; cases z)]))).symm) (by rw [uK0 (show fPen (VI I) (VJ I J) c = 0 by (unfold fPen; simp only [mayPN_V, v10]; rw [if_neg (by rw [h6]; decide), if_neg (fun z => by unfold openN at z; rw [h6, Bool.true_and, h21] at z; cases z)]))]))
    · refine z_aload_n C 0 rfl dX6_pen_24 rfl ?_
      refine z_bipush C dX6_pen_25 (by decide) ?_
      refine y_callV1 C oX6_no iX6_no eX6_no lkX6_83 (c_X6_no (by first | assumption | omega)) rfl (by decide) rfl rfl (by decide) (Nat.le_refl _) (Nat.le_refl _) (Nat.le_of_ble_eq_true rfl) dX6_pen_27 ?_
      exact zZ_iret C hR (Nat.le_refl _) (Nat.le_refl _) dX6_pen_30 rfl (zIs_I (uRc (show fPen (VI I) (VJ I J) c = -5 by (try simp only [decide_eq_true_eq, decide_eq_false_iff_not, bI] at *); (unfold fPen; simp only [mayPN_V, v10, openN]; (repeat' split) <;> first | rfl | omega | (exfalso; simp_all; done) | (exfalso; simp_all; omega))) (by decide)).symm (by rw [uKc (show fPen (VI I) (VJ I J) c = -5 by (try simp only [decide_eq_true_eq, decide_eq_false_iff_not, bI] at *); (unfold fPen; simp only [mayPN_V, v10, openN]; (repeat' split) <;> first | rfl | omega | (exfalso; simp_all; done) | (exfalso; simp_all; omega))) (by decide)]))
  · refine z_aload_n C 0 rfl dX6_pen_9 rfl ?_
    refine z_bipush C dX6_pen_10 (by decide) ?_
    refine y_callV1 C oX6_no iX6_no eX6_no lkX6_83 (c_X6_no (by first | assumption | omega)) rfl (by decide) rfl rfl (by decide) (Nat.le_refl _) (Nat.le_refl _) (Nat.le_of_ble_eq_true rfl) dX6_pen_12 ?_
    exact zZ_iret C hR (Nat.le_refl _) (Nat.le_refl _) dX6_pen_15 rfl (zIs_I (uRc (show fPen (VI I) (VJ I J) c = -2 by (try simp only [decide_eq_true_eq, decide_eq_false_iff_not, bI] at *); (unfold fPen; simp only [mayPN_V, v10, openN]; (repeat' split) <;> first | rfl | omega | (exfalso; simp_all; done) | (exfalso; simp_all; omega))) (by decide)).symm (by rw [uKc (show fPen (VI I) (VJ I J) c = -2 by (try simp only [decide_eq_true_eq, decide_eq_false_iff_not, bI] at *); (unfold fPen; simp only [mayPN_V, v10, openN]; (repeat' split) <;> first | rfl | omega | (exfalso; simp_all; done) | (exfalso; simp_all; omega))) (by decide)]))
set_option maxHeartbeats 4000000 in
set_option maxRecDepth 100000 in
theorem c_X6_dog {g : zG} {I : Nat → Nat → Int} {J : Nat → Nat → Int64} {q : Nat × Nat} {c : Int} (hgr : gR I) (hrs : gRS (spR I)) (hrl : gRL I) (hc : -2147483648 ≤ c ∧ c ≤ 2147483647) : zRun g mX6_dog 2 [.ref 58, .int (iI c)] (zst I J q) (some (.int (iI (uR (fDog (VI I) (VJ I J) c) (I 58 3))))) (zst (uK I (fDog (VI I) (VJ I J) c) (zu I 58 3 c)) J q) := by
  obtain ⟨b1, b2, b3, b4, b5, b6, b7⟩ := id hgr
  obtain ⟨k1, k2, k3⟩ := id hrs
  have k1 : gC7 (I 58 3) := k1
  have k2 : 0 ≤ I 58 4 ∧ I 58 4 ≤ 4 := k2
  have k3 : ∀ e, e < 5 → gC7 (I 62 e) := k3
  have k1' := k1.1
  have b2' := b2.1
  have v10 : VI I 1 0 = I 58 0 := congrArg (fun x => x) rfl
  have v11 : VI I 1 1 = I 58 2 := congrArg (fun x => x) rfl
  have v12 : VI I 1 2 = I 58 9 := congrArg (fun x => x) rfl
  have v16 : VI I 1 6 = I 58 5 := congrArg (fun x => x) rfl
  have v40 : VI I 4 0 = I 58 3 := congrArg (fun x => x) rfl
  have v41 : VI I 4 1 = I 58 4 := congrArg (fun x => x) rfl
  have v111 : VI I 11 1 = I 58 12 := congrArg (fun x => x) rfl
  have v13 : VI I 1 3 = I 58 10 := congrArg (fun x => x) rfl
  have v14 : VI I 1 4 = I 58 11 := congrArg (fun x => x) rfl
  refine zRuns_intro rfl (Nat.le_of_ble_eq_true rfl) (fun X C hR => ?_)
  show zZ g X 0 0 _ 0 [(0, .ref 58), (1, .int (iI c))] []
  refine z_aload_n C 0 rfl dX6_dog_0 rfl ?_
  refine z_iload_n C 1 rfl dX6_dog_1 rfl ?_
  refine z_i2l C (iI c).toInt64 dX6_dog_2 rfl ?_
  refine y_callV1 C oX6_isCell iX6_isCell eX6_isCell lkX6_128 (c_X6_isCell hgr) rfl (by decide) rfl rfl (by decide) (Nat.le_refl _) (Nat.le_refl _) (Nat.le_of_ble_eq_true rfl) dX6_dog_3 ?_
  refine z_top C (bI (isCellN (I 58 0) c)) (by rw [i2l_toInt hc]) ?_
  refine y_if_neB C 16 dX6_dog_6 (by decide) (fun h6 => ?_) (fun h6 => ?_)
  · have hc7 := gC7_of b1.2 h6
    have hcr := hc7.1
    have hwm := wallMi (f := I 59) hc7
    have hw7 := b7 c.toNat (by have := hc7.1; omega)
    refine z_aload_n C 0 rfl dX6_dog_16 rfl ?_
    refine z_iload_n C 1 rfl dX6_dog_17 rfl ?_
    refine y_callV1 C oX6_mayDog iX6_mayDog eX6_mayDog lkX6_142 (c_X6_mayDog hgr hrs hc7) rfl (by decide) rfl rfl (by decide) (Nat.le_refl _) (Nat.le_refl _) (Nat.le_of_ble_eq_true rfl) dX6_dog_18 ?_
    refine y_if_neB C 31 dX6_dog_21 (by decide) (fun h21 => ?_) (fun h21 => ?_)
    · refine z_aload_n C 0 rfl dX6_dog_31 rfl ?_
      refine y_getI C zCl6 3 flX6_61 rfl rfl dX6_dog_32 ?_
      refine z_topI C (fun w ew => ?_)
      refine z_istore_n C [(2, .int (iI w)), (0, .ref 58), (1, .int (iI c))] dX6_dog_35 rfl (by decide) rfl ?_
      refine z_aload_n C 1 rfl dX6_dog_36 rfl ?_
      refine z_iload_n C 2 rfl dX6_dog_37 rfl ?_
      refine y_putI C zCl6 3 flX6_61 rfl rfl rfl rfl dX6_dog_38 ?_
      refine z_iload_n C 0 rfl dX6_dog_41 rfl ?_
      exact zZ_iret C hR (Nat.le_refl _) (Nat.le_refl _) dX6_dog_42 rfl (zIs_I ((ew).trans (uR0 (show fDog (VI I) (VJ I J) c = 0 by (unfold fDog; simp only [VJ_15, v10, v11]; rw [if_neg (by rw [h6]; decide), if_neg (fun z => by unfold dogsN openN at z; rw [h6, Bool.true_and, Bool.and_comm, h21] at z; cases z)]))).symm) (by rw [uK0 (show fDog (VI I) (VJ I J) c = 0 by (unfold fDog; simp only [VJ_15, v10, v11]; rw [if_neg (by rw [h6]; decide), if_neg (fun z => by unfold dogsN openN at z; rw [h6, Bool.true_and, Bool.and_comm, h21] at z; cases z)]))]))
    · refine z_aload_n C 0 rfl dX6_dog_24 rfl ?_
      refine z_bipush C dX6_dog_25 (by decide) ?_
      refine y_callV1 C oX6_no iX6_no eX6_no lkX6_83 (c_X6_no (by first | assumption | omega)) rfl (by decide) rfl rfl (by decide) (Nat.le_refl _) (Nat.le_refl _) (Nat.le_of_ble_eq_true rfl) dX6_dog_27 ?_
      exact zZ_iret C hR (Nat.le_refl _) (Nat.le_refl _) dX6_dog_30 rfl (zIs_I (uRc (show fDog (VI I) (VJ I J) c = -5 by (try simp only [decide_eq_true_eq, decide_eq_false_iff_not, bI] at *); (unfold fDog; simp only [VJ_15, v10, v11, dogsN, openN]; (repeat' split) <;> first | rfl | omega | (exfalso; simp_all; done) | (exfalso; simp_all; omega))) (by decide)).symm (by rw [uKc (show fDog (VI I) (VJ I J) c = -5 by (try simp only [decide_eq_true_eq, decide_eq_false_iff_not, bI] at *); (unfold fDog; simp only [VJ_15, v10, v11, dogsN, openN]; (repeat' split) <;> first | rfl | omega | (exfalso; simp_all; done) | (exfalso; simp_all; omega))) (by decide)]))
  · refine z_aload_n C 0 rfl dX6_dog_9 rfl ?_
    refine z_bipush C dX6_dog_10 (by decide) ?_
    refine y_callV1 C oX6_no iX6_no eX6_no lkX6_83 (c_X6_no (by first | assumption | omega)) rfl (by decide) rfl rfl (by decide) (Nat.le_refl _) (Nat.le_refl _) (Nat.le_of_ble_eq_true rfl) dX6_dog_12 ?_
    exact zZ_iret C hR (Nat.le_refl _) (Nat.le_refl _) dX6_dog_15 rfl (zIs_I (uRc (show fDog (VI I) (VJ I J) c = -2 by (try simp only [decide_eq_true_eq, decide_eq_false_iff_not, bI] at *); (unfold fDog; simp only [VJ_15, v10, v11, dogsN, openN]; (repeat' split) <;> first | rfl | omega | (exfalso; simp_all; done) | (exfalso; simp_all; omega))) (by decide)).symm (by rw [uKc (show fDog (VI I) (VJ I J) c = -2 by (try simp only [decide_eq_true_eq, decide_eq_false_iff_not, bI] at *); (unfold fDog; simp only [VJ_15, v10, v11, dogsN, openN]; (repeat' split) <;> first | rfl | omega | (exfalso; simp_all; done) | (exfalso; simp_all; omega))) (by decide)]))
set_option maxHeartbeats 4000000 in
set_option maxRecDepth 100000 in
theorem c_X6_newEwe {g : zG} {I : Nat → Nat → Int} {J : Nat → Nat → Int64} {q : Nat × Nat} {kd a c : Int} (hn6 : 0 ≤ I 58 5 ∧ I 58 5 < 5) : zRun g mX6_newEwe 0 [.ref 58, .int (iI kd), .int (iI a), .int (iI c)] (zst I J q) (some (.int (iI (I 58 5)))) (zst (zu (zu (zu (zu I 60 (I 58 5).toNat kd) 61 (I 58 5).toNat a) 62 (I 58 5).toNat c) 58 5 (I 58 5 + 1)) J q) := by
  refine zRuns_intro rfl (Nat.le_of_ble_eq_true rfl) (fun X C hR => ?_)
  show zZ g X 0 0 _ 0 [(0, .ref 58), (1, .int (iI kd)), (2, .int (iI a)), (3, .int (iI c))] []
  refine z_aload_n C 0 rfl dX6_newEwe_0 rfl ?_
  refine y_getR C zCl6 6 flX6_13 rfl rfl rfl dX6_newEwe_1 ?_
  refine z_aload_n C 0 rfl dX6_newEwe_4 rfl ?_
  refine y_getI C zCl6 5 flX6_72 rfl rfl dX6_newEwe_5 ?_
  refine z_iload_n C 1 rfl dX6_newEwe_8 rfl ?_
  refine y_iast C (I 58 5).toNat (by omega) rfl (by omega) (by decide) dX6_newEwe_9 ?_
  refine z_aload_n C 0 rfl dX6_newEwe_10 rfl ?_
  refine y_getR C zCl6 7 flX6_17 rfl rfl rfl dX6_newEwe_11 ?_
  refine z_aload_n C 0 rfl dX6_newEwe_14 rfl ?_
  refine y_getI C zCl6 5 flX6_72 rfl rfl dX6_newEwe_15 ?_
  refine z_top C (I 58 5) (rfl) ?_
  refine z_iload_n C 2 rfl dX6_newEwe_18 rfl ?_
  refine y_iast C (I 58 5).toNat (by omega) rfl (by omega) (by decide) dX6_newEwe_19 ?_
  refine z_aload_n C 0 rfl dX6_newEwe_20 rfl ?_
  refine y_getR C zCl6 8 flX6_20 rfl rfl rfl dX6_newEwe_21 ?_
  refine z_aload_n C 0 rfl dX6_newEwe_24 rfl ?_
  refine y_getI C zCl6 5 flX6_72 rfl rfl dX6_newEwe_25 ?_
  refine z_top C (I 58 5) (rfl) ?_
  refine z_iload_n C 3 rfl dX6_newEwe_28 rfl ?_
  refine y_iast C (I 58 5).toNat (by omega) rfl (by omega) (by decide) dX6_newEwe_29 ?_
  refine z_aload_n C 0 rfl dX6_newEwe_30 rfl ?_
  refine z_dup C dX6_newEwe_31 rfl ?_
  refine y_getI C zCl6 5 flX6_72 rfl rfl dX6_newEwe_32 ?_
  refine z_top C (I 58 5) (rfl) ?_
  refine z_dup_x1 C dX6_newEwe_35 rfl rfl ?_
  refine z_iconst C dX6_newEwe_36 ?_
  refine z_iadd C dX6_newEwe_37 ?_
  refine y_putI C zCl6 5 flX6_72 rfl rfl rfl rfl dX6_newEwe_38 ?_
  exact zZ_iret C hR (Nat.le_refl _) (Nat.le_refl _) dX6_newEwe_41 rfl (zIs_I rfl rfl)
