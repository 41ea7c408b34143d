set_option maxHeartbeats 4000000 in
set_option maxRecDepth 100000 in
theorem c_X6_ewe {g : zG} {I : Nat → Nat → Int} {J : Nat → Nat → Int64} {q : Nat × Nat} {kd a c : Int} (hgr : gR I) (hrs : gRS (spR I)) (hrl : gRL I) (hk : -2147483648 ≤ kd ∧ kd ≤ 2147483647) (ha : -2147483648 ≤ a ∧ a ≤ 2147483647) (hc : -2147483648 ≤ c ∧ c ≤ 2147483647) : zRun g mX6_ewe 2 [.ref 58, .int (iI kd), .int (iI a), .int (iI c)] (zst I J q) (some (.int (iI (uR (fEwe (VI I) (VJ I J) kd a c) (I 58 5))))) (zst (uK I (fEwe (VI I) (VJ I J) kd a c) (zu (zu (zu (zu I 60 (I 58 5).toNat kd) 61 (I 58 5).toNat a) 62 (I 58 5).toNat c) 58 5 (I 58 5 + 1))) J q) := by
  obtain ⟨b1, b2, b3, b4, b5, b6, b7⟩ := id hgr
  obtain ⟨k1, k2, k3⟩ := id hrs
  have k1 : gC7 (I 58 3) := k1
  have k2 : 0 ≤ I 58 4 ∧ I 58 4 ≤ 4 := k2
  have k3 : ∀ e, e < 5 → gC7 (I 62 e) := k3
  have k1' := k1.1
  have b2' := b2.1
  have v10 : VI I 1 0 = I 58 0 := congrArg (fun x => x) rfl
  have v11 : VI I 1 1 = I 58 2 := congrArg (fun x => x) rfl
  have v12 : VI I 1 2 = I 58 9 := congrArg (fun x => x) rfl
  have v16 : VI I 1 6 = I 58 5 := congrArg (fun x => x) rfl
  have v40 : VI I 4 0 = I 58 3 := congrArg (fun x => x) rfl
  have v41 : VI I 4 1 = I 58 4 := congrArg (fun x => x) rfl
  have v111 : VI I 11 1 = I 58 12 := congrArg (fun x => x) rfl
  have v13 : VI I 1 3 = I 58 10 := congrArg (fun x => x) rfl
  have v14 : VI I 1 4 = I 58 11 := congrArg (fun x => x) rfl
  refine zRuns_intro rfl (Nat.le_of_ble_eq_true rfl) (fun X C hR => ?_)
  show zZ g X 0 0 _ 0 [(0, .ref 58), (1, .int (iI kd)), (2, .int (iI a)), (3, .int (iI c))] []
  refine z_iload_n C 1 rfl dX6_ewe_0 rfl ?_
  refine z_iconst C dX6_ewe_1 ?_
  refine z_iconst C dX6_ewe_2 ?_
  refine y_callS3 C oX6_within sX6_within lkX6_75 (c_X6_within (by first | assumption | omega) (by first | assumption | omega) (by first | assumption | omega)) (by decide) (Nat.le_refl _) (Nat.le_refl _) (Nat.le_of_ble_eq_true rfl) dX6_ewe_3 ?_
  refine y_if_eqB C 28 dX6_ewe_6 (by decide) (fun h6 => ?_) (fun h6 => ?_)
  · refine z_aload_n C 0 rfl dX6_ewe_28 rfl ?_
    refine z_bipush C dX6_ewe_29 (by decide) ?_
    refine y_callV1 C oX6_no iX6_no eX6_no lkX6_83 (c_X6_no (by first | assumption | omega)) rfl (by decide) rfl rfl (by decide) (Nat.le_refl _) (Nat.le_refl _) (Nat.le_of_ble_eq_true rfl) dX6_ewe_31 ?_
    exact zZ_iret C hR (Nat.le_refl _) (Nat.le_refl _) dX6_ewe_34 rfl (zIs_I (uRc (show fEwe (VI I) (VJ I J) kd a c = -2 by (try simp only [decide_eq_true_eq, decide_eq_false_iff_not, bI] at *); (unfold fEwe; simp only [VJ_15, v10, v16, openN]; (repeat' split) <;> first | rfl | omega | (exfalso; simp_all; done) | (exfalso; simp_all; omega))) (by decide)).symm (by rw [uKc (show fEwe (VI I) (VJ I J) kd a c = -2 by (try simp only [decide_eq_true_eq, decide_eq_false_iff_not, bI] at *); (unfold fEwe; simp only [VJ_15, v10, v16, openN]; (repeat' split) <;> first | rfl | omega | (exfalso; simp_all; done) | (exfalso; simp_all; omega))) (by decide)]))
  · refine z_iload_n C 2 rfl dX6_ewe_9 rfl ?_
    refine z_iconst C dX6_ewe_10 ?_
    refine z_bipush C dX6_ewe_11 (by decide) ?_
    refine y_callS3 C oX6_within sX6_within lkX6_75 (c_X6_within (by first | assumption | omega) (by first | assumption | omega) (by first | assumption | omega)) (by decide) (Nat.le_refl _) (Nat.le_refl _) (Nat.le_of_ble_eq_true rfl) dX6_ewe_13 ?_
    refine y_if_eqB C 28 dX6_ewe_16 (by decide) (fun h16 => ?_) (fun h16 => ?_)
    · refine z_aload_n C 0 rfl dX6_ewe_28 rfl ?_
      refine z_bipush C dX6_ewe_29 (by decide) ?_
      refine y_callV1 C oX6_no iX6_no eX6_no lkX6_83 (c_X6_no (by first | assumption | omega)) rfl (by decide) rfl rfl (by decide) (Nat.le_refl _) (Nat.le_refl _) (Nat.le_of_ble_eq_true rfl) dX6_ewe_31 ?_
      exact zZ_iret C hR (Nat.le_refl _) (Nat.le_refl _) dX6_ewe_34 rfl (zIs_I (uRc (show fEwe (VI I) (VJ I J) kd a c = -2 by (try simp only [decide_eq_true_eq, decide_eq_false_iff_not, bI] at *); (unfold fEwe; simp only [VJ_15, v10, v16, openN]; (repeat' split) <;> first | rfl | omega | (exfalso; simp_all; done) | (exfalso; simp_all; omega))) (by decide)).symm (by rw [uKc (show fEwe (VI I) (VJ I J) kd a c = -2 by (try simp only [decide_eq_true_eq, decide_eq_false_iff_not, bI] at *); (unfold fEwe; simp only [VJ_15, v10, v16, openN]; (repeat' split) <;> first | rfl | omega | (exfalso; simp_all; done) | (exfalso; simp_all; omega))) (by decide)]))
    · refine z_aload_n C 0 rfl dX6_ewe_19 rfl ?_
      refine z_iload_n C 3 rfl dX6_ewe_20 rfl ?_
      refine z_i2l C (iI c).toInt64 dX6_ewe_21 rfl ?_
      refine y_callV1 C oX6_isCell iX6_isCell eX6_isCell lkX6_128 (c_X6_isCell hgr) rfl (by decide) rfl rfl (by decide) (Nat.le_refl _) (Nat.le_refl _) (Nat.le_of_ble_eq_true rfl) dX6_ewe_22 ?_
      refine z_top C (bI (isCellN (I 58 0) c)) (by rw [i2l_toInt hc]) ?_
      refine y_if_neB C 35 dX6_ewe_25 (by decide) (fun h25 => ?_) (fun h25 => ?_)
      · have hc7 := gC7_of b1.2 h25
        have hcr := hc7.1
        have hwm := wallMi (f := I 59) hc7
        have hw7 := b7 c.toNat (by have := hc7.1; omega)
        refine z_aload_n C 0 rfl dX6_ewe_35 rfl ?_
        refine y_getR C zCl6 1 flX6_7 rfl rfl rfl dX6_ewe_36 ?_
        refine z_iload_n C 3 rfl dX6_ewe_39 rfl ?_
        refine y_zald C c.toNat (by omega) rfl (by omega) (by decide) dX6_ewe_40 ?_
        refine z_if_eq C 51 dX6_ewe_41 (by decide) (by omega) (fun h41 => ?_) (fun h41 => ?_)
        · have hwf : wallL (maskW (I 59)) c = false := by rw [hwm]; exact decide_eq_false (by omega)
          have q1 : 0 ≤ kd ∧ kd ≤ 5 := by simpa using h6
          have q2 : 0 ≤ a ∧ a ≤ 9 := by simpa using h16
          refine z_aload_n C 0 rfl dX6_ewe_51 rfl ?_
          refine y_getI C zCl6 5 flX6_72 rfl rfl dX6_ewe_52 ?_
          refine z_iconst C dX6_ewe_55 ?_
          refine z_icmp_ne C 68 dX6_ewe_56 (by decide) (by omega) (by omega) (fun h56 => ?_) (fun h56 => ?_)
          · refine z_aload_n C 0 rfl dX6_ewe_68 rfl ?_
            refine z_iload_n C 1 rfl dX6_ewe_69 rfl ?_
            refine z_iload_n C 2 rfl dX6_ewe_70 rfl ?_
            refine z_iload_n C 3 rfl dX6_ewe_71 rfl ?_
            refine y_callV3 C oX6_newEwe iX6_newEwe eX6_newEwe lkX6_145 (c_X6_newEwe (by first | assumption | omega)) rfl (by decide) rfl rfl (by decide) (Nat.le_refl _) (Nat.le_refl _) (Nat.le_of_ble_eq_true rfl) dX6_ewe_72 ?_
            exact zZ_iret C hR (Nat.le_refl _) (Nat.le_refl _) dX6_ewe_75 rfl (zIs_I ((rfl).trans (uR0 (show fEwe (VI I) (VJ I J) kd a c = 0 by (unfold fEwe; simp only [VJ_15, v10, v16, openN]; rw [h25, hwf, if_neg (fun z => z ⟨by omega, by omega, rfl⟩), if_neg (by decide), if_neg (by omega)]))).symm) (by rw [uK0 (show fEwe (VI I) (VJ I J) kd a c = 0 by (unfold fEwe; simp only [VJ_15, v10, v16, openN]; rw [h25, hwf, if_neg (fun z => z ⟨by omega, by omega, rfl⟩), if_neg (by decide), if_neg (by omega)]))]))
          · refine z_aload_n C 0 rfl dX6_ewe_59 rfl ?_
            refine z_bipush C dX6_ewe_60 (by decide) ?_
            refine y_callV1 C oX6_no iX6_no eX6_no lkX6_83 (c_X6_no (by first | assumption | omega)) rfl (by decide) rfl rfl (by decide) (Nat.le_refl _) (Nat.le_refl _) (Nat.le_of_ble_eq_true rfl) dX6_ewe_62 ?_
            refine z_goto C 75 dX6_ewe_65 (by decide) ?_
            exact zZ_iret C hR (Nat.le_refl _) (Nat.le_refl _) dX6_ewe_75 rfl (zIs_I (uRc (show fEwe (VI I) (VJ I J) kd a c = -6 by (try simp only [decide_eq_true_eq, decide_eq_false_iff_not, bI] at *); (unfold fEwe; simp only [VJ_15, v10, v16, openN]; (repeat' split) <;> first | rfl | omega | (exfalso; simp_all; done) | (exfalso; simp_all; omega))) (by decide)).symm (by rw [uKc (show fEwe (VI I) (VJ I J) kd a c = -6 by (try simp only [decide_eq_true_eq, decide_eq_false_iff_not, bI] at *); (unfold fEwe; simp only [VJ_15, v10, v16, openN]; (repeat' split) <;> first | rfl | omega | (exfalso; simp_all; done) | (exfalso; simp_all; omega))) (by decide)]))
        · have hwt : wallL (maskW (I 59)) c = true := by rw [hwm]; exact decide_eq_true (by omega)
          refine z_aload_n C 0 rfl dX6_ewe_44 rfl ?_
          refine z_bipush C dX6_ewe_45 (by decide) ?_
          refine y_callV1 C oX6_no iX6_no eX6_no lkX6_83 (c_X6_no (by first | assumption | omega)) rfl (by decide) rfl rfl (by decide) (Nat.le_refl _) (Nat.le_refl _) (Nat.le_of_ble_eq_true rfl) dX6_ewe_47 ?_
          exact zZ_iret C hR (Nat.le_refl _) (Nat.le_refl _) dX6_ewe_50 rfl (zIs_I (uRc (show fEwe (VI I) (VJ I J) kd a c = -5 by (try simp only [decide_eq_true_eq, decide_eq_false_iff_not, bI] at *); (unfold fEwe; simp only [VJ_15, v10, v16, openN]; (repeat' split) <;> first | rfl | omega | (exfalso; simp_all; done) | (exfalso; simp_all; omega))) (by decide)).symm (by rw [uKc (show fEwe (VI I) (VJ I J) kd a c = -5 by (try simp only [decide_eq_true_eq, decide_eq_false_iff_not, bI] at *); (unfold fEwe; simp only [VJ_15, v10, v16, openN]; (repeat' split) <;> first | rfl | omega | (exfalso; simp_all; done) | (exfalso; simp_all; omega))) (by decide)]))
      · refine z_aload_n C 0 rfl dX6_ewe_28 rfl ?_
        refine z_bipush C dX6_ewe_29 (by decide) ?_
        refine y_callV1 C oX6_no iX6_no eX6_no lkX6_83 (c_X6_no (by first | assumption | omega)) rfl (by decide) rfl rfl (by decide) (Nat.le_refl _) (Nat.le_refl _) (Nat.le_of_ble_eq_true rfl) dX6_ewe_31 ?_
        exact zZ_iret C hR (Nat.le_refl _) (Nat.le_refl _) dX6_ewe_34 rfl (zIs_I (uRc (show fEwe (VI I) (VJ I J) kd a c = -2 by (try simp only [decide_eq_true_eq, decide_eq_false_iff_not, bI] at *); (unfold fEwe; simp only [VJ_15, v10, v16, openN]; (repeat' split) <;> first | rfl | omega | (exfalso; simp_all; done) | (exfalso; simp_all; omega))) (by decide)).symm (by rw [uKc (show fEwe (VI I) (VJ I J) kd a c = -2 by (try simp only [decide_eq_true_eq, decide_eq_false_iff_not, bI] at *); (unfold fEwe; simp only [VJ_15, v10, v16, openN]; (repeat' split) <;> first | rfl | omega | (exfalso; simp_all; done) | (exfalso; simp_all; omega))) (by decide)]))
set_option maxHeartbeats 4000000 in
set_option maxRecDepth 100000 in
theorem c_X6_move {g : zG} {I : Nat → Nat → Int} {J : Nat → Nat → Int64} {q : Nat × Nat} {e c : Int} (hgr : gR I) (hrs : gRS (spR I)) (hrl : gRL I) (he : -2147483648 ≤ e ∧ e ≤ 2147483647) (hc : -2147483648 ≤ c ∧ c ≤ 2147483647) : zRun g mX6_move 2 [.ref 58, .int (iI e), .int (iI c)] (zst I J q) (some (.int (iI (uR (fMove (VI I) (VJ I J) e c) (I 62 e.toNat))))) (zst (uK I (fMove (VI I) (VJ I J) e c) (zu I 62 e.toNat c)) J q) := by
  obtain ⟨b1, b2, b3, b4, b5, b6, b7⟩ := id hgr
  obtain ⟨k1, k2, k3⟩ := id hrs
  have k1 : gC7 (I 58 3) := k1
  have k2 : 0 ≤ I 58 4 ∧ I 58 4 ≤ 4 := k2
  have k3 : ∀ e, e < 5 → gC7 (I 62 e) := k3
  have k1' := k1.1
  have b2' := b2.1
  have v10 : VI I 1 0 = I 58 0 := congrArg (fun x => x) rfl
  have v11 : VI I 1 1 = I 58 2 := congrArg (fun x => x) rfl
  have v12 : VI I 1 2 = I 58 9 := congrArg (fun x => x) rfl
  have v16 : VI I 1 6 = I 58 5 := congrArg (fun x => x) rfl
  have v40 : VI I 4 0 = I 58 3 := congrArg (fun x => x) rfl
  have v41 : VI I 4 1 = I 58 4 := congrArg (fun x => x) rfl
  have v111 : VI I 11 1 = I 58 12 := congrArg (fun x => x) rfl
  have v13 : VI I 1 3 = I 58 10 := congrArg (fun x => x) rfl
  have v14 : VI I 1 4 = I 58 11 := congrArg (fun x => x) rfl
  refine zRuns_intro rfl (Nat.le_of_ble_eq_true rfl) (fun X C hR => ?_)
  show zZ g X 0 0 _ 0 [(0, .ref 58), (1, .int (iI e)), (2, .int (iI c))] []
  refine z_aload_n C 0 rfl dX6_move_0 rfl ?_
  refine z_iload_n C 1 rfl dX6_move_1 rfl ?_
  refine y_callV1 C oX6_isEwe iX6_isEwe eX6_isEwe lkX6_97 (c_X6_isEwe hgr (by first | assumption | omega)) rfl (by decide) rfl rfl (by decide) (Nat.le_refl _) (Nat.le_refl _) (Nat.le_of_ble_eq_true rfl) dX6_move_2 ?_
  refine y_if_eqB C 17 dX6_move_5 (by decide) (fun h5 => ?_) (fun h5 => ?_)
  · refine z_aload_n C 0 rfl dX6_move_17 rfl ?_
    refine z_bipush C dX6_move_18 (by decide) ?_
    refine y_callV1 C oX6_no iX6_no eX6_no lkX6_83 (c_X6_no (by first | assumption | omega)) rfl (by decide) rfl rfl (by decide) (Nat.le_refl _) (Nat.le_refl _) (Nat.le_of_ble_eq_true rfl) dX6_move_20 ?_
    exact zZ_iret C hR (Nat.le_refl _) (Nat.le_refl _) dX6_move_23 rfl (zIs_I (uRc (show fMove (VI I) (VJ I J) e c = -2 by (try simp only [decide_eq_true_eq, decide_eq_false_iff_not, bI] at *); (unfold fMove; simp only [VJ_15, v10, v16, openN]; (repeat' split) <;> first | rfl | omega | (exfalso; simp_all; done) | (exfalso; simp_all; omega))) (by decide)).symm (by rw [uKc (show fMove (VI I) (VJ I J) e c = -2 by (try simp only [decide_eq_true_eq, decide_eq_false_iff_not, bI] at *); (unfold fMove; simp only [VJ_15, v10, v16, openN]; (repeat' split) <;> first | rfl | omega | (exfalso; simp_all; done) | (exfalso; simp_all; omega))) (by decide)]))
  · have her : 0 ≤ e ∧ e < I 58 5 := by simpa using h5
    refine z_aload_n C 0 rfl dX6_move_8 rfl ?_
    refine z_iload_n C 2 rfl dX6_move_9 rfl ?_
    refine z_i2l C (iI c).toInt64 dX6_move_10 rfl ?_
    refine y_callV1 C oX6_isCell iX6_isCell eX6_isCell lkX6_128 (c_X6_isCell hgr) rfl (by decide) rfl rfl (by decide) (Nat.le_refl _) (Nat.le_refl _) (Nat.le_of_ble_eq_true rfl) dX6_move_11 ?_
    refine z_top C (bI (isCellN (I 58 0) c)) (by rw [i2l_toInt hc]) ?_
    refine y_if_neB C 24 dX6_move_14 (by decide) (fun h14 => ?_) (fun h14 => ?_)
    · have hc7 := gC7_of b1.2 h14
      have hcr := hc7.1
      have hwm := wallMi (f := I 59) hc7
      have hw7 := b7 c.toNat (by have := hc7.1; omega)
      refine z_aload_n C 0 rfl dX6_move_24 rfl ?_
      refine y_getR C zCl6 1 flX6_7 rfl rfl rfl dX6_move_25 ?_
      refine z_iload_n C 2 rfl dX6_move_28 rfl ?_
      refine y_zald C c.toNat (by omega) rfl (by omega) (by decide) dX6_move_29 ?_
      refine z_if_eq C 40 dX6_move_30 (by decide) (by omega) (fun h30 => ?_) (fun h30 => ?_)
      · have hwf : wallL (maskW (I 59)) c = false := by rw [hwm]; exact decide_eq_false (by omega)
        refine z_aload_n C 0 rfl dX6_move_40 rfl ?_
        refine y_getR C zCl6 8 flX6_20 rfl rfl rfl dX6_move_41 ?_
        refine z_iload_n C 1 rfl dX6_move_44 rfl ?_
        refine y_iald C e.toNat (by omega) rfl (by omega) (by decide) dX6_move_45 ?_
        refine z_topI C (fun w ew => ?_)
        refine z_istore_n C [(3, .int (iI w)), (0, .ref 58), (1, .int (iI e)), (2, .int (iI c))] dX6_move_46 rfl (by decide) rfl ?_
        refine z_aload_n C 1 rfl dX6_move_47 rfl ?_
        refine y_getR C zCl6 8 flX6_20 rfl rfl rfl dX6_move_48 ?_
        refine z_iload_n C 2 rfl dX6_move_51 rfl ?_
        refine z_iload_n C 3 rfl dX6_move_52 rfl ?_
        refine y_iast C e.toNat (by omega) rfl (by omega) (by decide) dX6_move_53 ?_
        refine z_iload_n C 0 rfl dX6_move_54 rfl ?_
        exact zZ_iret C hR (Nat.le_refl _) (Nat.le_refl _) dX6_move_55 rfl (zIs_I ((ew).trans (uR0 (show fMove (VI I) (VJ I J) e c = 0 by (unfold fMove; simp only [VJ_15, v10, v16, openN]; rw [h14, hwf, if_neg (fun z => z ⟨her, rfl⟩), if_neg (by decide)]))).symm) (by rw [uK0 (show fMove (VI I) (VJ I J) e c = 0 by (unfold fMove; simp only [VJ_15, v10, v16, openN]; rw [h14, hwf, if_neg (fun z => z ⟨her, rfl⟩), if_neg (by decide)]))]))
      · have hwt : wallL (maskW (I 59)) c = true := by rw [hwm]; exact decide_eq_true (by omega)
        refine z_aload_n C 0 rfl dX6_move_33 rfl ?_
        refine z_bipush C dX6_move_34 (by decide) ?_
        refine y_callV1 C oX6_no iX6_no eX6_no lkX6_83 (c_X6_no (by first | assumption | omega)) rfl (by decide) rfl rfl (by decide) (Nat.le_refl _) (Nat.le_refl _) (Nat.le_of_ble_eq_true rfl) dX6_move_36 ?_
        exact zZ_iret C hR (Nat.le_refl _) (Nat.le_refl _) dX6_move_39 rfl (zIs_I (uRc (show fMove (VI I) (VJ I J) e c = -5 by (try simp only [decide_eq_true_eq, decide_eq_false_iff_not, bI] at *); (unfold fMove; simp only [VJ_15, v10, v16, openN]; (repeat' split) <;> first | rfl | omega | (exfalso; simp_all; done) | (exfalso; simp_all; omega))) (by decide)).symm (by rw [uKc (show fMove (VI I) (VJ I J) e c = -5 by (try simp only [decide_eq_true_eq, decide_eq_false_iff_not, bI] at *); (unfold fMove; simp only [VJ_15, v10, v16, openN]; (repeat' split) <;> first | rfl | omega | (exfalso; simp_all; done) | (exfalso; simp_all; omega))) (by decide)]))
    · refine z_aload_n C 0 rfl dX6_move_17 rfl ?_
      refine z_bipush C dX6_move_18 (by decide) ?_
      refine y_callV1 C oX6_no iX6_no eX6_no lkX6_83 (c_X6_no (by first | assumption | omega)) rfl (by decide) rfl rfl (by decide) (Nat.le_refl _) (Nat.le_refl _) (Nat.le_of_ble_eq_true rfl) dX6_move_20 ?_
      exact zZ_iret C hR (Nat.le_refl _) (Nat.le_refl _) dX6_move_23 rfl (zIs_I (uRc (show fMove (VI I) (VJ I J) e c = -2 by (try simp only [decide_eq_true_eq, decide_eq_false_iff_not, bI] at *); (unfold fMove; simp only [VJ_15, v10, v16, openN]; (repeat' split) <;> first | rfl | omega | (exfalso; simp_all; done) | (exfalso; simp_all; omega))) (by decide)).symm (by rw [uKc (show fMove (VI I) (VJ I J) e c = -2 by (try simp only [decide_eq_true_eq, decide_eq_false_iff_not, bI] at *); (unfold fMove; simp only [VJ_15, v10, v16, openN]; (repeat' split) <;> first | rfl | omega | (exfalso; simp_all; done) | (exfalso; simp_all; omega))) (by decide)]))
set_option maxHeartbeats 4000000 in
set_option maxRecDepth 100000 in
theorem c_X6_hasWall {g : zG} {I : Nat → Nat → Int} {J : Nat → Nat → Int64} {q : Nat × Nat} {c : Int} (hgr : gR I) (hrs : gRS (spR I)) (hrl : gRL I) (hc : -2147483648 ≤ c ∧ c ≤ 2147483647) : zRun g mX6_hasWall 2 [.ref 58, .int (iI c)] (zst I J q) (some (.int (iI (uR (fHasW (VI I) c) (bI (wallL (maskW (I 59)) c)))))) (zst (uK I (fHasW (VI I) c) (I)) J q) := by
  obtain ⟨b1, b2, b3, b4, b5, b6, b7⟩ := id hgr
  obtain ⟨k1, k2, k3⟩ := id hrs
  have k1 : gC7 (I 58 3) := k1
  have k2 : 0 ≤ I 58 4 ∧ I 58 4 ≤ 4 := k2
  have k3 : ∀ e, e < 5 → gC7 (I 62 e) := k3
  have k1' := k1.1
  have b2' := b2.1
  have v10 : VI I 1 0 = I 58 0 := congrArg (fun x => x) rfl
  have v11 : VI I 1 1 = I 58 2 := congrArg (fun x => x) rfl
  have v12 : VI I 1 2 = I 58 9 := congrArg (fun x => x) rfl
  have v16 : VI I 1 6 = I 58 5 := congrArg (fun x => x) rfl
  have v40 : VI I 4 0 = I 58 3 := congrArg (fun x => x) rfl
  have v41 : VI I 4 1 = I 58 4 := congrArg (fun x => x) rfl
  have v111 : VI I 11 1 = I 58 12 := congrArg (fun x => x) rfl
  have v13 : VI I 1 3 = I 58 10 := congrArg (fun x => x) rfl
  have v14 : VI I 1 4 = I 58 11 := congrArg (fun x => x) rfl
  refine zRuns_intro rfl (Nat.le_of_ble_eq_true rfl) (fun X C hR => ?_)
  show zZ g X 0 0 _ 0 [(0, .ref 58), (1, .int (iI c))] []
  refine z_aload_n C 0 rfl dX6_hasWall_0 rfl ?_
  refine z_iload_n C 1 rfl dX6_hasWall_1 rfl ?_
  refine z_i2l C (iI c).toInt64 dX6_hasWall_2 rfl ?_
  refine y_callV1 C oX6_isCell iX6_isCell eX6_isCell lkX6_128 (c_X6_isCell hgr) rfl (by decide) rfl rfl (by decide) (Nat.le_refl _) (Nat.le_refl _) (Nat.le_of_ble_eq_true rfl) dX6_hasWall_3 ?_
  refine z_top C (bI (isCellN (I 58 0) c)) (by rw [i2l_toInt hc]) ?_
  refine y_if_eqB C 26 dX6_hasWall_6 (by decide) (fun h6 => ?_) (fun h6 => ?_)
  · refine z_aload_n C 0 rfl dX6_hasWall_26 rfl ?_
    refine z_bipush C dX6_hasWall_27 (by decide) ?_
    refine y_callV1 C oX6_no iX6_no eX6_no lkX6_83 (c_X6_no (by first | assumption | omega)) rfl (by decide) rfl rfl (by decide) (Nat.le_refl _) (Nat.le_refl _) (Nat.le_of_ble_eq_true rfl) dX6_hasWall_29 ?_
    exact zZ_iret C hR (Nat.le_refl _) (Nat.le_refl _) dX6_hasWall_32 rfl (zIs_I (uRc (show fHasW (VI I) c = -2 by (try simp only [decide_eq_true_eq, decide_eq_false_iff_not, bI] at *); (unfold fHasW; simp only [v10]; (repeat' split) <;> first | rfl | omega | (exfalso; simp_all; done) | (exfalso; simp_all; omega))) (by decide)).symm (by rw [uKc (show fHasW (VI I) c = -2 by (try simp only [decide_eq_true_eq, decide_eq_false_iff_not, bI] at *); (unfold fHasW; simp only [v10]; (repeat' split) <;> first | rfl | omega | (exfalso; simp_all; done) | (exfalso; simp_all; omega))) (by decide)]))
  · have hc7 := gC7_of b1.2 h6
    have hcr := hc7.1
    have hwm := wallMi (f := I 59) hc7
    have hw7 := b7 c.toNat (by have := hc7.1; omega)
    refine z_aload_n C 0 rfl dX6_hasWall_9 rfl ?_
    refine y_getR C zCl6 1 flX6_7 rfl rfl rfl dX6_hasWall_10 ?_
    refine z_iload_n C 1 rfl dX6_hasWall_13 rfl ?_
    refine y_zald C c.toNat (by omega) rfl (by omega) (by decide) dX6_hasWall_14 ?_
    refine z_if_eq C 22 dX6_hasWall_15 (by decide) (by omega) (fun h15 => ?_) (fun h15 => ?_)
    · refine z_iconst C dX6_hasWall_22 ?_
      refine z_goto C 32 dX6_hasWall_23 (by decide) ?_
      exact zZ_iret C hR (Nat.le_refl _) (Nat.le_refl _) dX6_hasWall_32 rfl (zIs_I (by rw [uR0 (show fHasW (VI I) c = 0 by (try simp only [decide_eq_true_eq, decide_eq_false_iff_not, bI] at *); (unfold fHasW; simp only [v10]; (repeat' split) <;> first | rfl | omega | (exfalso; simp_all; done) | (exfalso; simp_all; omega)))]; rw [hwm, decide_eq_false (by omega)]; rfl) (by rw [uK0 (show fHasW (VI I) c = 0 by (try simp only [decide_eq_true_eq, decide_eq_false_iff_not, bI] at *); (unfold fHasW; simp only [v10]; (repeat' split) <;> first | rfl | omega | (exfalso; simp_all; done) | (exfalso; simp_all; omega)))]))
    · refine z_iconst C dX6_hasWall_18 ?_
      refine z_goto C 32 dX6_hasWall_19 (by decide) ?_
      exact zZ_iret C hR (Nat.le_refl _) (Nat.le_refl _) dX6_hasWall_32 rfl (zIs_I (by rw [uR0 (show fHasW (VI I) c = 0 by (try simp only [decide_eq_true_eq, decide_eq_false_iff_not, bI] at *); (unfold fHasW; simp only [v10]; (repeat' split) <;> first | rfl | omega | (exfalso; simp_all; done) | (exfalso; simp_all; omega)))]; rw [hwm, decide_eq_true (by omega)]; rfl) (by rw [uK0 (show fHasW (VI I) c = 0 by (try simp only [decide_eq_true_eq, decide_eq_false_iff_not, bI] at *); (unfold fHasW; simp only [v10]; (repeat' split) <;> first | rfl | omega | (exfalso; simp_all; done) | (exfalso; simp_all; omega)))]))
set_option maxHeartbeats 4000000 in
set_option maxRecDepth 100000 in
theorem c_X6_eweOf {g : zG} {I : Nat → Nat → Int} {J : Nat → Nat → Int64} {q : Nat × Nat} {e w : Int} (hgr : gR I) (hrs : gRS (spR I)) (hrl : gRL I) (he : -2147483648 ≤ e ∧ e ≤ 2147483647) (hw : -2147483648 ≤ w ∧ w ≤ 2147483647) : zRun g mX6_eweOf 2 [.ref 58, .int (iI e), .int (iI w)] (zst I J q) (some (.int (iI (uR (fEweOf (VI I) e w) (eweOfN (VI I) e.toNat w))))) (zst (uK I (fEweOf (VI I) e w) (I)) J q) := by
  obtain ⟨b1, b2, b3, b4, b5, b6, b7⟩ := id hgr
  obtain ⟨k1, k2, k3⟩ := id hrs
  have k1 : gC7 (I 58 3) := k1
  have k2 : 0 ≤ I 58 4 ∧ I 58 4 ≤ 4 := k2
  have k3 : ∀ e, e < 5 → gC7 (I 62 e) := k3
  have k1' := k1.1
  have b2' := b2.1
  have v10 : VI I 1 0 = I 58 0 := congrArg (fun x => x) rfl
  have v11 : VI I 1 1 = I 58 2 := congrArg (fun x => x) rfl
  have v12 : VI I 1 2 = I 58 9 := congrArg (fun x => x) rfl
  have v16 : VI I 1 6 = I 58 5 := congrArg (fun x => x) rfl
  have v40 : VI I 4 0 = I 58 3 := congrArg (fun x => x) rfl
  have v41 : VI I 4 1 = I 58 4 := congrArg (fun x => x) rfl
  have v111 : VI I 11 1 = I 58 12 := congrArg (fun x => x) rfl
  have v13 : VI I 1 3 = I 58 10 := congrArg (fun x => x) rfl
  have v14 : VI I 1 4 = I 58 11 := congrArg (fun x => x) rfl
  refine zRuns_intro rfl (Nat.le_of_ble_eq_true rfl) (fun X C hR => ?_)
  show zZ g X 0 0 _ 0 [(0, .ref 58), (1, .int (iI e)), (2, .int (iI w))] []
  refine z_aload_n C 0 rfl dX6_eweOf_0 rfl ?_
  refine z_iload_n C 1 rfl dX6_eweOf_1 rfl ?_
  refine y_callV1 C oX6_isEwe iX6_isEwe eX6_isEwe lkX6_97 (c_X6_isEwe hgr (by first | assumption | omega)) rfl (by decide) rfl rfl (by decide) (Nat.le_refl _) (Nat.le_refl _) (Nat.le_of_ble_eq_true rfl) dX6_eweOf_2 ?_
  refine y_if_neB C 15 dX6_eweOf_5 (by decide) (fun h5 => ?_) (fun h5 => ?_)
  · have her : 0 ≤ e ∧ e < I 58 5 := by simpa using h5
    obtain ⟨ew, hew⟩ : ∃ n : Nat, e = n := ⟨e.toNat, by omega⟩
    have hewt : e.toNat = ew := by omega
    have hc5 := (k3 ew (by omega)).1
    have vx : eweOfN (VI I) e.toNat w = if w = 0 then I 60 e.toNat else if w = 1 then I 61 e.toNat else if w = 2 then I 62 e.toNat else if w = 3 then bI (decide (I 62 e.toNat = I 58 2)) else if w = 4 then stp (I 62 e.toNat) (I 58 3) else stp (I 62 e.toNat) (I 58 2) := congrArg (fun x => x) rfl
    rw [hewt] at vx
    refine z_iload_n C 2 rfl dX6_eweOf_15 rfl ?_
    rcases (show w = 0 ∨ w = 1 ∨ w = 2 ∨ w = 3 ∨ w = 4 ∨ w = 5 ∨ (w < 0 ∨ 5 < w) by omega) with hsw | hsw | hsw | hsw | hsw | hsw | hsw
    · rw [hsw]
      refine z_tabIn C 56 dX6_eweOf_16 (by decide) (by decide) (by decide) rfl (by decide) ?_
      refine z_aload_n C 0 rfl dX6_eweOf_56 rfl ?_
      refine y_getR C zCl6 6 flX6_13 rfl rfl rfl dX6_eweOf_57 ?_
      refine z_iload_n C 1 rfl dX6_eweOf_60 rfl ?_
      refine y_iald C ew (by omega) rfl (by omega) (by decide) dX6_eweOf_61 ?_
      exact zZ_iret C hR (Nat.le_refl _) (Nat.le_refl _) dX6_eweOf_62 rfl (zIs_I (by rw [uR0 (show fEweOf (VI I) e w = 0 by unfold fEweOf; rw [v16, if_neg (fun z => z her), if_pos (by omega)]), hewt, vx]; rw [if_pos hsw]) (by rw [uK0 (show fEweOf (VI I) e w = 0 by (unfold fEweOf; rw [v16, if_neg (fun z => z her), if_pos (by omega)]))]))
    · rw [hsw]
      refine z_tabIn C 63 dX6_eweOf_16 (by decide) (by decide) (by decide) rfl (by decide) ?_
      refine z_aload_n C 0 rfl dX6_eweOf_63 rfl ?_
      refine y_getR C zCl6 7 flX6_17 rfl rfl rfl dX6_eweOf_64 ?_
      refine z_iload_n C 1 rfl dX6_eweOf_67 rfl ?_
      refine y_iald C ew (by omega) rfl (by omega) (by decide) dX6_eweOf_68 ?_
      exact zZ_iret C hR (Nat.le_refl _) (Nat.le_refl _) dX6_eweOf_69 rfl (zIs_I (by rw [uR0 (show fEweOf (VI I) e w = 0 by unfold fEweOf; rw [v16, if_neg (fun z => z her), if_pos (by omega)]), hewt, vx]; rw [if_neg (by omega), if_pos hsw]) (by rw [uK0 (show fEweOf (VI I) e w = 0 by (unfold fEweOf; rw [v16, if_neg (fun z => z her), if_pos (by omega)]))]))
    · rw [hsw]
      refine z_tabIn C 70 dX6_eweOf_16 (by decide) (by decide) (by decide) rfl (by decide) ?_
      refine z_aload_n C 0 rfl dX6_eweOf_70 rfl ?_
      refine y_getR C zCl6 8 flX6_20 rfl rfl rfl dX6_eweOf_71 ?_
      refine z_iload_n C 1 rfl dX6_eweOf_74 rfl ?_
      refine y_iald C ew (by omega) rfl (by omega) (by decide) dX6_eweOf_75 ?_
      exact zZ_iret C hR (Nat.le_refl _) (Nat.le_refl _) dX6_eweOf_76 rfl (zIs_I (by rw [uR0 (show fEweOf (VI I) e w = 0 by unfold fEweOf; rw [v16, if_neg (fun z => z her), if_pos (by omega)]), hewt, vx]; rw [if_neg (by omega), if_neg (by omega), if_pos hsw]) (by rw [uK0 (show fEweOf (VI I) e w = 0 by (unfold fEweOf; rw [v16, if_neg (fun z => z her), if_pos (by omega)]))]))
    · rw [hsw]
      refine z_tabIn C 77 dX6_eweOf_16 (by decide) (by decide) (by decide) rfl (by decide) ?_
      refine z_aload_n C 0 rfl dX6_eweOf_77 rfl ?_
      refine z_iload_n C 1 rfl dX6_eweOf_78 rfl ?_
      refine z_top C ((ew : Nat) : Int) hew ?_
      refine y_callV1 C oX6_isIn iX6_isIn eX6_isIn lkX6_122 (c_X6_isIn hgr hrs (by first | assumption | omega)) rfl (by decide) rfl rfl (by decide) (Nat.le_refl _) (Nat.le_refl _) (Nat.le_of_ble_eq_true rfl) dX6_eweOf_79 ?_
      refine y_if_eqB C 89 dX6_eweOf_82 (by decide) (fun h82 => ?_) (fun h82 => ?_)
      · refine z_iconst C dX6_eweOf_89 ?_
        exact zZ_iret C hR (Nat.le_refl _) (Nat.le_refl _) dX6_eweOf_90 rfl (zIs_I (by rw [uR0 (show fEweOf (VI I) e w = 0 by unfold fEweOf; rw [v16, if_neg (fun z => z her), if_pos (by omega)]), hewt, vx]; rw [if_neg (by omega), if_neg (by omega), if_neg (by omega), if_pos hsw, h82]; rfl) (by rw [uK0 (show fEweOf (VI I) e w = 0 by (unfold fEweOf; rw [v16, if_neg (fun z => z her), if_pos (by omega)]))]))
      · refine z_iconst C dX6_eweOf_85 ?_
        refine z_goto C 90 dX6_eweOf_86 (by decide) ?_
        exact zZ_iret C hR (Nat.le_refl _) (Nat.le_refl _) dX6_eweOf_90 rfl (zIs_I (by rw [uR0 (show fEweOf (VI I) e w = 0 by unfold fEweOf; rw [v16, if_neg (fun z => z her), if_pos (by omega)]), hewt, vx]; rw [if_neg (by omega), if_neg (by omega), if_neg (by omega), if_pos hsw, h82]; rfl) (by rw [uK0 (show fEweOf (VI I) e w = 0 by (unfold fEweOf; rw [v16, if_neg (fun z => z her), if_pos (by omega)]))]))
    · rw [hsw]
      refine z_tabIn C 91 dX6_eweOf_16 (by decide) (by decide) (by decide) rfl (by decide) ?_
      refine z_aload_n C 0 rfl dX6_eweOf_91 rfl ?_
      refine y_getR C zCl6 8 flX6_20 rfl rfl rfl dX6_eweOf_92 ?_
      refine z_iload_n C 1 rfl dX6_eweOf_95 rfl ?_
      refine y_iald C ew (by omega) rfl (by omega) (by decide) dX6_eweOf_96 ?_
      refine z_aload_n C 0 rfl dX6_eweOf_97 rfl ?_
      refine y_getI C zCl6 3 flX6_61 rfl rfl dX6_eweOf_98 ?_
      refine y_callS2 C oX6_steps sX6_steps lkX6_215 (c_X6_steps (by first | assumption | omega) (by first | assumption | omega)) (by decide) (Nat.le_refl _) (Nat.le_refl _) (Nat.le_of_ble_eq_true rfl) dX6_eweOf_101 ?_
      exact zZ_iret C hR (Nat.le_refl _) (Nat.le_refl _) dX6_eweOf_104 rfl (zIs_I (by rw [uR0 (show fEweOf (VI I) e w = 0 by unfold fEweOf; rw [v16, if_neg (fun z => z her), if_pos (by omega)]), hewt, vx]; rw [if_neg (by omega), if_neg (by omega), if_neg (by omega), if_neg (by omega), if_pos hsw]) (by rw [uK0 (show fEweOf (VI I) e w = 0 by (unfold fEweOf; rw [v16, if_neg (fun z => z her), if_pos (by omega)]))]))
    · rw [hsw]
      refine z_tabIn C 105 dX6_eweOf_16 (by decide) (by decide) (by decide) rfl (by decide) ?_
      refine z_aload_n C 0 rfl dX6_eweOf_105 rfl ?_
      refine y_getR C zCl6 8 flX6_20 rfl rfl rfl dX6_eweOf_106 ?_
      refine z_iload_n C 1 rfl dX6_eweOf_109 rfl ?_
      refine y_iald C ew (by omega) rfl (by omega) (by decide) dX6_eweOf_110 ?_
      refine z_aload_n C 0 rfl dX6_eweOf_111 rfl ?_
      refine y_getI C zCl6 2 flX6_119 rfl rfl dX6_eweOf_112 ?_
      refine y_callS2 C oX6_steps sX6_steps lkX6_215 (c_X6_steps (by first | assumption | omega) (by first | assumption | omega)) (by decide) (Nat.le_refl _) (Nat.le_refl _) (Nat.le_of_ble_eq_true rfl) dX6_eweOf_115 ?_
      exact zZ_iret C hR (Nat.le_refl _) (Nat.le_refl _) dX6_eweOf_118 rfl (zIs_I (by rw [uR0 (show fEweOf (VI I) e w = 0 by unfold fEweOf; rw [v16, if_neg (fun z => z her), if_pos (by omega)]), hewt, vx]; rw [if_neg (by omega), if_neg (by omega), if_neg (by omega), if_neg (by omega), if_neg (by omega)]) (by rw [uK0 (show fEweOf (VI I) e w = 0 by (unfold fEweOf; rw [v16, if_neg (fun z => z her), if_pos (by omega)]))]))
    · refine z_tabOut C 119 dX6_eweOf_16 (by omega) hsw (by decide) ?_
      refine z_aload_n C 0 rfl dX6_eweOf_119 rfl ?_
      refine z_bipush C dX6_eweOf_120 (by decide) ?_
      refine y_callV1 C oX6_no iX6_no eX6_no lkX6_83 (c_X6_no (by first | assumption | omega)) rfl (by decide) rfl rfl (by decide) (Nat.le_refl _) (Nat.le_refl _) (Nat.le_of_ble_eq_true rfl) dX6_eweOf_122 ?_
      exact zZ_iret C hR (Nat.le_refl _) (Nat.le_refl _) dX6_eweOf_125 rfl (zIs_I (uRc (show fEweOf (VI I) e w = -2 by (try simp only [decide_eq_true_eq, decide_eq_false_iff_not, bI] at *); (unfold fEweOf; simp only [v16]; (repeat' split) <;> first | rfl | omega | (exfalso; simp_all; done) | (exfalso; simp_all; omega))) (by decide)).symm (by rw [uKc (show fEweOf (VI I) e w = -2 by (try simp only [decide_eq_true_eq, decide_eq_false_iff_not, bI] at *); (unfold fEweOf; simp only [v16]; (repeat' split) <;> first | rfl | omega | (exfalso; simp_all; done) | (exfalso; simp_all; omega))) (by decide)]))
  · refine z_aload_n C 0 rfl dX6_eweOf_8 rfl ?_
    refine z_bipush C dX6_eweOf_9 (by decide) ?_
    refine y_callV1 C oX6_no iX6_no eX6_no lkX6_83 (c_X6_no (by first | assumption | omega)) rfl (by decide) rfl rfl (by decide) (Nat.le_refl _) (Nat.le_refl _) (Nat.le_of_ble_eq_true rfl) dX6_eweOf_11 ?_
    exact zZ_iret C hR (Nat.le_refl _) (Nat.le_refl _) dX6_eweOf_14 rfl (zIs_I (uRc (show fEweOf (VI I) e w = -2 by (try simp only [decide_eq_true_eq, decide_eq_false_iff_not, bI] at *); (unfold fEweOf; simp only [v16]; (repeat' split) <;> first | rfl | omega | (exfalso; simp_all; done) | (exfalso; simp_all; omega))) (by decide)).symm (by rw [uKc (show fEweOf (VI I) e w = -2 by (try simp only [decide_eq_true_eq, decide_eq_false_iff_not, bI] at *); (unfold fEweOf; simp only [v16]; (repeat' split) <;> first | rfl | omega | (exfalso; simp_all; done) | (exfalso; simp_all; omega))) (by decide)]))
set_option maxHeartbeats 4000000 in
set_option maxRecDepth 100000 in
theorem c_X6_open {g : zG} {I : Nat → Nat → Int} {J : Nat → Nat → Int64} {q : Nat × Nat} {c : Int} (hgr : gR I) (hrs : gRS (spR I)) (hrl : gRL I) (hc : -2147483648 ≤ c ∧ c ≤ 2147483647) : zRun g mX6_open 2 [.ref 58, .int (iI c)] (zst I J q) (some (.int (iI (uR (fHasW (VI I) c) (cnt (fun k => openN (I 58 0) (maskW (I 59)) (c + shN (k + 1))) 4))))) (zst (uK I (fHasW (VI I) c) (I)) J q) := by
  obtain ⟨b1, b2, b3, b4, b5, b6, b7⟩ := id hgr
  obtain ⟨k1, k2, k3⟩ := id hrs
  have k1 : gC7 (I 58 3) := k1
  have k2 : 0 ≤ I 58 4 ∧ I 58 4 ≤ 4 := k2
  have k3 : ∀ e, e < 5 → gC7 (I 62 e) := k3
  have k1' := k1.1
  have b2' := b2.1
  have v10 : VI I 1 0 = I 58 0 := congrArg (fun x => x) rfl
  have v11 : VI I 1 1 = I 58 2 := congrArg (fun x => x) rfl
  have v12 : VI I 1 2 = I 58 9 := congrArg (fun x => x) rfl
  have v16 : VI I 1 6 = I 58 5 := congrArg (fun x => x) rfl
  have v40 : VI I 4 0 = I 58 3 := congrArg (fun x => x) rfl
  have v41 : VI I 4 1 = I 58 4 := congrArg (fun x => x) rfl
  have v111 : VI I 11 1 = I 58 12 := congrArg (fun x => x) rfl
  have v13 : VI I 1 3 = I 58 10 := congrArg (fun x => x) rfl
  have v14 : VI I 1 4 = I 58 11 := congrArg (fun x => x) rfl
  refine zRuns_intro rfl (Nat.le_of_ble_eq_true rfl) (fun X C hR => ?_)
  show zZ g X 0 0 _ 0 [(0, .ref 58), (1, .int (iI c))] []
  refine z_aload_n C 0 rfl dX6_open_0 rfl ?_
  refine z_iload_n C 1 rfl dX6_open_1 rfl ?_
  refine z_i2l C (iI c).toInt64 dX6_open_2 rfl ?_
  refine y_callV1 C oX6_isCell iX6_isCell eX6_isCell lkX6_128 (c_X6_isCell hgr) rfl (by decide) rfl rfl (by decide) (Nat.le_refl _) (Nat.le_refl _) (Nat.le_of_ble_eq_true rfl) dX6_open_3 ?_
  refine z_top C (bI (isCellN (I 58 0) c)) (by rw [i2l_toInt hc]) ?_
  refine y_if_neB C 16 dX6_open_6 (by decide) (fun h6 => ?_) (fun h6 => ?_)
  · have hc7 := gC7_of b1.2 h6
    obtain ⟨P, hP⟩ : ∃ P, P = fun k => openN (I 58 0) (maskW (I 59)) (c + shN (k + 1)) := ⟨_, rfl⟩
    rw [← hP] at hR
    refine z_iconst C dX6_open_16 ?_
    refine z_istore_n C [(2, .int (iI 0)), (0, .ref 58), (1, .int (iI c))] dX6_open_17 rfl (by decide) rfl ?_
    refine z_iconst C dX6_open_18 ?_
    refine z_istore_n C [(3, .int (iI 1)), (2, .int (iI 0)), (0, .ref 58), (1, .int (iI c))] dX6_open_19 rfl (by decide) rfl ?_
    refine zZ_sub [2, 3, 1, 0] rfl ?_
    refine zZ_cast (σ' := (fun _ : Nat => zst I J q) 0) (L' := (fun e : Nat => [(0, .ref 58), (1, .int (iI c)), (2, .int (iI (cnt P e))), (3, .int (iI ((e + 1 : Nat) : Int)))]) 0) rfl rfl rfl ?_
    refine zfor (4) (fun _ => True) (fun _ : Nat => zst I J q) (fun e : Nat => [(0, .ref 58), (1, .int (iI c)), (2, .int (iI (cnt P e))), (3, .int (iI ((e + 1 : Nat) : Int)))]) trivial ?_ ?_
    · intro e hee hpe kke
      have h7 := bsN_7 (w := maskW (I 59)) (c := c) (k := e + 1) b1.2
      have hbr : -1 ≤ bsN (I 58 0) (maskW (I 59)) c (e + 1) ∧ bsN (I 58 0) (maskW (I 59)) c (e + 1) ≤ 66 := by rcases h7 with h | h; omega; have := h.1; omega
      have hbo : bsN (I 58 0) (maskW (I 59)) c (e + 1) = -1 ↔ P e = false := by rw [hP]; exact bsN_o b1.2
      refine z_iload_n C 3 rfl dX6_open_20 rfl ?_
      refine z_iconst C dX6_open_21 ?_
      refine z_icmp_ge C 44 dX6_open_22 (by decide) (by omega) (by omega) (fun h22 => ?_) (fun h22 => ?_)
      · omega
      · refine z_aload_n C 0 rfl dX6_open_25 rfl ?_
        refine z_iload_n C 1 rfl dX6_open_26 rfl ?_
        refine z_iload_n C 3 rfl dX6_open_27 rfl ?_
        refine y_callV2 C oX6_beside iX6_beside eX6_beside lkX6_218 (c_X6_beside hgr hc7 (by omega)) rfl (by decide) rfl rfl (by decide) (Nat.le_refl _) (Nat.le_refl _) (Nat.le_of_ble_eq_true rfl) dX6_open_28 ?_
        refine z_iconst C dX6_open_31 ?_
        refine z_icmp_eq C 38 dX6_open_32 (by decide) (by omega) (by omega) (fun h32 => ?_) (fun h32 => ?_)
        · obtain ⟨v1, ev1⟩ : ∃ y : Int, y = ((e + 1 : Nat) : Int) + 1 := ⟨_, rfl⟩
          refine z_iinc C 3 v1 [(3, .int (iI v1)), (0, .ref 58), (1, .int (iI c)), (2, .int (iI ((cnt P e))))] dX6_open_38 rfl ev1.symm (by decide) rfl ?_
          refine z_goto C 20 dX6_open_41 (by decide) ?_
          refine zZ_sub [1, 2, 3, 0] rfl ?_
          refine zZ_cast rfl (zLk (zLk (zLc (by simp only [cnt]; rw [hbo.mp h32]; simp [bI]) (zLc (by omega) rfl)))) rfl (kke trivial)
        · obtain ⟨v2, ev2⟩ : ∃ y : Int, y = (cnt P e) + 1 := ⟨_, rfl⟩
          refine z_iinc C 2 v2 [(2, .int (iI v2)), (0, .ref 58), (1, .int (iI c)), (3, .int (iI (((e + 1 : Nat) : Int))))] dX6_open_35 rfl ev2.symm (by decide) rfl ?_
          obtain ⟨v3, ev3⟩ : ∃ y : Int, y = ((e + 1 : Nat) : Int) + 1 := ⟨_, rfl⟩
          refine z_iinc C 3 v3 [(3, .int (iI v3)), (2, .int (iI v2)), (0, .ref 58), (1, .int (iI c))] dX6_open_38 rfl ev3.symm (by decide) rfl ?_
          refine z_goto C 20 dX6_open_41 (by decide) ?_
          refine zZ_sub [2, 3, 1, 0] rfl ?_
          refine zZ_cast rfl (zLk (zLk (zLc (by simp only [cnt]; rw [show P e = true from by have := mt hbo.mpr h32; simpa using this]; simp [bI]; omega) (zLc (by omega) rfl)))) rfl (kke trivial)
    · intro hpe
      refine z_iload_n C 3 rfl dX6_open_20 rfl ?_
      refine z_iconst C dX6_open_21 ?_
      refine z_icmp_ge C 44 dX6_open_22 (by decide) (by omega) (by omega) (fun h22 => ?_) (fun h22 => ?_)
      · refine z_iload_n C 2 rfl dX6_open_44 rfl ?_
        exact zZ_iret C hR (Nat.le_refl _) (Nat.le_refl _) dX6_open_45 rfl (zIs_I ((rfl).trans (uR0 (show fHasW (VI I) c = 0 by (unfold fHasW; rw [v10, if_neg (by rw [h6]; decide)]))).symm) (by rw [uK0 (show fHasW (VI I) c = 0 by (unfold fHasW; rw [v10, if_neg (by rw [h6]; decide)]))]))
      · omega
  · refine z_aload_n C 0 rfl dX6_open_9 rfl ?_
    refine z_bipush C dX6_open_10 (by decide) ?_
    refine y_callV1 C oX6_no iX6_no eX6_no lkX6_83 (c_X6_no (by first | assumption | omega)) rfl (by decide) rfl rfl (by decide) (Nat.le_refl _) (Nat.le_refl _) (Nat.le_of_ble_eq_true rfl) dX6_open_12 ?_
    exact zZ_iret C hR (Nat.le_refl _) (Nat.le_refl _) dX6_open_15 rfl (zIs_I (uRc (show fHasW (VI I) c = -2 by (try simp only [decide_eq_true_eq, decide_eq_false_iff_not, bI] at *); (unfold fHasW; simp only [v10]; (repeat' split) <;> first | rfl | omega | (exfalso; simp_all; done) | (exfalso; simp_all; omega))) (by decide)).symm (by rw [uKc (show fHasW (VI I) c = -2 by (try simp only [decide_eq_true_eq, decide_eq_false_iff_not, bI] at *); (unfold fHasW; simp only [v10]; (repeat' split) <;> first | rfl | omega | (exfalso; simp_all; done) | (exfalso; simp_all; omega))) (by decide)]))
set_option maxHeartbeats 4000000 in
set_option maxRecDepth 100000 in
theorem c_X6_allSteps {g : zG} {I : Nat → Nat → Int} {J : Nat → Nat → Int64} {q : Nat × Nat}  (hgr : gR I) (hrs : gRS (spR I)) : zRun g mX6_allSteps 2 [.ref 58] (zst I J q) (some (.int (iI (penN (hvR I) (I 62))))) (zst I J q) := by
  obtain ⟨b1, b2, b3, b4, b5, b6, b7⟩ := id hgr
  obtain ⟨k1, k2, k3⟩ := id hrs
  have k1 : gC7 (I 58 3) := k1
  have k2 : 0 ≤ I 58 4 ∧ I 58 4 ≤ 4 := k2
  have k3 : ∀ e, e < 5 → gC7 (I 62 e) := k3
  have k1' := k1.1
  have b2' := b2.1
  obtain ⟨n, hn⟩ : ∃ n : Nat, I 58 5 = n := ⟨(I 58 5).toNat, by omega⟩
  have hn2 : (I 58 5).toNat = n := by omega
  have hW : penN (hvR I) (I 62) = sumN (fun e => stp (I 62 e) (I 58 2)) n := by rw [← hn2]; rfl
  refine zRuns_intro rfl (Nat.le_of_ble_eq_true rfl) (fun X C hR => ?_)
  show zZ g X 0 0 _ 0 [(0, .ref 58)] []
  refine z_iconst C dX6_allSteps_0 ?_
  refine z_istore_n C [(1, .int (iI 0)), (0, .ref 58)] dX6_allSteps_1 rfl (by decide) rfl ?_
  refine z_iconst C dX6_allSteps_2 ?_
  refine z_istore_n C [(2, .int (iI 0)), (1, .int (iI 0)), (0, .ref 58)] dX6_allSteps_3 rfl (by decide) rfl ?_
  refine zZ_sub [2, 1, 0] rfl ?_
  refine zZ_cast (σ' := (fun _ : Nat => zst I J q) 0) (L' := (fun e : Nat => [(0, .ref 58), (1, .int (iI (sumN (fun e => stp (I 62 e) (I 58 2)) e))), (2, .int (iI (e : Int)))]) 0) rfl rfl rfl ?_
  refine zfor (n) (fun _ => True) (fun _ : Nat => zst I J q) (fun e : Nat => [(0, .ref 58), (1, .int (iI (sumN (fun e => stp (I 62 e) (I 58 2)) e))), (2, .int (iI (e : Int)))]) trivial ?_ ?_
  · intro e hee hpe kke
    have q3 := (k3 e (by omega)).1
    refine z_iload_n C 2 rfl dX6_allSteps_4 rfl ?_
    refine z_aload_n C 0 rfl dX6_allSteps_5 rfl ?_
    refine y_getI C zCl6 5 flX6_72 rfl rfl dX6_allSteps_6 ?_
    refine z_icmp_ge C 34 dX6_allSteps_9 (by decide) (by omega) (by omega) (fun h9 => ?_) (fun h9 => ?_)
    · omega
    · refine z_iload_n C 1 rfl dX6_allSteps_12 rfl ?_
      refine z_aload_n C 0 rfl dX6_allSteps_13 rfl ?_
      refine y_getR C zCl6 8 flX6_20 rfl rfl rfl dX6_allSteps_14 ?_
      refine z_iload_n C 2 rfl dX6_allSteps_17 rfl ?_
      refine y_iald C e (by omega) rfl (by omega) (by decide) dX6_allSteps_18 ?_
      refine z_aload_n C 0 rfl dX6_allSteps_19 rfl ?_
      refine y_getI C zCl6 2 flX6_119 rfl rfl dX6_allSteps_20 ?_
      refine y_callS2 C oX6_steps sX6_steps lkX6_215 (c_X6_steps (by first | assumption | omega) (by first | assumption | omega)) (by decide) (Nat.le_refl _) (Nat.le_refl _) (Nat.le_of_ble_eq_true rfl) dX6_allSteps_23 ?_
      refine z_iadd C dX6_allSteps_26 ?_
      refine z_topI C (fun v1 ev1 => ?_)
      refine z_istore_n C [(1, .int (iI v1)), (0, .ref 58), (2, .int (iI ((e : Int))))] dX6_allSteps_27 rfl (by decide) rfl ?_
      obtain ⟨v2, ev2⟩ : ∃ y : Int, y = (e : Int) + 1 := ⟨_, rfl⟩
      refine z_iinc C 2 v2 [(2, .int (iI v2)), (1, .int (iI v1)), (0, .ref 58)] dX6_allSteps_28 rfl ev2.symm (by decide) rfl ?_
      refine z_goto C 4 dX6_allSteps_31 (by decide) ?_
      refine zZ_sub [2, 1, 0] rfl ?_
      refine zZ_cast rfl (zLk (zLc (by simp only [sumN]; omega) (zLc (by omega) rfl))) rfl (kke trivial)
  · intro hpe
    refine z_iload_n C 2 rfl dX6_allSteps_4 rfl ?_
    refine z_aload_n C 0 rfl dX6_allSteps_5 rfl ?_
    refine y_getI C zCl6 5 flX6_72 rfl rfl dX6_allSteps_6 ?_
    refine z_icmp_ge C 34 dX6_allSteps_9 (by decide) (by omega) (by omega) (fun h9 => ?_) (fun h9 => ?_)
    · refine z_iload_n C 1 rfl dX6_allSteps_34 rfl ?_
      exact zZ_iret C hR (Nat.le_refl _) (Nat.le_refl _) dX6_allSteps_35 rfl (zIs_I hW.symm rfl)
    · omega
set_option maxHeartbeats 4000000 in
set_option maxRecDepth 100000 in
theorem c_X6_steps_ {g : zG} {I : Nat → Nat → Int} {J : Nat → Nat → Int64} {q : Nat × Nat}  (hgr : gR I) (hrs : gRS (spR I)) : zRun g mX6_steps_ 3 [.ref 58] (zst I J q) (some (.int (iI (penN (hvR I) (I 62))))) (zst I J q) := by
  refine zRuns_intro rfl (Nat.le_of_ble_eq_true rfl) (fun X C hR => ?_)
  show zZ g X 0 0 _ 0 [(0, .ref 58)] []
  refine z_aload_n C 0 rfl dX6_steps__0 rfl ?_
  refine y_callV0 C oX6_allSteps iX6_allSteps eX6_allSteps lkX6_250 (c_X6_allSteps hgr hrs) rfl (by decide) rfl rfl (by decide) (Nat.le_refl _) (Nat.le_refl _) (Nat.le_of_ble_eq_true rfl) dX6_steps__1 ?_
  exact zZ_iret C hR (Nat.le_refl _) (Nat.le_refl _) dX6_steps__4 rfl (zIs_I rfl rfl)
