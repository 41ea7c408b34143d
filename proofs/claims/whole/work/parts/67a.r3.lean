set_option maxHeartbeats 4000000 in
set_option maxRecDepth 100000 in
theorem c_X6_row {g : zG} {I : Nat → Nat → Int} {J : Nat → Nat → Int64} {q : Nat × Nat} {s so n : Int} (hgr : gR I) (hrs : gRS (spR I)) (hrl : gRL I) (hs : -2147483648 ≤ s ∧ s ≤ 2147483647) (hso : -2147483648 ≤ so ∧ so ≤ 2147483647) (hn : -2147483648 ≤ n ∧ n ≤ 2147483647) : zRun g mX6_row 2 [.ref 58, .int (iI s), .int (iI so), .int (iI n)] (zst I J q) (some (.int (iI (uR (fRow s so n) (1))))) (zst (uK I (fRow s so n) (zu (zu I 64 s.toNat so) 65 s.toNat n)) (uJ J (fRow s so n) (zfr J (40 * s.toNat) 40)) q) := by
  obtain ⟨b1, b2, b3, b4, b5, b6, b7⟩ := id hgr
  obtain ⟨k1, k2, k3⟩ := id hrs
  have k1 : gC7 (I 58 3) := k1
  have k2 : 0 ≤ I 58 4 ∧ I 58 4 ≤ 4 := k2
  have k3 : ∀ e, e < 5 → gC7 (I 62 e) := k3
  have k1' := k1.1
  have b2' := b2.1
  have v10 : VI I 1 0 = I 58 0 := rfl
  have v11 : VI I 1 1 = I 58 2 := rfl
  have v12 : VI I 1 2 = I 58 9 := rfl
  have v16 : VI I 1 6 = I 58 5 := rfl
  have v40 : VI I 4 0 = I 58 3 := rfl
  have v41 : VI I 4 1 = I 58 4 := rfl
  have v111 : VI I 11 1 = I 58 12 := rfl
  have v13 : VI I 1 3 = I 58 10 := rfl
  have v14 : VI I 1 4 = I 58 11 := rfl
  refine zRuns_intro rfl (Nat.le_of_ble_eq_true rfl) (fun X C hR => ?_)
  show zZ g X 0 0 _ 0 [(0, .ref 58), (1, .int (iI s)), (2, .int (iI so)), (3, .int (iI n))] []
  refine z_iload_n C 1 rfl dX6_row_0 rfl ?_
  refine y_callS1 C oX6_isShelf sX6_isShelf lkX6_79 (c_X6_isShelf (by first | assumption | omega)) (by decide) (Nat.le_refl _) (Nat.le_refl _) (Nat.le_of_ble_eq_true rfl) dX6_row_1 ?_
  refine y_if_eqB C 26 dX6_row_4 (by decide) (fun h4 => ?_) (fun h4 => ?_)
  · refine z_aload_n C 0 rfl dX6_row_26 rfl ?_
    refine z_bipush C dX6_row_27 (by decide) ?_
    refine y_callV1 C oX6_no iX6_no eX6_no lkX6_83 (c_X6_no (by first | assumption | omega)) rfl (by decide) rfl rfl (by decide) (Nat.le_refl _) (Nat.le_refl _) (Nat.le_of_ble_eq_true rfl) dX6_row_29 ?_
    exact zZ_iret C hR (Nat.le_refl _) (Nat.le_refl _) dX6_row_32 rfl (zIs_I (uRc (show fRow s so n = -2 by (try simp only [decide_eq_true_eq, decide_eq_false_iff_not, bI] at *); (unfold fRow; (try simp only [v10, v11, v12, v16, v40, v41, v111]); (try simp only [v10]); (repeat' split) <;> first | rfl | omega | (exfalso; simp_all; done) | (exfalso; simp_all; omega))) (by decide)).symm (by rw [uKc (show fRow s so n = -2 by (try simp only [decide_eq_true_eq, decide_eq_false_iff_not, bI] at *); (unfold fRow; (try simp only [v10, v11, v12, v16, v40, v41, v111]); (try simp only [v10]); (repeat' split) <;> first | rfl | omega | (exfalso; simp_all; done) | (exfalso; simp_all; omega))) (by decide), uJc (show fRow s so n = -2 by (try simp only [decide_eq_true_eq, decide_eq_false_iff_not, bI] at *); (unfold fRow; (try simp only [v10, v11, v12, v16, v40, v41, v111]); (try simp only [v10]); (repeat' split) <;> first | rfl | omega | (exfalso; simp_all; done) | (exfalso; simp_all; omega))) (by decide)]))
  · refine z_iload_n C 2 rfl dX6_row_7 rfl ?_
    refine z_iconst C dX6_row_8 ?_
    refine z_iconst C dX6_row_9 ?_
    refine y_callS3 C oX6_within sX6_within lkX6_75 (c_X6_within (by first | assumption | omega) (by first | assumption | omega) (by first | assumption | omega)) (by decide) (Nat.le_refl _) (Nat.le_refl _) (Nat.le_of_ble_eq_true rfl) dX6_row_10 ?_
    refine y_if_eqB C 26 dX6_row_13 (by decide) (fun h13 => ?_) (fun h13 => ?_)
    · refine z_aload_n C 0 rfl dX6_row_26 rfl ?_
      refine z_bipush C dX6_row_27 (by decide) ?_
      refine y_callV1 C oX6_no iX6_no eX6_no lkX6_83 (c_X6_no (by first | assumption | omega)) rfl (by decide) rfl rfl (by decide) (Nat.le_refl _) (Nat.le_refl _) (Nat.le_of_ble_eq_true rfl) dX6_row_29 ?_
      exact zZ_iret C hR (Nat.le_refl _) (Nat.le_refl _) dX6_row_32 rfl (zIs_I (uRc (show fRow s so n = -2 by (try simp only [decide_eq_true_eq, decide_eq_false_iff_not, bI] at *); (unfold fRow; (try simp only [v10, v11, v12, v16, v40, v41, v111]); (try simp only [v10]); (repeat' split) <;> first | rfl | omega | (exfalso; simp_all; done) | (exfalso; simp_all; omega))) (by decide)).symm (by rw [uKc (show fRow s so n = -2 by (try simp only [decide_eq_true_eq, decide_eq_false_iff_not, bI] at *); (unfold fRow; (try simp only [v10, v11, v12, v16, v40, v41, v111]); (try simp only [v10]); (repeat' split) <;> first | rfl | omega | (exfalso; simp_all; done) | (exfalso; simp_all; omega))) (by decide), uJc (show fRow s so n = -2 by (try simp only [decide_eq_true_eq, decide_eq_false_iff_not, bI] at *); (unfold fRow; (try simp only [v10, v11, v12, v16, v40, v41, v111]); (try simp only [v10]); (repeat' split) <;> first | rfl | omega | (exfalso; simp_all; done) | (exfalso; simp_all; omega))) (by decide)]))
    · refine z_iload_n C 3 rfl dX6_row_16 rfl ?_
      refine z_iconst C dX6_row_17 ?_
      refine z_bipush C dX6_row_18 (by decide) ?_
      refine y_callS3 C oX6_within sX6_within lkX6_75 (c_X6_within (by first | assumption | omega) (by first | assumption | omega) (by first | assumption | omega)) (by decide) (Nat.le_refl _) (Nat.le_refl _) (Nat.le_of_ble_eq_true rfl) dX6_row_20 ?_
      refine y_if_neB C 33 dX6_row_23 (by decide) (fun h23 => ?_) (fun h23 => ?_)
      · have hs8 : 0 ≤ s ∧ s < 8 := by simpa using h4
        refine z_aload_n C 0 rfl dX6_row_33 rfl ?_
        refine y_getR C zCl6 18 flX6_26 rfl rfl rfl dX6_row_34 ?_
        refine z_iload_n C 1 rfl dX6_row_37 rfl ?_
        refine z_iload_n C 2 rfl dX6_row_38 rfl ?_
        refine y_iast C s.toNat (by omega) rfl (by omega) (by decide) dX6_row_39 ?_
        refine z_aload_n C 0 rfl dX6_row_40 rfl ?_
        refine y_getR C zCl6 19 flX6_29 rfl rfl rfl dX6_row_41 ?_
        refine z_iload_n C 1 rfl dX6_row_44 rfl ?_
        refine z_iload_n C 3 rfl dX6_row_45 rfl ?_
        refine y_iast C s.toNat (by omega) rfl (by omega) (by decide) dX6_row_46 ?_
        refine z_iconst C dX6_row_47 ?_
        refine z_istore C [(4, .int (iI 0)), (0, .ref 58), (1, .int (iI s)), (2, .int (iI so)), (3, .int (iI n))] dX6_row_48 (by decide) rfl ?_
        refine zZ_sub [1, 2, 3, 4, 0] rfl ?_
        refine zZ_cast (σ' := (fun e : Nat => zst (zu (zu I 64 s.toNat so) 65 s.toNat n) (zfr J (40 * s.toNat) e) q) 0) (L' := (fun e : Nat => [(0, .ref 58), (1, .int (iI s)), (2, .int (iI so)), (3, .int (iI n)), (4, .int (iI (e : Int)))]) 0) (by simp only [zfr_0]) rfl rfl ?_
        refine zfor (40) (fun _ => True) (fun e : Nat => zst (zu (zu I 64 s.toNat so) 65 s.toNat n) (zfr J (40 * s.toNat) e) q) (fun e : Nat => [(0, .ref 58), (1, .int (iI s)), (2, .int (iI so)), (3, .int (iI n)), (4, .int (iI (e : Int)))]) trivial ?_ ?_
        · intro e hee hpe kke
          refine z_iload C 4 rfl dX6_row_50 ?_
          refine z_bipush C dX6_row_52 (by decide) ?_
          refine z_icmp_ge C 76 dX6_row_54 (by decide) (by omega) (by omega) (fun h54 => ?_) (fun h54 => ?_)
          · omega
          · refine z_aload_n C 0 rfl dX6_row_57 rfl ?_
            refine y_getR C zCl6 20 flX6_32 rfl rfl rfl dX6_row_58 ?_
            refine z_bipush C dX6_row_61 (by decide) ?_
            refine z_iload_n C 1 rfl dX6_row_63 rfl ?_
            refine z_imul C dX6_row_64 ?_
            refine z_iload C 4 rfl dX6_row_65 ?_
            refine z_iadd C dX6_row_67 ?_
            refine z_lconst C 0 dX6_row_68 rfl ?_
            refine y_last C (40 * s.toNat + e) (by omega) rfl (by omega) (by decide) dX6_row_69 ?_
            obtain ⟨v1, ev1⟩ : ∃ y : Int, y = (e : Int) + 1 := ⟨_, rfl⟩
            refine z_iinc C 4 v1 [(4, .int (iI v1)), (0, .ref 58), (1, .int (iI s)), (2, .int (iI so)), (3, .int (iI n))] dX6_row_70 rfl ev1.symm (by decide) rfl ?_
            refine z_goto C 50 dX6_row_73 (by decide) ?_
            refine zZ_sub [1, 2, 3, 4, 0] rfl ?_
            refine zZ_cast (by rw [zfr_s]) (zLk (zLk (zLk (zLk (zLc (by omega) rfl))))) rfl (kke trivial)
        · intro hpe
          refine z_iload C 4 rfl dX6_row_50 ?_
          refine z_bipush C dX6_row_52 (by decide) ?_
          refine z_icmp_ge C 76 dX6_row_54 (by decide) (by omega) (by omega) (fun h54 => ?_) (fun h54 => ?_)
          · refine z_iconst C dX6_row_76 ?_
            exact zZ_iret C hR (Nat.le_refl _) (Nat.le_refl _) dX6_row_77 rfl (zIs_I ((rfl).trans (uR0 (show fRow s so n = 0 by (try simp only [decide_eq_true_eq, decide_eq_false_iff_not, bI] at *); (unfold fRow; (try simp only [v10, v11, v12, v16, v40, v41, v111]); (try simp only [v10]); (repeat' split) <;> first | rfl | omega | (exfalso; simp_all; done) | (exfalso; simp_all; omega)))).symm) (by rw [uK0 (show fRow s so n = 0 by (try simp only [decide_eq_true_eq, decide_eq_false_iff_not, bI] at *); (unfold fRow; (try simp only [v10, v11, v12, v16, v40, v41, v111]); (try simp only [v10]); (repeat' split) <;> first | rfl | omega | (exfalso; simp_all; done) | (exfalso; simp_all; omega))), uJ0 (show fRow s so n = 0 by (try simp only [decide_eq_true_eq, decide_eq_false_iff_not, bI] at *); (unfold fRow; (try simp only [v10, v11, v12, v16, v40, v41, v111]); (try simp only [v10]); (repeat' split) <;> first | rfl | omega | (exfalso; simp_all; done) | (exfalso; simp_all; omega)))]))
          · omega
      · refine z_aload_n C 0 rfl dX6_row_26 rfl ?_
        refine z_bipush C dX6_row_27 (by decide) ?_
        refine y_callV1 C oX6_no iX6_no eX6_no lkX6_83 (c_X6_no (by first | assumption | omega)) rfl (by decide) rfl rfl (by decide) (Nat.le_refl _) (Nat.le_refl _) (Nat.le_of_ble_eq_true rfl) dX6_row_29 ?_
        exact zZ_iret C hR (Nat.le_refl _) (Nat.le_refl _) dX6_row_32 rfl (zIs_I (uRc (show fRow s so n = -2 by (try simp only [decide_eq_true_eq, decide_eq_false_iff_not, bI] at *); (unfold fRow; (try simp only [v10, v11, v12, v16, v40, v41, v111]); (try simp only [v10]); (repeat' split) <;> first | rfl | omega | (exfalso; simp_all; done) | (exfalso; simp_all; omega))) (by decide)).symm (by rw [uKc (show fRow s so n = -2 by (try simp only [decide_eq_true_eq, decide_eq_false_iff_not, bI] at *); (unfold fRow; (try simp only [v10, v11, v12, v16, v40, v41, v111]); (try simp only [v10]); (repeat' split) <;> first | rfl | omega | (exfalso; simp_all; done) | (exfalso; simp_all; omega))) (by decide), uJc (show fRow s so n = -2 by (try simp only [decide_eq_true_eq, decide_eq_false_iff_not, bI] at *); (unfold fRow; (try simp only [v10, v11, v12, v16, v40, v41, v111]); (try simp only [v10]); (repeat' split) <;> first | rfl | omega | (exfalso; simp_all; done) | (exfalso; simp_all; omega))) (by decide)]))
set_option maxHeartbeats 4000000 in
set_option maxRecDepth 100000 in
theorem c_X6_kept {g : zG} {I : Nat → Nat → Int} {J : Nat → Nat → Int64} {q : Nat × Nat} {so : Int} {v : Int64} (hso : 0 ≤ so ∧ so ≤ 4) : zRun g mX6_kept 0 [.int (iI so), .long v] (zst I J q) (some (.long (cutN so v))) (zst I J q) := by
  refine zRuns_intro rfl (Nat.le_of_ble_eq_true rfl) (fun X C hR => ?_)
  show zZ g X 0 0 _ 0 [(0, .int (iI so)), (1, .long v)] []
  refine z_iload_n C 0 rfl dX6_kept_0 rfl ?_
  rcases (show so = 0 ∨ so = 1 ∨ so = 2 ∨ so = 3 ∨ (so < 0 ∨ 3 < so) by omega) with hsw | hsw | hsw | hsw | hsw
  · rw [hsw]
    refine z_tabIn C 32 dX6_kept_1 (by decide) (by decide) (by decide) rfl (by decide) ?_
    refine z_lload_n C 1 rfl dX6_kept_32 rfl ?_
    refine z_l2i C v.toInt dX6_kept_33 (l2i_eq _) ?_
    refine z_i2b C ((iI v.toInt).toInt8.toInt32).toInt dX6_kept_34 (iI_of _) ?_
    refine z_i2l C v.toInt32.toInt8.toInt32.toInt64 dX6_kept_35 (by rw [← iI_of, ← l2i_eq]) ?_
    exact zZ_lret C hR (Nat.le_refl _) (Nat.le_refl _) dX6_kept_36 rfl (zIs_J (by unfold cutN; rw [if_pos hsw]) rfl)
  · rw [hsw]
    refine z_tabIn C 37 dX6_kept_1 (by decide) (by decide) (by decide) rfl (by decide) ?_
    refine z_lload_n C 1 rfl dX6_kept_37 rfl ?_
    refine z_l2i C v.toInt dX6_kept_38 (l2i_eq _) ?_
    refine z_i2s C ((iI v.toInt).toInt16.toInt32).toInt dX6_kept_39 (iI_of _) ?_
    refine z_i2l C v.toInt32.toInt16.toInt32.toInt64 dX6_kept_40 (by rw [← iI_of, ← l2i_eq]) ?_
    exact zZ_lret C hR (Nat.le_refl _) (Nat.le_refl _) dX6_kept_41 rfl (zIs_J (by unfold cutN; rw [if_neg (by omega), if_pos hsw]) rfl)
  · rw [hsw]
    refine z_tabIn C 42 dX6_kept_1 (by decide) (by decide) (by decide) rfl (by decide) ?_
    refine z_lload_n C 1 rfl dX6_kept_42 rfl ?_
    refine z_l2i C v.toInt dX6_kept_43 (l2i_eq _) ?_
    refine z_i2l C v.toInt32.toInt64 dX6_kept_44 (by rw [← l2i_eq]) ?_
    exact zZ_lret C hR (Nat.le_refl _) (Nat.le_refl _) dX6_kept_45 rfl (zIs_J (by unfold cutN; rw [if_neg (by omega), if_neg (by omega), if_pos hsw]) rfl)
  · rw [hsw]
    refine z_tabIn C 46 dX6_kept_1 (by decide) (by decide) (by decide) rfl (by decide) ?_
    refine z_lload_n C 1 rfl dX6_kept_46 rfl ?_
    exact zZ_lret C hR (Nat.le_refl _) (Nat.le_refl _) dX6_kept_47 rfl (zIs_J (by unfold cutN; rw [if_neg (by omega), if_neg (by omega), if_neg (by omega), if_neg (by omega)]) rfl)
  · refine z_tabOut C 48 dX6_kept_1 (by omega) hsw (by decide) ?_
    refine z_lload_n C 1 rfl dX6_kept_48 rfl ?_
    refine z_lconst C 0 dX6_kept_49 rfl ?_
    refine z_lcmp_eq C 58 dX6_kept_50 dX6_kept_51 (by decide) (fun h50 => ?_) (fun h50 => ?_)
    · refine z_lconst C 0 dX6_kept_58 rfl ?_
      exact zZ_lret C hR (Nat.le_refl _) (Nat.le_refl _) dX6_kept_59 rfl (zIs_J (by unfold cutN; rw [if_neg (by omega), if_neg (by omega), if_neg (by omega), if_pos (show so = 4 by omega)]; (repeat' split) <;> first | rfl | omega | (exfalso; simp_all; done)) rfl)
    · refine z_lconst C 1 dX6_kept_54 rfl ?_
      refine z_goto C 59 dX6_kept_55 (by decide) ?_
      exact zZ_lret C hR (Nat.le_refl _) (Nat.le_refl _) dX6_kept_59 rfl (zIs_J (by unfold cutN; rw [if_neg (by omega), if_neg (by omega), if_neg (by omega), if_pos (show so = 4 by omega)]; (repeat' split) <;> first | rfl | omega | (exfalso; simp_all; done)) rfl)
set_option maxHeartbeats 4000000 in
set_option maxRecDepth 100000 in
theorem c_X6_set {g : zG} {I : Nat → Nat → Int} {J : Nat → Nat → Int64} {q : Nat × Nat} {s i : Int} {v : Int64} (hgr : gR I) (hrs : gRS (spR I)) (hrl : gRL I) (hs : -2147483648 ≤ s ∧ s ≤ 2147483647) (hi : -2147483648 ≤ i ∧ i ≤ 2147483647) : zRun g mX6_set 2 [.ref 58, .int (iI s), .int (iI i), .long v] (zst I J q) (some (.int (iI (uR (fSet (VI I) s i) (1))))) (zst (uK I (fSet (VI I) s i) (I)) (uJ J (fSet (VI I) s i) (zu J 66 (40 * s.toNat + i.toNat) (cutN (I 64 s.toNat) v))) q) := by
  obtain ⟨b1, b2, b3, b4, b5, b6, b7⟩ := id hgr
  obtain ⟨k1, k2, k3⟩ := id hrs
  have k1 : gC7 (I 58 3) := k1
  have k2 : 0 ≤ I 58 4 ∧ I 58 4 ≤ 4 := k2
  have k3 : ∀ e, e < 5 → gC7 (I 62 e) := k3
  have k1' := k1.1
  have b2' := b2.1
  have v10 : VI I 1 0 = I 58 0 := rfl
  have v11 : VI I 1 1 = I 58 2 := rfl
  have v12 : VI I 1 2 = I 58 9 := rfl
  have v16 : VI I 1 6 = I 58 5 := rfl
  have v40 : VI I 4 0 = I 58 3 := rfl
  have v41 : VI I 4 1 = I 58 4 := rfl
  have v111 : VI I 11 1 = I 58 12 := rfl
  have v13 : VI I 1 3 = I 58 10 := rfl
  have v14 : VI I 1 4 = I 58 11 := rfl
  refine zRuns_intro rfl (Nat.le_of_ble_eq_true rfl) (fun X C hR => ?_)
  show zZ g X 0 0 _ 0 [(0, .ref 58), (1, .int (iI s)), (2, .int (iI i)), (3, .long v)] []
  refine z_iload_n C 1 rfl dX6_set_0 rfl ?_
  refine y_callS1 C oX6_isShelf sX6_isShelf lkX6_79 (c_X6_isShelf (by first | assumption | omega)) (by decide) (Nat.le_refl _) (Nat.le_refl _) (Nat.le_of_ble_eq_true rfl) dX6_set_1 ?_
  refine y_if_neB C 14 dX6_set_4 (by decide) (fun h4 => ?_) (fun h4 => ?_)
  · have hs8 : 0 ≤ s ∧ s < 8 := by simpa using h4
    have hls := hrl s.toNat (by omega)
    have vs0 := VI_s0 (I := I) (k := s.toNat) (by omega)
    have vs1 := VI_s1 (I := I) (k := s.toNat) (by omega)
    refine z_aload_n C 0 rfl dX6_set_14 rfl ?_
    refine z_iload_n C 1 rfl dX6_set_15 rfl ?_
    refine y_callV1 C oX6_isRow iX6_isRow eX6_isRow lkX6_87 (c_X6_isRow hrl (by first | assumption | omega)) rfl (by decide) rfl rfl (by decide) (Nat.le_refl _) (Nat.le_refl _) (Nat.le_of_ble_eq_true rfl) dX6_set_16 ?_
    refine y_if_neB C 32 dX6_set_19 (by decide) (fun h19 => ?_) (fun h19 => ?_)
    · refine z_iload_n C 2 rfl dX6_set_32 rfl ?_
      refine z_iconst C dX6_set_33 ?_
      refine z_aload_n C 0 rfl dX6_set_34 rfl ?_
      refine y_getR C zCl6 19 flX6_29 rfl rfl rfl dX6_set_35 ?_
      refine z_iload_n C 1 rfl dX6_set_38 rfl ?_
      refine y_iald C s.toNat (by omega) rfl (by omega) (by decide) dX6_set_39 ?_
      refine z_iconst C dX6_set_40 ?_
      refine z_isub C dX6_set_41 ?_
      refine y_callS3 C oX6_within sX6_within lkX6_75 (c_X6_within (by first | assumption | omega) (by first | assumption | omega) (by first | assumption | omega)) (by decide) (Nat.le_refl _) (Nat.le_refl _) (Nat.le_of_ble_eq_true rfl) dX6_set_42 ?_
      refine y_if_neB C 55 dX6_set_45 (by decide) (fun h45 => ?_) (fun h45 => ?_)
      · have h19b : 0 ≤ I 64 s.toNat ∧ I 64 s.toNat < 5 := by simpa using h19
        have h45b : 0 ≤ i ∧ i ≤ I 65 s.toNat - 1 := by simpa using h45
        refine z_aload_n C 0 rfl dX6_set_55 rfl ?_
        refine y_getR C zCl6 20 flX6_32 rfl rfl rfl dX6_set_56 ?_
        refine z_bipush C dX6_set_59 (by decide) ?_
        refine z_iload_n C 1 rfl dX6_set_61 rfl ?_
        refine z_imul C dX6_set_62 ?_
        refine z_iload_n C 2 rfl dX6_set_63 rfl ?_
        refine z_iadd C dX6_set_64 ?_
        refine z_aload_n C 0 rfl dX6_set_65 rfl ?_
        refine y_getR C zCl6 18 flX6_26 rfl rfl rfl dX6_set_66 ?_
        refine z_iload_n C 1 rfl dX6_set_69 rfl ?_
        refine y_iald C s.toNat (by omega) rfl (by omega) (by decide) dX6_set_70 ?_
        refine z_lload_n C 3 rfl dX6_set_71 rfl ?_
        refine y_callS2 C oX6_kept sX6_kept lkX6_93 (c_X6_kept (by first | assumption | omega)) (by decide) (Nat.le_refl _) (Nat.le_refl _) (Nat.le_of_ble_eq_true rfl) dX6_set_72 ?_
        refine y_last C (40 * s.toNat + i.toNat) (by omega) rfl (by omega) (by decide) dX6_set_75 ?_
        refine z_iconst C dX6_set_76 ?_
        exact zZ_iret C hR (Nat.le_refl _) (Nat.le_refl _) dX6_set_77 rfl (zIs_I ((rfl).trans (uR0 (show fSet (VI I) s i = 0 by (try simp only [decide_eq_true_eq, decide_eq_false_iff_not, bI] at *); (unfold fSet frowN; (try simp only [v10, v11, v12, v16, v40, v41, v111]); (try simp only [vs0, vs1]); (repeat' split) <;> first | rfl | omega | (exfalso; simp_all; done) | (exfalso; simp_all; omega)))).symm) (by rw [uK0 (show fSet (VI I) s i = 0 by (try simp only [decide_eq_true_eq, decide_eq_false_iff_not, bI] at *); (unfold fSet frowN; (try simp only [v10, v11, v12, v16, v40, v41, v111]); (try simp only [vs0, vs1]); (repeat' split) <;> first | rfl | omega | (exfalso; simp_all; done) | (exfalso; simp_all; omega))), uJ0 (show fSet (VI I) s i = 0 by (try simp only [decide_eq_true_eq, decide_eq_false_iff_not, bI] at *); (unfold fSet frowN; (try simp only [v10, v11, v12, v16, v40, v41, v111]); (try simp only [vs0, vs1]); (repeat' split) <;> first | rfl | omega | (exfalso; simp_all; done) | (exfalso; simp_all; omega)))]))
      · refine z_aload_n C 0 rfl dX6_set_48 rfl ?_
        refine z_bipush C dX6_set_49 (by decide) ?_
        refine y_callV1 C oX6_no iX6_no eX6_no lkX6_83 (c_X6_no (by first | assumption | omega)) rfl (by decide) rfl rfl (by decide) (Nat.le_refl _) (Nat.le_refl _) (Nat.le_of_ble_eq_true rfl) dX6_set_51 ?_
        exact zZ_iret C hR (Nat.le_refl _) (Nat.le_refl _) dX6_set_54 rfl (zIs_I (uRc (show fSet (VI I) s i = -2 by (try simp only [decide_eq_true_eq, decide_eq_false_iff_not, bI] at *); (unfold fSet frowN; (try simp only [v10, v11, v12, v16, v40, v41, v111]); (try simp only [vs0, vs1]); (repeat' split) <;> first | rfl | omega | (exfalso; simp_all; done) | (exfalso; simp_all; omega))) (by decide)).symm (by rw [uKc (show fSet (VI I) s i = -2 by (try simp only [decide_eq_true_eq, decide_eq_false_iff_not, bI] at *); (unfold fSet frowN; (try simp only [v10, v11, v12, v16, v40, v41, v111]); (try simp only [vs0, vs1]); (repeat' split) <;> first | rfl | omega | (exfalso; simp_all; done) | (exfalso; simp_all; omega))) (by decide), uJc (show fSet (VI I) s i = -2 by (try simp only [decide_eq_true_eq, decide_eq_false_iff_not, bI] at *); (unfold fSet frowN; (try simp only [v10, v11, v12, v16, v40, v41, v111]); (try simp only [vs0, vs1]); (repeat' split) <;> first | rfl | omega | (exfalso; simp_all; done) | (exfalso; simp_all; omega))) (by decide)]))
    · refine z_aload_n C 0 rfl dX6_set_22 rfl ?_
      refine z_aload_n C 0 rfl dX6_set_23 rfl ?_
      refine z_iload_n C 1 rfl dX6_set_24 rfl ?_
      refine y_callV1 C oX6_noRow iX6_noRow eX6_noRow lkX6_90 (c_X6_noRow hrl (by first | assumption | omega)) rfl (by decide) rfl rfl (by decide) (Nat.le_refl _) (Nat.le_refl _) (Nat.le_of_ble_eq_true rfl) dX6_set_25 ?_
      refine z_topI C (fun ft eft => ?_)
      have eft2 : ft = -3 ∨ ft = -4 := by (have h19 : ¬ (0 ≤ I 64 s.toNat ∧ I 64 s.toNat < 5) := by simpa using h19); unfold noRN at eft; (repeat' split at eft) <;> omega
      unfold noRN at eft
      refine y_callV1 C oX6_no iX6_no eX6_no lkX6_83 (c_X6_no (by first | assumption | omega)) rfl (by decide) rfl rfl (by decide) (Nat.le_refl _) (Nat.le_refl _) (Nat.le_of_ble_eq_true rfl) dX6_set_28 ?_
      exact zZ_iret C hR (Nat.le_refl _) (Nat.le_refl _) dX6_set_31 rfl (zIs_I (uRc (show fSet (VI I) s i = ft by (try simp only [decide_eq_true_eq, decide_eq_false_iff_not, bI] at *); (unfold fSet frowN; (try simp only [v10, v11, v12, v16, v40, v41, v111]); (try simp only [vs0, vs1]); (repeat' split) <;> first | rfl | omega | (exfalso; simp_all; done) | (exfalso; simp_all; omega))) (by omega)).symm (by rw [uKc (show fSet (VI I) s i = ft by (try simp only [decide_eq_true_eq, decide_eq_false_iff_not, bI] at *); (unfold fSet frowN; (try simp only [v10, v11, v12, v16, v40, v41, v111]); (try simp only [vs0, vs1]); (repeat' split) <;> first | rfl | omega | (exfalso; simp_all; done) | (exfalso; simp_all; omega))) (by omega), uJc (show fSet (VI I) s i = ft by (try simp only [decide_eq_true_eq, decide_eq_false_iff_not, bI] at *); (unfold fSet frowN; (try simp only [v10, v11, v12, v16, v40, v41, v111]); (try simp only [vs0, vs1]); (repeat' split) <;> first | rfl | omega | (exfalso; simp_all; done) | (exfalso; simp_all; omega))) (by omega)]))
  · have vs0 : True := trivial
    have vs1 : True := trivial
    refine z_aload_n C 0 rfl dX6_set_7 rfl ?_
    refine z_bipush C dX6_set_8 (by decide) ?_
    refine y_callV1 C oX6_no iX6_no eX6_no lkX6_83 (c_X6_no (by first | assumption | omega)) rfl (by decide) rfl rfl (by decide) (Nat.le_refl _) (Nat.le_refl _) (Nat.le_of_ble_eq_true rfl) dX6_set_10 ?_
    exact zZ_iret C hR (Nat.le_refl _) (Nat.le_refl _) dX6_set_13 rfl (zIs_I (uRc (show fSet (VI I) s i = -2 by (try simp only [decide_eq_true_eq, decide_eq_false_iff_not, bI] at *); (unfold fSet frowN; (try simp only [v10, v11, v12, v16, v40, v41, v111]); (try simp only [vs0, vs1]); (repeat' split) <;> first | rfl | omega | (exfalso; simp_all; done) | (exfalso; simp_all; omega))) (by decide)).symm (by rw [uKc (show fSet (VI I) s i = -2 by (try simp only [decide_eq_true_eq, decide_eq_false_iff_not, bI] at *); (unfold fSet frowN; (try simp only [v10, v11, v12, v16, v40, v41, v111]); (try simp only [vs0, vs1]); (repeat' split) <;> first | rfl | omega | (exfalso; simp_all; done) | (exfalso; simp_all; omega))) (by decide), uJc (show fSet (VI I) s i = -2 by (try simp only [decide_eq_true_eq, decide_eq_false_iff_not, bI] at *); (unfold fSet frowN; (try simp only [v10, v11, v12, v16, v40, v41, v111]); (try simp only [vs0, vs1]); (repeat' split) <;> first | rfl | omega | (exfalso; simp_all; done) | (exfalso; simp_all; omega))) (by decide)]))
set_option maxHeartbeats 4000000 in
set_option maxRecDepth 100000 in
theorem c_X6_element {g : zG} {I : Nat → Nat → Int} {J : Nat → Nat → Int64} {q : Nat × Nat} {s i : Int} (hgr : gR I) (hrs : gRS (spR I)) (hrl : gRL I) (hs : -2147483648 ≤ s ∧ s ≤ 2147483647) (hi : -2147483648 ≤ i ∧ i ≤ 2147483647) : zRun g mX6_element 2 [.ref 58, .int (iI s), .int (iI i)] (zst I J q) (some (.long (elemN (VI I) (VJ I J) s i))) (zst I J q) := by
  obtain ⟨b1, b2, b3, b4, b5, b6, b7⟩ := id hgr
  obtain ⟨k1, k2, k3⟩ := id hrs
  have k1 : gC7 (I 58 3) := k1
  have k2 : 0 ≤ I 58 4 ∧ I 58 4 ≤ 4 := k2
  have k3 : ∀ e, e < 5 → gC7 (I 62 e) := k3
  have k1' := k1.1
  have b2' := b2.1
  have v10 : VI I 1 0 = I 58 0 := rfl
  have v11 : VI I 1 1 = I 58 2 := rfl
  have v12 : VI I 1 2 = I 58 9 := rfl
  have v16 : VI I 1 6 = I 58 5 := rfl
  have v40 : VI I 4 0 = I 58 3 := rfl
  have v41 : VI I 4 1 = I 58 4 := rfl
  have v111 : VI I 11 1 = I 58 12 := rfl
  have v13 : VI I 1 3 = I 58 10 := rfl
  have v14 : VI I 1 4 = I 58 11 := rfl
  refine zRuns_intro rfl (Nat.le_of_ble_eq_true rfl) (fun X C hR => ?_)
  show zZ g X 0 0 _ 0 [(0, .ref 58), (1, .int (iI s)), (2, .int (iI i))] []
  refine z_iload_n C 1 rfl dX6_element_0 rfl ?_
  refine y_callS1 C oX6_isShelf sX6_isShelf lkX6_79 (c_X6_isShelf (by first | assumption | omega)) (by decide) (Nat.le_refl _) (Nat.le_refl _) (Nat.le_of_ble_eq_true rfl) dX6_element_1 ?_
  refine y_if_eqB C 45 dX6_element_4 (by decide) (fun h4 => ?_) (fun h4 => ?_)
  · refine z_lconst C 0 dX6_element_45 rfl ?_
    exact zZ_lret C hR (Nat.le_refl _) (Nat.le_refl _) dX6_element_46 rfl (zIs_J (by (try simp only [decide_eq_true_eq, decide_eq_false_iff_not, bI] at *); unfold elemN; rw [if_neg (by omega)]) rfl)
  · have hs8 : 0 ≤ s ∧ s < 8 := by simpa using h4
    have hls := hrl s.toNat (by omega)
    have vs0 := VI_s0 (I := I) (k := s.toNat) (by omega)
    have vs1 := VI_s1 (I := I) (k := s.toNat) (by omega)
    refine z_aload_n C 0 rfl dX6_element_7 rfl ?_
    refine z_iload_n C 1 rfl dX6_element_8 rfl ?_
    refine y_callV1 C oX6_isRow iX6_isRow eX6_isRow lkX6_87 (c_X6_isRow hrl (by first | assumption | omega)) rfl (by decide) rfl rfl (by decide) (Nat.le_refl _) (Nat.le_refl _) (Nat.le_of_ble_eq_true rfl) dX6_element_9 ?_
    refine y_if_eqB C 45 dX6_element_12 (by decide) (fun h12 => ?_) (fun h12 => ?_)
    · refine z_lconst C 0 dX6_element_45 rfl ?_
      exact zZ_lret C hR (Nat.le_refl _) (Nat.le_refl _) dX6_element_46 rfl (zIs_J (by (try simp only [decide_eq_true_eq, decide_eq_false_iff_not, bI] at *); unfold elemN; rw [vs0, vs1]; rw [if_neg (by omega)]) rfl)
    · refine z_iload_n C 2 rfl dX6_element_15 rfl ?_
      refine z_iconst C dX6_element_16 ?_
      refine z_aload_n C 0 rfl dX6_element_17 rfl ?_
      refine y_getR C zCl6 19 flX6_29 rfl rfl rfl dX6_element_18 ?_
      refine z_iload_n C 1 rfl dX6_element_21 rfl ?_
      refine y_iald C s.toNat (by omega) rfl (by omega) (by decide) dX6_element_22 ?_
      refine z_iconst C dX6_element_23 ?_
      refine z_isub C dX6_element_24 ?_
      refine y_callS3 C oX6_within sX6_within lkX6_75 (c_X6_within (by first | assumption | omega) (by first | assumption | omega) (by first | assumption | omega)) (by decide) (Nat.le_refl _) (Nat.le_refl _) (Nat.le_of_ble_eq_true rfl) dX6_element_25 ?_
      refine y_if_eqB C 45 dX6_element_28 (by decide) (fun h28 => ?_) (fun h28 => ?_)
      · refine z_lconst C 0 dX6_element_45 rfl ?_
        exact zZ_lret C hR (Nat.le_refl _) (Nat.le_refl _) dX6_element_46 rfl (zIs_J (by (try simp only [decide_eq_true_eq, decide_eq_false_iff_not, bI] at *); unfold elemN; rw [vs0, vs1]; rw [if_neg (by omega)]) rfl)
      · have h19b : 0 ≤ I 64 s.toNat ∧ I 64 s.toNat < 5 := by simpa using h12
        have h45b : 0 ≤ i ∧ i ≤ I 65 s.toNat - 1 := by simpa using h28
        refine z_aload_n C 0 rfl dX6_element_31 rfl ?_
        refine y_getR C zCl6 20 flX6_32 rfl rfl rfl dX6_element_32 ?_
        refine z_bipush C dX6_element_35 (by decide) ?_
        refine z_iload_n C 1 rfl dX6_element_37 rfl ?_
        refine z_imul C dX6_element_38 ?_
        refine z_iload_n C 2 rfl dX6_element_39 rfl ?_
        refine z_iadd C dX6_element_40 ?_
        refine y_lald C (40 * s.toNat + i.toNat) (by omega) rfl (by omega) (by decide) dX6_element_41 ?_
        refine z_goto C 46 dX6_element_42 (by decide) ?_
        exact zZ_lret C hR (Nat.le_refl _) (Nat.le_refl _) dX6_element_46 rfl (zIs_J (by unfold elemN; rw [vs0, vs1, if_pos (by omega), VJ_s (by omega)]) rfl)
set_option maxHeartbeats 4000000 in
set_option maxRecDepth 100000 in
theorem c_X6_holds {g : zG} {I : Nat → Nat → Int} {J : Nat → Nat → Int64} {q : Nat × Nat} {s : Int} (hgr : gR I) (hrs : gRS (spR I)) (hrl : gRL I) (hs : -2147483648 ≤ s ∧ s ≤ 2147483647) : zRun g mX6_holds 2 [.ref 58, .int (iI s)] (zst I J q) (some (.int (iI (holdsN (VI I) s)))) (zst I J q) := by
  obtain ⟨b1, b2, b3, b4, b5, b6, b7⟩ := id hgr
  obtain ⟨k1, k2, k3⟩ := id hrs
  have k1 : gC7 (I 58 3) := k1
  have k2 : 0 ≤ I 58 4 ∧ I 58 4 ≤ 4 := k2
  have k3 : ∀ e, e < 5 → gC7 (I 62 e) := k3
  have k1' := k1.1
  have b2' := b2.1
  have v10 : VI I 1 0 = I 58 0 := rfl
  have v11 : VI I 1 1 = I 58 2 := rfl
  have v12 : VI I 1 2 = I 58 9 := rfl
  have v16 : VI I 1 6 = I 58 5 := rfl
  have v40 : VI I 4 0 = I 58 3 := rfl
  have v41 : VI I 4 1 = I 58 4 := rfl
  have v111 : VI I 11 1 = I 58 12 := rfl
  have v13 : VI I 1 3 = I 58 10 := rfl
  have v14 : VI I 1 4 = I 58 11 := rfl
  refine zRuns_intro rfl (Nat.le_of_ble_eq_true rfl) (fun X C hR => ?_)
  show zZ g X 0 0 _ 0 [(0, .ref 58), (1, .int (iI s))] []
  refine z_iload_n C 1 rfl dX6_holds_0 rfl ?_
  refine y_callS1 C oX6_isShelf sX6_isShelf lkX6_79 (c_X6_isShelf (by first | assumption | omega)) (by decide) (Nat.le_refl _) (Nat.le_refl _) (Nat.le_of_ble_eq_true rfl) dX6_holds_1 ?_
  refine y_if_eqB C 16 dX6_holds_4 (by decide) (fun h4 => ?_) (fun h4 => ?_)
  · refine z_iconst C dX6_holds_16 ?_
    exact zZ_iret C hR (Nat.le_refl _) (Nat.le_refl _) dX6_holds_17 rfl (zIs_I (by unfold holdsN; rw [if_neg (by simpa using h4)]) rfl)
  · have hs8 : 0 ≤ s ∧ s < 8 := by simpa using h4
    have hls := hrl s.toNat (by omega)
    have vs0 := VI_s0 (I := I) (k := s.toNat) (by omega)
    have vs1 := VI_s1 (I := I) (k := s.toNat) (by omega)
    refine z_aload_n C 0 rfl dX6_holds_7 rfl ?_
    refine y_getR C zCl6 18 flX6_26 rfl rfl rfl dX6_holds_8 ?_
    refine z_iload_n C 1 rfl dX6_holds_11 rfl ?_
    refine y_iald C s.toNat (by omega) rfl (by omega) (by decide) dX6_holds_12 ?_
    refine z_goto C 17 dX6_holds_13 (by decide) ?_
    exact zZ_iret C hR (Nat.le_refl _) (Nat.le_refl _) dX6_holds_17 rfl (zIs_I (by unfold holdsN; rw [if_pos hs8, vs0]) rfl)
set_option maxHeartbeats 4000000 in
set_option maxRecDepth 100000 in
theorem c_X6_show {g : zG} {I : Nat → Nat → Int} {J : Nat → Nat → Int64} {q : Nat × Nat} {s e : Int} (hgr : gR I) (hrs : gRS (spR I)) (hrl : gRL I) (hs : -2147483648 ≤ s ∧ s ≤ 2147483647) (he : -2147483648 ≤ e ∧ e ≤ 2147483647) : zRun g mX6_show 2 [.ref 58, .int (iI s), .int (iI e)] (zst I J q) (some (.int (iI (uR (fShow (VI I) s e) (1))))) (zst (uK I (fShow (VI I) s e) (zu I 64 s.toNat (if e = -1 then -1 else 10 + e))) J q) := by
  obtain ⟨b1, b2, b3, b4, b5, b6, b7⟩ := id hgr
  obtain ⟨k1, k2, k3⟩ := id hrs
  have k1 : gC7 (I 58 3) := k1
  have k2 : 0 ≤ I 58 4 ∧ I 58 4 ≤ 4 := k2
  have k3 : ∀ e, e < 5 → gC7 (I 62 e) := k3
  have k1' := k1.1
  have b2' := b2.1
  have v10 : VI I 1 0 = I 58 0 := rfl
  have v11 : VI I 1 1 = I 58 2 := rfl
  have v12 : VI I 1 2 = I 58 9 := rfl
  have v16 : VI I 1 6 = I 58 5 := rfl
  have v40 : VI I 4 0 = I 58 3 := rfl
  have v41 : VI I 4 1 = I 58 4 := rfl
  have v111 : VI I 11 1 = I 58 12 := rfl
  have v13 : VI I 1 3 = I 58 10 := rfl
  have v14 : VI I 1 4 = I 58 11 := rfl
  refine zRuns_intro rfl (Nat.le_of_ble_eq_true rfl) (fun X C hR => ?_)
  show zZ g X 0 0 _ 0 [(0, .ref 58), (1, .int (iI s)), (2, .int (iI e))] []
  refine z_iload_n C 1 rfl dX6_show_0 rfl ?_
  refine y_callS1 C oX6_isShelf sX6_isShelf lkX6_79 (c_X6_isShelf (by first | assumption | omega)) (by decide) (Nat.le_refl _) (Nat.le_refl _) (Nat.le_of_ble_eq_true rfl) dX6_show_1 ?_
  refine y_if_eqB C 20 dX6_show_4 (by decide) (fun h4 => ?_) (fun h4 => ?_)
  · refine z_aload_n C 0 rfl dX6_show_20 rfl ?_
    refine z_bipush C dX6_show_21 (by decide) ?_
    refine y_callV1 C oX6_no iX6_no eX6_no lkX6_83 (c_X6_no (by first | assumption | omega)) rfl (by decide) rfl rfl (by decide) (Nat.le_refl _) (Nat.le_refl _) (Nat.le_of_ble_eq_true rfl) dX6_show_23 ?_
    exact zZ_iret C hR (Nat.le_refl _) (Nat.le_refl _) dX6_show_26 rfl (zIs_I (uRc (show fShow (VI I) s e = -2 by (try simp only [decide_eq_true_eq, decide_eq_false_iff_not, bI] at *); (unfold fShow; (try simp only [v10, v11, v12, v16, v40, v41, v111]); (try simp only [v10]); (repeat' split) <;> first | rfl | omega | (exfalso; simp_all; done) | (exfalso; simp_all; omega))) (by decide)).symm (by rw [uKc (show fShow (VI I) s e = -2 by (try simp only [decide_eq_true_eq, decide_eq_false_iff_not, bI] at *); (unfold fShow; (try simp only [v10, v11, v12, v16, v40, v41, v111]); (try simp only [v10]); (repeat' split) <;> first | rfl | omega | (exfalso; simp_all; done) | (exfalso; simp_all; omega))) (by decide)]))
  · refine z_iload_n C 2 rfl dX6_show_7 rfl ?_
    refine z_iconst C dX6_show_8 ?_
    refine z_icmp_eq C 27 dX6_show_9 (by decide) (by omega) (by omega) (fun h9 => ?_) (fun h9 => ?_)
    · have hs8 : 0 ≤ s ∧ s < 8 := by simpa using h4
      refine z_aload_n C 0 rfl dX6_show_27 rfl ?_
      refine y_getR C zCl6 18 flX6_26 rfl rfl rfl dX6_show_28 ?_
      refine z_iload_n C 1 rfl dX6_show_31 rfl ?_
      refine z_iload_n C 2 rfl dX6_show_32 rfl ?_
      refine z_iconst C dX6_show_33 ?_
      refine z_icmp_ne C 41 dX6_show_34 (by decide) (by omega) (by omega) (fun h34 => ?_) (fun h34 => ?_)
      · refine z_bipush C dX6_show_41 (by decide) ?_
        refine z_iload_n C 2 rfl dX6_show_43 rfl ?_
        refine z_iadd C dX6_show_44 ?_
        refine y_iast C s.toNat (by omega) rfl (by omega) (by decide) dX6_show_45 ?_
        refine z_iconst C dX6_show_46 ?_
        exact zZ_iret C hR (Nat.le_refl _) (Nat.le_refl _) dX6_show_47 rfl (zIs_I ((rfl).trans (uR0 (show fShow (VI I) s e = 0 by (try simp only [decide_eq_true_eq, decide_eq_false_iff_not, bI] at *); (unfold fShow; (try simp only [v10, v11, v12, v16, v40, v41, v111]); (try simp only [v10]); (repeat' split) <;> first | rfl | omega | (exfalso; simp_all; done) | (exfalso; simp_all; omega)))).symm) (by rw [uK0 (show fShow (VI I) s e = 0 by (try simp only [decide_eq_true_eq, decide_eq_false_iff_not, bI] at *); (unfold fShow; (try simp only [v10, v11, v12, v16, v40, v41, v111]); (try simp only [v10]); (repeat' split) <;> first | rfl | omega | (exfalso; simp_all; done) | (exfalso; simp_all; omega)))]; (first | rw [if_pos h34] | rw [if_neg h34])))
      · refine z_iconst C dX6_show_37 ?_
        refine z_goto C 45 dX6_show_38 (by decide) ?_
        refine y_iast C s.toNat (by omega) rfl (by omega) (by decide) dX6_show_45 ?_
        refine z_iconst C dX6_show_46 ?_
        exact zZ_iret C hR (Nat.le_refl _) (Nat.le_refl _) dX6_show_47 rfl (zIs_I ((rfl).trans (uR0 (show fShow (VI I) s e = 0 by (try simp only [decide_eq_true_eq, decide_eq_false_iff_not, bI] at *); (unfold fShow; (try simp only [v10, v11, v12, v16, v40, v41, v111]); (try simp only [v10]); (repeat' split) <;> first | rfl | omega | (exfalso; simp_all; done) | (exfalso; simp_all; omega)))).symm) (by rw [uK0 (show fShow (VI I) s e = 0 by (try simp only [decide_eq_true_eq, decide_eq_false_iff_not, bI] at *); (unfold fShow; (try simp only [v10, v11, v12, v16, v40, v41, v111]); (try simp only [v10]); (repeat' split) <;> first | rfl | omega | (exfalso; simp_all; done) | (exfalso; simp_all; omega)))]; (first | rw [if_pos h34] | rw [if_neg h34])))
    · refine z_aload_n C 0 rfl dX6_show_12 rfl ?_
      refine z_iload_n C 2 rfl dX6_show_13 rfl ?_
      refine y_callV1 C oX6_isEwe iX6_isEwe eX6_isEwe lkX6_97 (c_X6_isEwe hgr (by first | assumption | omega)) rfl (by decide) rfl rfl (by decide) (Nat.le_refl _) (Nat.le_refl _) (Nat.le_of_ble_eq_true rfl) dX6_show_14 ?_
      refine y_if_neB C 27 dX6_show_17 (by decide) (fun h17 => ?_) (fun h17 => ?_)
      · have hs8 : 0 ≤ s ∧ s < 8 := by simpa using h4
        refine z_aload_n C 0 rfl dX6_show_27 rfl ?_
        refine y_getR C zCl6 18 flX6_26 rfl rfl rfl dX6_show_28 ?_
        refine z_iload_n C 1 rfl dX6_show_31 rfl ?_
        refine z_iload_n C 2 rfl dX6_show_32 rfl ?_
        refine z_iconst C dX6_show_33 ?_
        refine z_icmp_ne C 41 dX6_show_34 (by decide) (by omega) (by omega) (fun h34 => ?_) (fun h34 => ?_)
        · refine z_bipush C dX6_show_41 (by decide) ?_
          refine z_iload_n C 2 rfl dX6_show_43 rfl ?_
          refine z_iadd C dX6_show_44 ?_
          refine y_iast C s.toNat (by omega) rfl (by omega) (by decide) dX6_show_45 ?_
          refine z_iconst C dX6_show_46 ?_
          exact zZ_iret C hR (Nat.le_refl _) (Nat.le_refl _) dX6_show_47 rfl (zIs_I ((rfl).trans (uR0 (show fShow (VI I) s e = 0 by (try simp only [decide_eq_true_eq, decide_eq_false_iff_not, bI] at *); (unfold fShow; (try simp only [v10, v11, v12, v16, v40, v41, v111]); (try simp only [v10]); (repeat' split) <;> first | rfl | omega | (exfalso; simp_all; done) | (exfalso; simp_all; omega)))).symm) (by rw [uK0 (show fShow (VI I) s e = 0 by (try simp only [decide_eq_true_eq, decide_eq_false_iff_not, bI] at *); (unfold fShow; (try simp only [v10, v11, v12, v16, v40, v41, v111]); (try simp only [v10]); (repeat' split) <;> first | rfl | omega | (exfalso; simp_all; done) | (exfalso; simp_all; omega)))]; (first | rw [if_pos h34] | rw [if_neg h34])))
        · refine z_iconst C dX6_show_37 ?_
          refine z_goto C 45 dX6_show_38 (by decide) ?_
          refine y_iast C s.toNat (by omega) rfl (by omega) (by decide) dX6_show_45 ?_
          refine z_iconst C dX6_show_46 ?_
          exact zZ_iret C hR (Nat.le_refl _) (Nat.le_refl _) dX6_show_47 rfl (zIs_I ((rfl).trans (uR0 (show fShow (VI I) s e = 0 by (try simp only [decide_eq_true_eq, decide_eq_false_iff_not, bI] at *); (unfold fShow; (try simp only [v10, v11, v12, v16, v40, v41, v111]); (try simp only [v10]); (repeat' split) <;> first | rfl | omega | (exfalso; simp_all; done) | (exfalso; simp_all; omega)))).symm) (by rw [uK0 (show fShow (VI I) s e = 0 by (try simp only [decide_eq_true_eq, decide_eq_false_iff_not, bI] at *); (unfold fShow; (try simp only [v10, v11, v12, v16, v40, v41, v111]); (try simp only [v10]); (repeat' split) <;> first | rfl | omega | (exfalso; simp_all; done) | (exfalso; simp_all; omega)))]; (first | rw [if_pos h34] | rw [if_neg h34])))
      · refine z_aload_n C 0 rfl dX6_show_20 rfl ?_
        refine z_bipush C dX6_show_21 (by decide) ?_
        refine y_callV1 C oX6_no iX6_no eX6_no lkX6_83 (c_X6_no (by first | assumption | omega)) rfl (by decide) rfl rfl (by decide) (Nat.le_refl _) (Nat.le_refl _) (Nat.le_of_ble_eq_true rfl) dX6_show_23 ?_
        exact zZ_iret C hR (Nat.le_refl _) (Nat.le_refl _) dX6_show_26 rfl (zIs_I (uRc (show fShow (VI I) s e = -2 by (try simp only [decide_eq_true_eq, decide_eq_false_iff_not, bI] at *); (unfold fShow; (try simp only [v10, v11, v12, v16, v40, v41, v111]); (try simp only [v10]); (repeat' split) <;> first | rfl | omega | (exfalso; simp_all; done) | (exfalso; simp_all; omega))) (by decide)).symm (by rw [uKc (show fShow (VI I) s e = -2 by (try simp only [decide_eq_true_eq, decide_eq_false_iff_not, bI] at *); (unfold fShow; (try simp only [v10, v11, v12, v16, v40, v41, v111]); (try simp only [v10]); (repeat' split) <;> first | rfl | omega | (exfalso; simp_all; done) | (exfalso; simp_all; omega))) (by decide)]))
set_option maxHeartbeats 4000000 in
set_option maxRecDepth 100000 in
theorem c_X6_isUnder {g : zG} {I : Nat → Nat → Int} {J : Nat → Nat → Int64} {q : Nat × Nat} {kd up : Int} (hk : -2147483648 ≤ kd ∧ kd ≤ 2147483647) (hu : -2147483648 ≤ up ∧ up ≤ 2147483647) : zRun g mX6_isUnder 0 [.int (iI kd), .int (iI up)] (zst I J q) (some (.int (iI (bI (underN kd up))))) (zst I J q) := by
  refine zRuns_intro rfl (Nat.le_of_ble_eq_true rfl) (fun X C hR => ?_)
  show zZ g X 0 0 _ 0 [(0, .int (iI kd)), (1, .int (iI up))] []
  refine z_iload_n C 1 rfl dX6_isUnder_0 rfl ?_
  refine z_if_eq C 29 dX6_isUnder_1 (by decide) (by omega) (fun h1 => ?_) (fun h1 => ?_)
  · refine z_iconst C dX6_isUnder_29 ?_
    refine z_goto C 34 dX6_isUnder_30 (by decide) ?_
    exact zZ_zret C hR (Nat.le_refl _) (Nat.le_refl _) dX6_isUnder_34 rfl (Or.inr rfl) (zIs_I (by unfold underN; simp [bI]; omega) rfl)
  · refine z_iload_n C 0 rfl dX6_isUnder_4 rfl ?_
    refine z_iload_n C 1 rfl dX6_isUnder_5 rfl ?_
    refine z_icmp_eq C 29 dX6_isUnder_6 (by decide) (by omega) (by omega) (fun h6 => ?_) (fun h6 => ?_)
    · refine z_iconst C dX6_isUnder_29 ?_
      refine z_goto C 34 dX6_isUnder_30 (by decide) ?_
      exact zZ_zret C hR (Nat.le_refl _) (Nat.le_refl _) dX6_isUnder_34 rfl (Or.inr rfl) (zIs_I (by unfold underN; simp [bI]; omega) rfl)
    · refine z_iload_n C 0 rfl dX6_isUnder_9 rfl ?_
      refine z_iconst C dX6_isUnder_10 ?_
      refine z_icmp_ne C 19 dX6_isUnder_11 (by decide) (by omega) (by omega) (fun h11 => ?_) (fun h11 => ?_)
      · refine z_iload_n C 0 rfl dX6_isUnder_19 rfl ?_
        refine z_iconst C dX6_isUnder_20 ?_
        refine z_icmp_ne C 33 dX6_isUnder_21 (by decide) (by omega) (by omega) (fun h21 => ?_) (fun h21 => ?_)
        · refine z_iconst C dX6_isUnder_33 ?_
          exact zZ_zret C hR (Nat.le_refl _) (Nat.le_refl _) dX6_isUnder_34 rfl (Or.inl rfl) (zIs_I (by unfold underN; simp [bI]; omega) rfl)
        · refine z_iload_n C 1 rfl dX6_isUnder_24 rfl ?_
          refine z_iconst C dX6_isUnder_25 ?_
          refine z_icmp_ne C 33 dX6_isUnder_26 (by decide) (by omega) (by omega) (fun h26 => ?_) (fun h26 => ?_)
          · refine z_iconst C dX6_isUnder_33 ?_
            exact zZ_zret C hR (Nat.le_refl _) (Nat.le_refl _) dX6_isUnder_34 rfl (Or.inl rfl) (zIs_I (by unfold underN; simp [bI]; omega) rfl)
          · refine z_iconst C dX6_isUnder_29 ?_
            refine z_goto C 34 dX6_isUnder_30 (by decide) ?_
            exact zZ_zret C hR (Nat.le_refl _) (Nat.le_refl _) dX6_isUnder_34 rfl (Or.inr rfl) (zIs_I (by unfold underN; simp [bI]; omega) rfl)
      · refine z_iload_n C 1 rfl dX6_isUnder_14 rfl ?_
        refine z_iconst C dX6_isUnder_15 ?_
        refine z_icmp_eq C 29 dX6_isUnder_16 (by decide) (by omega) (by omega) (fun h16 => ?_) (fun h16 => ?_)
        · refine z_iconst C dX6_isUnder_29 ?_
          refine z_goto C 34 dX6_isUnder_30 (by decide) ?_
          exact zZ_zret C hR (Nat.le_refl _) (Nat.le_refl _) dX6_isUnder_34 rfl (Or.inr rfl) (zIs_I (by unfold underN; simp [bI]; omega) rfl)
        · refine z_iload_n C 0 rfl dX6_isUnder_19 rfl ?_
          refine z_iconst C dX6_isUnder_20 ?_
          refine z_icmp_ne C 33 dX6_isUnder_21 (by decide) (by omega) (by omega) (fun h21 => ?_) (fun h21 => ?_)
          · refine z_iconst C dX6_isUnder_33 ?_
            exact zZ_zret C hR (Nat.le_refl _) (Nat.le_refl _) dX6_isUnder_34 rfl (Or.inl rfl) (zIs_I (by unfold underN; simp [bI]; omega) rfl)
          · refine z_iload_n C 1 rfl dX6_isUnder_24 rfl ?_
            refine z_iconst C dX6_isUnder_25 ?_
            refine z_icmp_ne C 33 dX6_isUnder_26 (by decide) (by omega) (by omega) (fun h26 => ?_) (fun h26 => ?_)
            · refine z_iconst C dX6_isUnder_33 ?_
              exact zZ_zret C hR (Nat.le_refl _) (Nat.le_refl _) dX6_isUnder_34 rfl (Or.inl rfl) (zIs_I (by unfold underN; simp [bI]; omega) rfl)
            · refine z_iconst C dX6_isUnder_29 ?_
              refine z_goto C 34 dX6_isUnder_30 (by decide) ?_
              exact zZ_zret C hR (Nat.le_refl _) (Nat.le_refl _) dX6_isUnder_34 rfl (Or.inr rfl) (zIs_I (by unfold underN; simp [bI]; omega) rfl)
set_option maxHeartbeats 4000000 in
set_option maxRecDepth 100000 in
theorem c_X6_side {g : zG} {I : Nat → Nat → Int} {J : Nat → Nat → Int64} {q : Nat × Nat} {n : Int} (hgr : gR I) (hrs : gRS (spR I)) (hrl : gRL I) (hn : -2147483648 ≤ n ∧ n ≤ 2147483647) : zRun g mX6_side 1 [.ref 58, .int (iI n)] (zst I J q) (some (.int (iI (uR (fSide (VI I) n) (I 58 0))))) (zst (uK I (fSide (VI I) n) (zu I 58 0 n)) J q) := by
  obtain ⟨b1, b2, b3, b4, b5, b6, b7⟩ := id hgr
  obtain ⟨k1, k2, k3⟩ := id hrs
  have k1 : gC7 (I 58 3) := k1
  have k2 : 0 ≤ I 58 4 ∧ I 58 4 ≤ 4 := k2
  have k3 : ∀ e, e < 5 → gC7 (I 62 e) := k3
  have k1' := k1.1
  have b2' := b2.1
  have v10 : VI I 1 0 = I 58 0 := rfl
  have v11 : VI I 1 1 = I 58 2 := rfl
  have v12 : VI I 1 2 = I 58 9 := rfl
  have v16 : VI I 1 6 = I 58 5 := rfl
  have v40 : VI I 4 0 = I 58 3 := rfl
  have v41 : VI I 4 1 = I 58 4 := rfl
  have v111 : VI I 11 1 = I 58 12 := rfl
  have v13 : VI I 1 3 = I 58 10 := rfl
  have v14 : VI I 1 4 = I 58 11 := rfl
  refine zRuns_intro rfl (Nat.le_of_ble_eq_true rfl) (fun X C hR => ?_)
  show zZ g X 0 0 _ 0 [(0, .ref 58), (1, .int (iI n))] []
  refine z_iload_n C 1 rfl dX6_side_0 rfl ?_
  refine z_iconst C dX6_side_1 ?_
  refine z_bipush C dX6_side_2 (by decide) ?_
  refine y_callS3 C oX6_within sX6_within lkX6_75 (c_X6_within (by first | assumption | omega) (by first | assumption | omega) (by first | assumption | omega)) (by decide) (Nat.le_refl _) (Nat.le_refl _) (Nat.le_of_ble_eq_true rfl) dX6_side_4 ?_
  refine y_if_eqB C 18 dX6_side_7 (by decide) (fun h7 => ?_) (fun h7 => ?_)
  · refine z_aload_n C 0 rfl dX6_side_18 rfl ?_
    refine z_bipush C dX6_side_19 (by decide) ?_
    refine y_callV1 C oX6_no iX6_no eX6_no lkX6_83 (c_X6_no (by first | assumption | omega)) rfl (by decide) rfl rfl (by decide) (Nat.le_refl _) (Nat.le_refl _) (Nat.le_of_ble_eq_true rfl) dX6_side_21 ?_
    exact zZ_iret C hR (Nat.le_refl _) (Nat.le_refl _) dX6_side_24 rfl (zIs_I (uRc (show fSide (VI I) n = -2 by (try simp only [decide_eq_true_eq, decide_eq_false_iff_not, bI] at *); (unfold fSide; (try simp only [v10, v11, v12, v16, v40, v41, v111]); (try simp only [v10]); (repeat' split) <;> first | rfl | omega | (exfalso; simp_all; done) | (exfalso; simp_all; omega))) (by decide)).symm (by rw [uKc (show fSide (VI I) n = -2 by (try simp only [decide_eq_true_eq, decide_eq_false_iff_not, bI] at *); (unfold fSide; (try simp only [v10, v11, v12, v16, v40, v41, v111]); (try simp only [v10]); (repeat' split) <;> first | rfl | omega | (exfalso; simp_all; done) | (exfalso; simp_all; omega))) (by decide)]))
  · refine z_iload_n C 1 rfl dX6_side_10 rfl ?_
    refine z_aload_n C 0 rfl dX6_side_11 rfl ?_
    refine y_getI C zCl6 0 flX6_57 rfl rfl dX6_side_12 ?_
    refine z_icmp_ge C 25 dX6_side_15 (by decide) (by omega) (by omega) (fun h15 => ?_) (fun h15 => ?_)
    · refine z_aload_n C 0 rfl dX6_side_25 rfl ?_
      refine y_getI C zCl6 0 flX6_57 rfl rfl dX6_side_26 ?_
      refine z_topI C (fun w ew => ?_)
      refine z_istore_n C [(2, .int (iI w)), (0, .ref 58), (1, .int (iI n))] dX6_side_29 rfl (by decide) rfl ?_
      refine z_aload_n C 1 rfl dX6_side_30 rfl ?_
      refine z_iload_n C 2 rfl dX6_side_31 rfl ?_
      refine y_putI C zCl6 0 flX6_57 rfl rfl rfl rfl dX6_side_32 ?_
      refine z_iload_n C 0 rfl dX6_side_35 rfl ?_
      exact zZ_iret C hR (Nat.le_refl _) (Nat.le_refl _) dX6_side_36 rfl (zIs_I ((ew).trans (uR0 (show fSide (VI I) n = 0 by (try simp only [decide_eq_true_eq, decide_eq_false_iff_not, bI] at *); (unfold fSide; (try simp only [v10, v11, v12, v16, v40, v41, v111]); (try simp only [v10]); (repeat' split) <;> first | rfl | omega | (exfalso; simp_all; done) | (exfalso; simp_all; omega)))).symm) (by rw [uK0 (show fSide (VI I) n = 0 by (try simp only [decide_eq_true_eq, decide_eq_false_iff_not, bI] at *); (unfold fSide; (try simp only [v10, v11, v12, v16, v40, v41, v111]); (try simp only [v10]); (repeat' split) <;> first | rfl | omega | (exfalso; simp_all; done) | (exfalso; simp_all; omega)))]))
    · refine z_aload_n C 0 rfl dX6_side_18 rfl ?_
      refine z_bipush C dX6_side_19 (by decide) ?_
      refine y_callV1 C oX6_no iX6_no eX6_no lkX6_83 (c_X6_no (by first | assumption | omega)) rfl (by decide) rfl rfl (by decide) (Nat.le_refl _) (Nat.le_refl _) (Nat.le_of_ble_eq_true rfl) dX6_side_21 ?_
      exact zZ_iret C hR (Nat.le_refl _) (Nat.le_refl _) dX6_side_24 rfl (zIs_I (uRc (show fSide (VI I) n = -2 by (try simp only [decide_eq_true_eq, decide_eq_false_iff_not, bI] at *); (unfold fSide; (try simp only [v10, v11, v12, v16, v40, v41, v111]); (try simp only [v10]); (repeat' split) <;> first | rfl | omega | (exfalso; simp_all; done) | (exfalso; simp_all; omega))) (by decide)).symm (by rw [uKc (show fSide (VI I) n = -2 by (try simp only [decide_eq_true_eq, decide_eq_false_iff_not, bI] at *); (unfold fSide; (try simp only [v10, v11, v12, v16, v40, v41, v111]); (try simp only [v10]); (repeat' split) <;> first | rfl | omega | (exfalso; simp_all; done) | (exfalso; simp_all; omega))) (by decide)]))
set_option maxHeartbeats 4000000 in
set_option maxRecDepth 100000 in
theorem c_X6_wind {g : zG} {I : Nat → Nat → Int} {J : Nat → Nat → Int64} {q : Nat × Nat} {v : Int} (hgr : gR I) (hrs : gRS (spR I)) (hrl : gRL I) (hv : -2147483648 ≤ v ∧ v ≤ 2147483647) : zRun g mX6_wind 1 [.ref 58, .int (iI v)] (zst I J q) (some (.int (iI (uR (fWind v) (I 58 9))))) (zst (uK I (fWind v) (zu I 58 9 v)) J q) := by
  obtain ⟨b1, b2, b3, b4, b5, b6, b7⟩ := id hgr
  obtain ⟨k1, k2, k3⟩ := id hrs
  have k1 : gC7 (I 58 3) := k1
  have k2 : 0 ≤ I 58 4 ∧ I 58 4 ≤ 4 := k2
  have k3 : ∀ e, e < 5 → gC7 (I 62 e) := k3
  have k1' := k1.1
  have b2' := b2.1
  have v10 : VI I 1 0 = I 58 0 := rfl
  have v11 : VI I 1 1 = I 58 2 := rfl
  have v12 : VI I 1 2 = I 58 9 := rfl
  have v16 : VI I 1 6 = I 58 5 := rfl
  have v40 : VI I 4 0 = I 58 3 := rfl
  have v41 : VI I 4 1 = I 58 4 := rfl
  have v111 : VI I 11 1 = I 58 12 := rfl
  have v13 : VI I 1 3 = I 58 10 := rfl
  have v14 : VI I 1 4 = I 58 11 := rfl
  refine zRuns_intro rfl (Nat.le_of_ble_eq_true rfl) (fun X C hR => ?_)
  show zZ g X 0 0 _ 0 [(0, .ref 58), (1, .int (iI v))] []
  refine z_iload_n C 1 rfl dX6_wind_0 rfl ?_
  refine z_iconst C dX6_wind_1 ?_
  refine z_bipush C dX6_wind_2 (by decide) ?_
  refine y_callS3 C oX6_within sX6_within lkX6_75 (c_X6_within (by first | assumption | omega) (by first | assumption | omega) (by first | assumption | omega)) (by decide) (Nat.le_refl _) (Nat.le_refl _) (Nat.le_of_ble_eq_true rfl) dX6_wind_4 ?_
  refine y_if_neB C 17 dX6_wind_7 (by decide) (fun h7 => ?_) (fun h7 => ?_)
  · refine z_aload_n C 0 rfl dX6_wind_17 rfl ?_
    refine y_getI C zCl6 9 flX6_64 rfl rfl dX6_wind_18 ?_
    refine z_topI C (fun w ew => ?_)
    refine z_istore_n C [(2, .int (iI w)), (0, .ref 58), (1, .int (iI v))] dX6_wind_21 rfl (by decide) rfl ?_
    refine z_aload_n C 1 rfl dX6_wind_22 rfl ?_
    refine z_iload_n C 2 rfl dX6_wind_23 rfl ?_
    refine y_putI C zCl6 9 flX6_64 rfl rfl rfl rfl dX6_wind_24 ?_
    refine z_iload_n C 0 rfl dX6_wind_27 rfl ?_
    exact zZ_iret C hR (Nat.le_refl _) (Nat.le_refl _) dX6_wind_28 rfl (zIs_I ((ew).trans (uR0 (show fWind v = 0 by (try simp only [decide_eq_true_eq, decide_eq_false_iff_not, bI] at *); (unfold fWind; (try simp only [v10, v11, v12, v16, v40, v41, v111]); (try simp only [v10]); (repeat' split) <;> first | rfl | omega | (exfalso; simp_all; done) | (exfalso; simp_all; omega)))).symm) (by rw [uK0 (show fWind v = 0 by (try simp only [decide_eq_true_eq, decide_eq_false_iff_not, bI] at *); (unfold fWind; (try simp only [v10, v11, v12, v16, v40, v41, v111]); (try simp only [v10]); (repeat' split) <;> first | rfl | omega | (exfalso; simp_all; done) | (exfalso; simp_all; omega)))]))
  · refine z_aload_n C 0 rfl dX6_wind_10 rfl ?_
    refine z_bipush C dX6_wind_11 (by decide) ?_
    refine y_callV1 C oX6_no iX6_no eX6_no lkX6_83 (c_X6_no (by first | assumption | omega)) rfl (by decide) rfl rfl (by decide) (Nat.le_refl _) (Nat.le_refl _) (Nat.le_of_ble_eq_true rfl) dX6_wind_13 ?_
    exact zZ_iret C hR (Nat.le_refl _) (Nat.le_refl _) dX6_wind_16 rfl (zIs_I (uRc (show fWind v = -2 by (try simp only [decide_eq_true_eq, decide_eq_false_iff_not, bI] at *); (unfold fWind; (try simp only [v10, v11, v12, v16, v40, v41, v111]); (try simp only [v10]); (repeat' split) <;> first | rfl | omega | (exfalso; simp_all; done) | (exfalso; simp_all; omega))) (by decide)).symm (by rw [uKc (show fWind v = -2 by (try simp only [decide_eq_true_eq, decide_eq_false_iff_not, bI] at *); (unfold fWind; (try simp only [v10, v11, v12, v16, v40, v41, v111]); (try simp only [v10]); (repeat' split) <;> first | rfl | omega | (exfalso; simp_all; done) | (exfalso; simp_all; omega))) (by decide)]))
set_option maxHeartbeats 4000000 in
set_option maxRecDepth 100000 in
theorem c_X6_wipe {g : zG} {I : Nat → Nat → Int} {J : Nat → Nat → Int64} {q : Nat × Nat}  (hgr : gR I) (hrs : gRS (spR I)) (hrl : gRL I) : zRun g mX6_wipe 0 [.ref 58] (zst I J q) (some (.int (iI (I 58 12)))) (zst (zu I 58 12 0) J q) := by
  refine zRuns_intro rfl (Nat.le_of_ble_eq_true rfl) (fun X C hR => ?_)
  show zZ g X 0 0 _ 0 [(0, .ref 58)] []
  refine z_aload_n C 0 rfl dX6_wipe_0 rfl ?_
  refine y_getI C zCl6 12 flX6_149 rfl rfl dX6_wipe_1 ?_
  refine z_topI C (fun w ew => ?_)
  refine z_istore_n C [(1, .int (iI w)), (0, .ref 58)] dX6_wipe_4 rfl (by decide) rfl ?_
  refine z_aload_n C 1 rfl dX6_wipe_5 rfl ?_
  refine z_iconst C dX6_wipe_6 ?_
  refine y_putI C zCl6 12 flX6_149 rfl rfl rfl rfl dX6_wipe_7 ?_
  refine z_iload_n C 0 rfl dX6_wipe_10 rfl ?_
  exact zZ_iret C hR (Nat.le_refl _) (Nat.le_refl _) dX6_wipe_11 rfl (zIs_I ew rfl)
set_option maxHeartbeats 4000000 in
set_option maxRecDepth 100000 in
theorem c_X6_seed {g : zG} {I : Nat → Nat → Int} {J : Nat → Nat → Int64} {q : Nat × Nat} {v : Int} (hgr : gR I) (hrs : gRS (spR I)) (hrl : gRL I) : zRun g mX6_seed 0 [.ref 58, .int (iI v)] (zst I J q) (some (.int (iI (I 58 11)))) (zst (zu I 58 11 v) J q) := by
  refine zRuns_intro rfl (Nat.le_of_ble_eq_true rfl) (fun X C hR => ?_)
  show zZ g X 0 0 _ 0 [(0, .ref 58), (1, .int (iI v))] []
  refine z_aload_n C 0 rfl dX6_seed_0 rfl ?_
  refine y_getI C zCl6 11 flX6_67 rfl rfl dX6_seed_1 ?_
  refine z_topI C (fun w ew => ?_)
  refine z_istore_n C [(2, .int (iI w)), (0, .ref 58), (1, .int (iI v))] dX6_seed_4 rfl (by decide) rfl ?_
  refine z_aload_n C 1 rfl dX6_seed_5 rfl ?_
  refine z_iload_n C 2 rfl dX6_seed_6 rfl ?_
  refine y_putI C zCl6 11 flX6_67 rfl rfl rfl rfl dX6_seed_7 ?_
  refine z_iload_n C 0 rfl dX6_seed_10 rfl ?_
  exact zZ_iret C hR (Nat.le_refl _) (Nat.le_refl _) dX6_seed_11 rfl (zIs_I ew rfl)
set_option maxHeartbeats 4000000 in
set_option maxRecDepth 100000 in
theorem c_X6_feed {g : zG} {I : Nat → Nat → Int} {J : Nat → Nat → Int64} {q : Nat × Nat} {c : Int} (hgr : gR I) (hrs : gRS (spR I)) (hrl : gRL I) (ht : 0 ≤ I 58 12 ∧ I 58 12 ≤ 250) (hc : -2147483648 ≤ c ∧ c ≤ 2147483647) : zRun g mX6_feed 1 [.ref 58, .int (iI c)] (zst I J q) (some (.int (iI (uR (fFeed (VI I) c) (I 58 12 + 1))))) (zst (uK I (fFeed (VI I) c) (zu (zu I 58 12 (I 58 12 + 1)) 63 (I 58 12).toNat c)) J q) := by
  obtain ⟨b1, b2, b3, b4, b5, b6, b7⟩ := id hgr
  obtain ⟨k1, k2, k3⟩ := id hrs
  have k1 : gC7 (I 58 3) := k1
  have k2 : 0 ≤ I 58 4 ∧ I 58 4 ≤ 4 := k2
  have k3 : ∀ e, e < 5 → gC7 (I 62 e) := k3
  have k1' := k1.1
  have b2' := b2.1
  have v10 : VI I 1 0 = I 58 0 := rfl
  have v11 : VI I 1 1 = I 58 2 := rfl
  have v12 : VI I 1 2 = I 58 9 := rfl
  have v16 : VI I 1 6 = I 58 5 := rfl
  have v40 : VI I 4 0 = I 58 3 := rfl
  have v41 : VI I 4 1 = I 58 4 := rfl
  have v111 : VI I 11 1 = I 58 12 := rfl
  have v13 : VI I 1 3 = I 58 10 := rfl
  have v14 : VI I 1 4 = I 58 11 := rfl
  refine zRuns_intro rfl (Nat.le_of_ble_eq_true rfl) (fun X C hR => ?_)
  show zZ g X 0 0 _ 0 [(0, .ref 58), (1, .int (iI c))] []
  refine z_iload_n C 1 rfl dX6_feed_0 rfl ?_
  refine z_iconst C dX6_feed_1 ?_
  refine z_sipush C dX6_feed_2 (by decide) ?_
  refine y_callS3 C oX6_within sX6_within lkX6_75 (c_X6_within (by first | assumption | omega) (by first | assumption | omega) (by first | assumption | omega)) (by decide) (Nat.le_refl _) (Nat.le_refl _) (Nat.le_of_ble_eq_true rfl) dX6_feed_5 ?_
  refine y_if_neB C 18 dX6_feed_8 (by decide) (fun h8 => ?_) (fun h8 => ?_)
  · refine z_aload_n C 0 rfl dX6_feed_18 rfl ?_
    refine y_getI C zCl6 12 flX6_149 rfl rfl dX6_feed_19 ?_
    refine z_sipush C dX6_feed_22 (by decide) ?_
    refine z_icmp_ne C 35 dX6_feed_25 (by decide) (by omega) (by omega) (fun h25 => ?_) (fun h25 => ?_)
    · refine z_aload_n C 0 rfl dX6_feed_35 rfl ?_
      refine y_getR C zCl6 13 flX6_23 rfl rfl rfl dX6_feed_36 ?_
      refine z_aload_n C 0 rfl dX6_feed_39 rfl ?_
      refine z_dup C dX6_feed_40 rfl ?_
      refine y_getI C zCl6 12 flX6_149 rfl rfl dX6_feed_41 ?_
      refine z_dup_x1 C dX6_feed_44 rfl rfl ?_
      refine z_iconst C dX6_feed_45 ?_
      refine z_iadd C dX6_feed_46 ?_
      refine y_putI C zCl6 12 flX6_149 rfl rfl rfl rfl dX6_feed_47 ?_
      refine z_iload_n C 1 rfl dX6_feed_50 rfl ?_
      refine y_iast C (I 58 12).toNat (by omega) rfl (by omega) (by decide) dX6_feed_51 ?_
      refine z_aload_n C 0 rfl dX6_feed_52 rfl ?_
      refine y_getI C zCl6 12 flX6_149 rfl rfl dX6_feed_53 ?_
      exact zZ_iret C hR (Nat.le_refl _) (Nat.le_refl _) dX6_feed_56 rfl (zIs_I ((rfl).trans (uR0 (show fFeed (VI I) c = 0 by (try simp only [decide_eq_true_eq, decide_eq_false_iff_not, bI] at *); (unfold fFeed; (try simp only [v10, v11, v12, v16, v40, v41, v111]); (try simp only [v10]); (repeat' split) <;> first | rfl | omega | (exfalso; simp_all; done) | (exfalso; simp_all; omega)))).symm) (by rw [uK0 (show fFeed (VI I) c = 0 by (try simp only [decide_eq_true_eq, decide_eq_false_iff_not, bI] at *); (unfold fFeed; (try simp only [v10, v11, v12, v16, v40, v41, v111]); (try simp only [v10]); (repeat' split) <;> first | rfl | omega | (exfalso; simp_all; done) | (exfalso; simp_all; omega)))]))
    · refine z_aload_n C 0 rfl dX6_feed_28 rfl ?_
      refine z_bipush C dX6_feed_29 (by decide) ?_
      refine y_callV1 C oX6_no iX6_no eX6_no lkX6_83 (c_X6_no (by first | assumption | omega)) rfl (by decide) rfl rfl (by decide) (Nat.le_refl _) (Nat.le_refl _) (Nat.le_of_ble_eq_true rfl) dX6_feed_31 ?_
      exact zZ_iret C hR (Nat.le_refl _) (Nat.le_refl _) dX6_feed_34 rfl (zIs_I (uRc (show fFeed (VI I) c = -6 by (try simp only [decide_eq_true_eq, decide_eq_false_iff_not, bI] at *); (unfold fFeed; (try simp only [v10, v11, v12, v16, v40, v41, v111]); (try simp only [v10]); (repeat' split) <;> first | rfl | omega | (exfalso; simp_all; done) | (exfalso; simp_all; omega))) (by decide)).symm (by rw [uKc (show fFeed (VI I) c = -6 by (try simp only [decide_eq_true_eq, decide_eq_false_iff_not, bI] at *); (unfold fFeed; (try simp only [v10, v11, v12, v16, v40, v41, v111]); (try simp only [v10]); (repeat' split) <;> first | rfl | omega | (exfalso; simp_all; done) | (exfalso; simp_all; omega))) (by decide)]))
  · refine z_aload_n C 0 rfl dX6_feed_11 rfl ?_
    refine z_bipush C dX6_feed_12 (by decide) ?_
    refine y_callV1 C oX6_no iX6_no eX6_no lkX6_83 (c_X6_no (by first | assumption | omega)) rfl (by decide) rfl rfl (by decide) (Nat.le_refl _) (Nat.le_refl _) (Nat.le_of_ble_eq_true rfl) dX6_feed_14 ?_
    exact zZ_iret C hR (Nat.le_refl _) (Nat.le_refl _) dX6_feed_17 rfl (zIs_I (uRc (show fFeed (VI I) c = -2 by (try simp only [decide_eq_true_eq, decide_eq_false_iff_not, bI] at *); (unfold fFeed; (try simp only [v10, v11, v12, v16, v40, v41, v111]); (try simp only [v10]); (repeat' split) <;> first | rfl | omega | (exfalso; simp_all; done) | (exfalso; simp_all; omega))) (by decide)).symm (by rw [uKc (show fFeed (VI I) c = -2 by (try simp only [decide_eq_true_eq, decide_eq_false_iff_not, bI] at *); (unfold fFeed; (try simp only [v10, v11, v12, v16, v40, v41, v111]); (try simp only [v10]); (repeat' split) <;> first | rfl | omega | (exfalso; simp_all; done) | (exfalso; simp_all; omega))) (by decide)]))
