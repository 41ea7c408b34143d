set_option maxHeartbeats 4000000 in
set_option maxRecDepth 100000 in
theorem c_X5_row {g : zG} {I : Nat → Nat → Int} {J : Nat → Nat → Int64} {q : Nat × Nat} {s so n : Int} (hg : gH I 1) (hq : gS I 4) (hl : gL I) (hs : -2147483648 ≤ s ∧ s ≤ 2147483647) (hso : -2147483648 ≤ so ∧ so ≤ 2147483647) (hn : -2147483648 ≤ n ∧ n ≤ 2147483647) : zRun g mX5_row 2 [.ref 0, .int (iI s), .int (iI so), .int (iI n)] (zst I J q) (some (.int (iI (uR (fRow s so n) (1))))) (zst (uI I (fRow s so n) (zu (zu I (19 + 2 * s.toNat) 0 so) (19 + 2 * s.toNat) 1 n)) (uJ J (fRow s so n) (zfl J (19 + 2 * s.toNat + 1) 40 0)) q) := by
  refine zRuns_intro rfl (Nat.le_of_ble_eq_true rfl) (fun X C hR => ?_)
  show zZ g X 0 0 _ 0 [(0, .ref 0), (1, .int (iI s)), (2, .int (iI so)), (3, .int (iI n))] []
  refine z_iload_n C 1 rfl dX5_row_0 rfl ?_
  refine y_callS1 C oX5_isShelf sX5_isShelf lkX5_55 (c_X5_isShelf (by first | assumption | omega)) (by decide) (Nat.le_refl _) (Nat.le_refl _) (Nat.le_of_ble_eq_true rfl) dX5_row_1 ?_
  refine y_if_eqB C 26 dX5_row_4 (by decide) (fun h4 => ?_) (fun h4 => ?_)
  · refine z_aload_n C 0 rfl dX5_row_26 rfl ?_
    refine z_bipush C dX5_row_27 (by decide) ?_
    refine y_callV1 C oX5_refuse iX5_refuse eX5_refuse lkX5_59 (c_X5_refuse (by first | assumption | omega)) rfl (by decide) rfl rfl (by decide) (Nat.le_refl _) (Nat.le_refl _) (Nat.le_of_ble_eq_true rfl) dX5_row_29 ?_
    exact zZ_iret C hR (Nat.le_refl _) (Nat.le_refl _) dX5_row_32 rfl (zIs_I (uRc (show fRow s so n = -2 by (try simp only [decide_eq_true_eq, decide_eq_false_iff_not, bI] at *); unfold fRow; (repeat' split) <;> first | rfl | omega | (exfalso; simp_all; done) | (exfalso; simp_all; omega)) (by decide)).symm (by rw [uIc (show fRow s so n = -2 by (try simp only [decide_eq_true_eq, decide_eq_false_iff_not, bI] at *); unfold fRow; (repeat' split) <;> first | rfl | omega | (exfalso; simp_all; done) | (exfalso; simp_all; omega)) (by decide), uJc (show fRow s so n = -2 by (try simp only [decide_eq_true_eq, decide_eq_false_iff_not, bI] at *); unfold fRow; (repeat' split) <;> first | rfl | omega | (exfalso; simp_all; done) | (exfalso; simp_all; omega)) (by decide)]))
  · have hs8 : 0 ≤ s ∧ s < 8 := by simpa using h4
    have hls := hl s.toNat (by omega)
    refine z_iload_n C 2 rfl dX5_row_7 rfl ?_
    refine z_if_lt C 26 dX5_row_8 (by decide) (by omega) (fun h8 => ?_) (fun h8 => ?_)
    · refine z_aload_n C 0 rfl dX5_row_26 rfl ?_
      refine z_bipush C dX5_row_27 (by decide) ?_
      refine y_callV1 C oX5_refuse iX5_refuse eX5_refuse lkX5_59 (c_X5_refuse (by first | assumption | omega)) rfl (by decide) rfl rfl (by decide) (Nat.le_refl _) (Nat.le_refl _) (Nat.le_of_ble_eq_true rfl) dX5_row_29 ?_
      exact zZ_iret C hR (Nat.le_refl _) (Nat.le_refl _) dX5_row_32 rfl (zIs_I (uRc (show fRow s so n = -2 by (try simp only [decide_eq_true_eq, decide_eq_false_iff_not, bI] at *); unfold fRow; (repeat' split) <;> first | rfl | omega | (exfalso; simp_all; done) | (exfalso; simp_all; omega)) (by decide)).symm (by rw [uIc (show fRow s so n = -2 by (try simp only [decide_eq_true_eq, decide_eq_false_iff_not, bI] at *); unfold fRow; (repeat' split) <;> first | rfl | omega | (exfalso; simp_all; done) | (exfalso; simp_all; omega)) (by decide), uJc (show fRow s so n = -2 by (try simp only [decide_eq_true_eq, decide_eq_false_iff_not, bI] at *); unfold fRow; (repeat' split) <;> first | rfl | omega | (exfalso; simp_all; done) | (exfalso; simp_all; omega)) (by decide)]))
    · refine z_iload_n C 2 rfl dX5_row_11 rfl ?_
      refine z_iconst C dX5_row_12 ?_
      refine z_icmp_ge C 26 dX5_row_13 (by decide) (by omega) (by omega) (fun h13 => ?_) (fun h13 => ?_)
      · refine z_aload_n C 0 rfl dX5_row_26 rfl ?_
        refine z_bipush C dX5_row_27 (by decide) ?_
        refine y_callV1 C oX5_refuse iX5_refuse eX5_refuse lkX5_59 (c_X5_refuse (by first | assumption | omega)) rfl (by decide) rfl rfl (by decide) (Nat.le_refl _) (Nat.le_refl _) (Nat.le_of_ble_eq_true rfl) dX5_row_29 ?_
        exact zZ_iret C hR (Nat.le_refl _) (Nat.le_refl _) dX5_row_32 rfl (zIs_I (uRc (show fRow s so n = -2 by (try simp only [decide_eq_true_eq, decide_eq_false_iff_not, bI] at *); unfold fRow; (repeat' split) <;> first | rfl | omega | (exfalso; simp_all; done) | (exfalso; simp_all; omega)) (by decide)).symm (by rw [uIc (show fRow s so n = -2 by (try simp only [decide_eq_true_eq, decide_eq_false_iff_not, bI] at *); unfold fRow; (repeat' split) <;> first | rfl | omega | (exfalso; simp_all; done) | (exfalso; simp_all; omega)) (by decide), uJc (show fRow s so n = -2 by (try simp only [decide_eq_true_eq, decide_eq_false_iff_not, bI] at *); unfold fRow; (repeat' split) <;> first | rfl | omega | (exfalso; simp_all; done) | (exfalso; simp_all; omega)) (by decide)]))
      · refine z_iload_n C 3 rfl dX5_row_16 rfl ?_
        refine z_if_lt C 26 dX5_row_17 (by decide) (by omega) (fun h17 => ?_) (fun h17 => ?_)
        · refine z_aload_n C 0 rfl dX5_row_26 rfl ?_
          refine z_bipush C dX5_row_27 (by decide) ?_
          refine y_callV1 C oX5_refuse iX5_refuse eX5_refuse lkX5_59 (c_X5_refuse (by first | assumption | omega)) rfl (by decide) rfl rfl (by decide) (Nat.le_refl _) (Nat.le_refl _) (Nat.le_of_ble_eq_true rfl) dX5_row_29 ?_
          exact zZ_iret C hR (Nat.le_refl _) (Nat.le_refl _) dX5_row_32 rfl (zIs_I (uRc (show fRow s so n = -2 by (try simp only [decide_eq_true_eq, decide_eq_false_iff_not, bI] at *); unfold fRow; (repeat' split) <;> first | rfl | omega | (exfalso; simp_all; done) | (exfalso; simp_all; omega)) (by decide)).symm (by rw [uIc (show fRow s so n = -2 by (try simp only [decide_eq_true_eq, decide_eq_false_iff_not, bI] at *); unfold fRow; (repeat' split) <;> first | rfl | omega | (exfalso; simp_all; done) | (exfalso; simp_all; omega)) (by decide), uJc (show fRow s so n = -2 by (try simp only [decide_eq_true_eq, decide_eq_false_iff_not, bI] at *); unfold fRow; (repeat' split) <;> first | rfl | omega | (exfalso; simp_all; done) | (exfalso; simp_all; omega)) (by decide)]))
        · refine z_iload_n C 3 rfl dX5_row_20 rfl ?_
          refine z_bipush C dX5_row_21 (by decide) ?_
          refine z_icmp_le C 33 dX5_row_23 (by decide) (by omega) (by omega) (fun h23 => ?_) (fun h23 => ?_)
          · refine z_aload_n C 0 rfl dX5_row_33 rfl ?_
            refine y_getR C zCl5 4 flX5_32 rfl rfl rfl dX5_row_34 ?_
            refine z_iload_n C 1 rfl dX5_row_37 rfl ?_
            refine y_aald C s.toNat 10 (by decide) (by omega) rfl (by omega) (by decide) (rt_18 (by omega)) dX5_row_38 ?_
            refine z_iload_n C 2 rfl dX5_row_39 rfl ?_
            refine z_iload_n C 3 rfl dX5_row_40 rfl ?_
            refine y_callV2 C oX2_takeRow iX2_takeRow eX2_takeRow lkX5_63 (c_X2_takeRow (isL_of (by omega))) (lay_l (isL_of (by omega))) (by decide) rfl rfl (by decide) (Nat.le_refl _) (Nat.le_refl _) (Nat.le_of_ble_eq_true rfl) dX5_row_41 ?_
            refine z_iconst C dX5_row_44 ?_
            exact zZ_iret C hR (Nat.le_refl _) (Nat.le_refl _) dX5_row_45 rfl (zIs_I ((rfl).trans (uR0 (show fRow s so n = 0 by (try simp only [decide_eq_true_eq, decide_eq_false_iff_not, bI] at *); unfold fRow; (repeat' split) <;> first | rfl | omega | (exfalso; simp_all; done) | (exfalso; simp_all; omega))).symm) (by rw [uI0 (show fRow s so n = 0 by (try simp only [decide_eq_true_eq, decide_eq_false_iff_not, bI] at *); unfold fRow; (repeat' split) <;> first | rfl | omega | (exfalso; simp_all; done) | (exfalso; simp_all; omega)), uJ0 (show fRow s so n = 0 by (try simp only [decide_eq_true_eq, decide_eq_false_iff_not, bI] at *); unfold fRow; (repeat' split) <;> first | rfl | omega | (exfalso; simp_all; done) | (exfalso; simp_all; omega))]))
          · refine z_aload_n C 0 rfl dX5_row_26 rfl ?_
            refine z_bipush C dX5_row_27 (by decide) ?_
            refine y_callV1 C oX5_refuse iX5_refuse eX5_refuse lkX5_59 (c_X5_refuse (by first | assumption | omega)) rfl (by decide) rfl rfl (by decide) (Nat.le_refl _) (Nat.le_refl _) (Nat.le_of_ble_eq_true rfl) dX5_row_29 ?_
            exact zZ_iret C hR (Nat.le_refl _) (Nat.le_refl _) dX5_row_32 rfl (zIs_I (uRc (show fRow s so n = -2 by (try simp only [decide_eq_true_eq, decide_eq_false_iff_not, bI] at *); unfold fRow; (repeat' split) <;> first | rfl | omega | (exfalso; simp_all; done) | (exfalso; simp_all; omega)) (by decide)).symm (by rw [uIc (show fRow s so n = -2 by (try simp only [decide_eq_true_eq, decide_eq_false_iff_not, bI] at *); unfold fRow; (repeat' split) <;> first | rfl | omega | (exfalso; simp_all; done) | (exfalso; simp_all; omega)) (by decide), uJc (show fRow s so n = -2 by (try simp only [decide_eq_true_eq, decide_eq_false_iff_not, bI] at *); unfold fRow; (repeat' split) <;> first | rfl | omega | (exfalso; simp_all; done) | (exfalso; simp_all; omega)) (by decide)]))
set_option maxHeartbeats 4000000 in
set_option maxRecDepth 100000 in
theorem c_X5_set {g : zG} {I : Nat → Nat → Int} {J : Nat → Nat → Int64} {q : Nat × Nat} {s i : Int} {v : Int64} (hg : gH I 1) (hq : gS I 4) (hl : gL I) (hs : -2147483648 ≤ s ∧ s ≤ 2147483647) (hi : -2147483648 ≤ i ∧ i ≤ 2147483647) : zRun g mX5_set 2 [.ref 0, .int (iI s), .int (iI i), .long v] (zst I J q) (some (.int (iI (uR (fSet I s i) (1))))) (zst (uI I (fSet I s i) (I)) (uJ J (fSet I s i) (zu J (19 + 2 * s.toNat + 1) i.toNat (cutN (I (19 + 2 * s.toNat) 0) v))) q) := by
  have hfc := frowN_c I s 0 40
  refine zRuns_intro rfl (Nat.le_of_ble_eq_true rfl) (fun X C hR => ?_)
  show zZ g X 0 0 _ 0 [(0, .ref 0), (1, .int (iI s)), (2, .int (iI i)), (3, .long v)] []
  refine z_aload_n C 0 rfl dX5_set_0 rfl ?_
  refine z_iload_n C 1 rfl dX5_set_1 rfl ?_
  refine z_iconst C dX5_set_2 ?_
  refine z_bipush C dX5_set_3 (by decide) ?_
  refine y_callV3 C oX5_faultOfRow iX5_faultOfRow eX5_faultOfRow lkX5_67 (c_X5_faultOfRow hl (by first | assumption | omega) (by first | assumption | omega) (by first | assumption | omega)) rfl (by decide) rfl rfl (by decide) (Nat.le_refl _) (Nat.le_refl _) (Nat.le_of_ble_eq_true rfl) dX5_set_5 ?_
  refine z_topI C (fun ft eft => ?_)
  refine z_istore C [(5, .int (iI ft)), (0, .ref 0), (1, .int (iI s)), (2, .int (iI i)), (3, .long v)] dX5_set_8 (by decide) rfl ?_
  refine z_iload C 0 rfl dX5_set_10 ?_
  refine z_if_eq C 22 dX5_set_12 (by decide) (by omega) (fun h12 => ?_) (fun h12 => ?_)
  · obtain ⟨f1, f2, f3, f4⟩ := frowN_0 (I := I) (s := s) (n := 0) (limit := 40) (by omega)
    have hls := hl s.toNat (by omega)
    refine z_iload_n C 3 rfl dX5_set_22 rfl ?_
    refine z_if_lt C 39 dX5_set_23 (by decide) (by omega) (fun h23 => ?_) (fun h23 => ?_)
    · refine z_aload_n C 1 rfl dX5_set_39 rfl ?_
      refine z_bipush C dX5_set_40 (by decide) ?_
      refine y_callV1 C oX5_refuse iX5_refuse eX5_refuse lkX5_59 (c_X5_refuse (by first | assumption | omega)) rfl (by decide) rfl rfl (by decide) (Nat.le_refl _) (Nat.le_refl _) (Nat.le_of_ble_eq_true rfl) dX5_set_42 ?_
      exact zZ_iret C hR (Nat.le_refl _) (Nat.le_refl _) dX5_set_45 rfl (zIs_I (uRc (show fSet I s i = -2 by (try simp only [decide_eq_true_eq, decide_eq_false_iff_not, bI] at *); unfold fSet; (repeat' split) <;> first | rfl | omega | (exfalso; simp_all; done) | (exfalso; simp_all; omega)) (by decide)).symm (by rw [uIc (show fSet I s i = -2 by (try simp only [decide_eq_true_eq, decide_eq_false_iff_not, bI] at *); unfold fSet; (repeat' split) <;> first | rfl | omega | (exfalso; simp_all; done) | (exfalso; simp_all; omega)) (by decide), uJc (show fSet I s i = -2 by (try simp only [decide_eq_true_eq, decide_eq_false_iff_not, bI] at *); unfold fSet; (repeat' split) <;> first | rfl | omega | (exfalso; simp_all; done) | (exfalso; simp_all; omega)) (by decide)]))
    · refine z_iload_n C 3 rfl dX5_set_26 rfl ?_
      refine z_aload_n C 1 rfl dX5_set_27 rfl ?_
      refine y_getR C zCl5 4 flX5_32 rfl rfl rfl dX5_set_28 ?_
      refine z_iload_n C 2 rfl dX5_set_31 rfl ?_
      refine y_aald C s.toNat 10 (by decide) (by omega) rfl (by omega) (by decide) (rt_18 (by omega)) dX5_set_32 ?_
      refine y_getI C zCl2 1 flX5_71 rfl (lay_l (isL_of (by omega))) dX5_set_33 ?_
      refine z_icmp_lt C 46 dX5_set_36 (by decide) (by omega) (by omega) (fun h36 => ?_) (fun h36 => ?_)
      · refine z_aload_n C 1 rfl dX5_set_46 rfl ?_
        refine y_getR C zCl5 4 flX5_32 rfl rfl rfl dX5_set_47 ?_
        refine z_iload_n C 2 rfl dX5_set_50 rfl ?_
        refine y_aald C s.toNat 10 (by decide) (by omega) rfl (by omega) (by decide) (rt_18 (by omega)) dX5_set_51 ?_
        refine y_getR C zCl2 2 flX5_75 rfl (lay_l (isL_of (by omega))) (rt_l (isL_of (by omega))) dX5_set_52 ?_
        refine z_iload_n C 3 rfl dX5_set_55 rfl ?_
        refine z_aload_n C 1 rfl dX5_set_56 rfl ?_
        refine y_getR C zCl5 4 flX5_32 rfl rfl rfl dX5_set_57 ?_
        refine z_iload_n C 2 rfl dX5_set_60 rfl ?_
        refine y_aald C s.toNat 10 (by decide) (by omega) rfl (by omega) (by decide) (rt_18 (by omega)) dX5_set_61 ?_
        refine y_getI C zCl2 0 flX5_79 rfl (lay_l (isL_of (by omega))) dX5_set_62 ?_
        refine z_lload_n C 4 rfl dX5_set_65 rfl ?_
        refine y_callS2 C oX5_cutTo sX5_cutTo lkX5_82 (c_X5_cutTo (by first | assumption | omega)) (by decide) (Nat.le_refl _) (Nat.le_refl _) (Nat.le_of_ble_eq_true rfl) dX5_set_66 ?_
        refine y_last C i.toNat (by omega) (lay_l1 (isL_of (by omega))) (by omega) (by decide) dX5_set_69 ?_
        refine z_iconst C dX5_set_70 ?_
        exact zZ_iret C hR (Nat.le_refl _) (Nat.le_refl _) dX5_set_71 rfl (zIs_I ((rfl).trans (uR0 (show fSet I s i = 0 by (try simp only [decide_eq_true_eq, decide_eq_false_iff_not, bI] at *); unfold fSet; (repeat' split) <;> first | rfl | omega | (exfalso; simp_all; done) | (exfalso; simp_all; omega))).symm) (by rw [uI0 (show fSet I s i = 0 by (try simp only [decide_eq_true_eq, decide_eq_false_iff_not, bI] at *); unfold fSet; (repeat' split) <;> first | rfl | omega | (exfalso; simp_all; done) | (exfalso; simp_all; omega)), uJ0 (show fSet I s i = 0 by (try simp only [decide_eq_true_eq, decide_eq_false_iff_not, bI] at *); unfold fSet; (repeat' split) <;> first | rfl | omega | (exfalso; simp_all; done) | (exfalso; simp_all; omega))]))
      · refine z_aload_n C 1 rfl dX5_set_39 rfl ?_
        refine z_bipush C dX5_set_40 (by decide) ?_
        refine y_callV1 C oX5_refuse iX5_refuse eX5_refuse lkX5_59 (c_X5_refuse (by first | assumption | omega)) rfl (by decide) rfl rfl (by decide) (Nat.le_refl _) (Nat.le_refl _) (Nat.le_of_ble_eq_true rfl) dX5_set_42 ?_
        exact zZ_iret C hR (Nat.le_refl _) (Nat.le_refl _) dX5_set_45 rfl (zIs_I (uRc (show fSet I s i = -2 by (try simp only [decide_eq_true_eq, decide_eq_false_iff_not, bI] at *); unfold fSet; (repeat' split) <;> first | rfl | omega | (exfalso; simp_all; done) | (exfalso; simp_all; omega)) (by decide)).symm (by rw [uIc (show fSet I s i = -2 by (try simp only [decide_eq_true_eq, decide_eq_false_iff_not, bI] at *); unfold fSet; (repeat' split) <;> first | rfl | omega | (exfalso; simp_all; done) | (exfalso; simp_all; omega)) (by decide), uJc (show fSet I s i = -2 by (try simp only [decide_eq_true_eq, decide_eq_false_iff_not, bI] at *); unfold fSet; (repeat' split) <;> first | rfl | omega | (exfalso; simp_all; done) | (exfalso; simp_all; omega)) (by decide)]))
  · refine z_aload_n C 1 rfl dX5_set_15 rfl ?_
    refine z_iload C 0 rfl dX5_set_16 ?_
    refine y_callV1 C oX5_refuse iX5_refuse eX5_refuse lkX5_59 (c_X5_refuse (by first | assumption | omega)) rfl (by decide) rfl rfl (by decide) (Nat.le_refl _) (Nat.le_refl _) (Nat.le_of_ble_eq_true rfl) dX5_set_18 ?_
    exact zZ_iret C hR (Nat.le_refl _) (Nat.le_refl _) dX5_set_21 rfl (zIs_I (uRc (show fSet I s i = ft by (try simp only [decide_eq_true_eq, decide_eq_false_iff_not, bI] at *); unfold fSet; (repeat' split) <;> first | rfl | omega | (exfalso; simp_all; done) | (exfalso; simp_all; omega)) (by omega)).symm (by rw [uIc (show fSet I s i = ft by (try simp only [decide_eq_true_eq, decide_eq_false_iff_not, bI] at *); unfold fSet; (repeat' split) <;> first | rfl | omega | (exfalso; simp_all; done) | (exfalso; simp_all; omega)) (by omega), uJc (show fSet I s i = ft by (try simp only [decide_eq_true_eq, decide_eq_false_iff_not, bI] at *); unfold fSet; (repeat' split) <;> first | rfl | omega | (exfalso; simp_all; done) | (exfalso; simp_all; omega)) (by omega)]))
set_option maxHeartbeats 4000000 in
set_option maxRecDepth 100000 in
theorem c_X5_element {g : zG} {I : Nat → Nat → Int} {J : Nat → Nat → Int64} {q : Nat × Nat} {s i : Int} (hg : gH I 1) (hq : gS I 4) (hl : gL I) (hs : -2147483648 ≤ s ∧ s ≤ 2147483647) (hi : -2147483648 ≤ i ∧ i ≤ 2147483647) : zRun g mX5_element 1 [.ref 0, .int (iI s), .int (iI i)] (zst I J q) (some (.long (elemN I J s i))) (zst I J q) := by
  refine zRuns_intro rfl (Nat.le_of_ble_eq_true rfl) (fun X C hR => ?_)
  show zZ g X 0 0 _ 0 [(0, .ref 0), (1, .int (iI s)), (2, .int (iI i))] []
  refine z_iload_n C 1 rfl dX5_element_0 rfl ?_
  refine y_callS1 C oX5_isShelf sX5_isShelf lkX5_55 (c_X5_isShelf (by first | assumption | omega)) (by decide) (Nat.le_refl _) (Nat.le_refl _) (Nat.le_of_ble_eq_true rfl) dX5_element_1 ?_
  refine y_if_eqB C 36 dX5_element_4 (by decide) (fun h4 => ?_) (fun h4 => ?_)
  · refine z_lconst C 0 dX5_element_36 rfl ?_
    exact zZ_lret C hR (Nat.le_refl _) (Nat.le_refl _) dX5_element_37 rfl (zIs_J (by (try simp only [decide_eq_true_eq, decide_eq_false_iff_not, bI] at *); unfold elemN; rw [if_neg (by omega)]) rfl)
  · have hs8 : 0 ≤ s ∧ s < 8 := by simpa using h4
    have hls := hl s.toNat (by omega)
    refine z_aload_n C 0 rfl dX5_element_7 rfl ?_
    refine y_getR C zCl5 4 flX5_32 rfl rfl rfl dX5_element_8 ?_
    refine z_iload_n C 1 rfl dX5_element_11 rfl ?_
    refine y_aald C s.toNat 10 (by decide) (by omega) rfl (by omega) (by decide) (rt_18 (by omega)) dX5_element_12 ?_
    refine y_callV0 C oX2_hasRow iX2_hasRow eX2_hasRow lkX5_86 (c_X2_hasRow (isL_of (by omega)) (by first | assumption | omega)) (lay_l (isL_of (by omega))) (by decide) rfl rfl (by decide) (Nat.le_refl _) (Nat.le_refl _) (Nat.le_of_ble_eq_true rfl) dX5_element_13 ?_
    refine y_if_eqB C 36 dX5_element_16 (by decide) (fun h16 => ?_) (fun h16 => ?_)
    · refine z_lconst C 0 dX5_element_36 rfl ?_
      exact zZ_lret C hR (Nat.le_refl _) (Nat.le_refl _) dX5_element_37 rfl (zIs_J (by (try simp only [decide_eq_true_eq, decide_eq_false_iff_not, bI] at *); unfold elemN; rw [if_neg (by omega)]) rfl)
    · have hrw : 0 ≤ I (19 + 2 * s.toNat) 0 ∧ I (19 + 2 * s.toNat) 0 < 5 := by simpa using h16
      refine z_iload_n C 2 rfl dX5_element_19 rfl ?_
      refine z_if_lt C 36 dX5_element_20 (by decide) (by omega) (fun h20 => ?_) (fun h20 => ?_)
      · refine z_lconst C 0 dX5_element_36 rfl ?_
        exact zZ_lret C hR (Nat.le_refl _) (Nat.le_refl _) dX5_element_37 rfl (zIs_J (by (try simp only [decide_eq_true_eq, decide_eq_false_iff_not, bI] at *); unfold elemN; rw [if_neg (by omega)]) rfl)
      · refine z_iload_n C 2 rfl dX5_element_23 rfl ?_
        refine z_aload_n C 0 rfl dX5_element_24 rfl ?_
        refine y_getR C zCl5 4 flX5_32 rfl rfl rfl dX5_element_25 ?_
        refine z_iload_n C 1 rfl dX5_element_28 rfl ?_
        refine y_aald C s.toNat 10 (by decide) (by omega) rfl (by omega) (by decide) (rt_18 (by omega)) dX5_element_29 ?_
        refine y_getI C zCl2 1 flX5_71 rfl (lay_l (isL_of (by omega))) dX5_element_30 ?_
        refine z_icmp_lt C 38 dX5_element_33 (by decide) (by omega) (by omega) (fun h33 => ?_) (fun h33 => ?_)
        · refine z_aload_n C 0 rfl dX5_element_38 rfl ?_
          refine y_getR C zCl5 4 flX5_32 rfl rfl rfl dX5_element_39 ?_
          refine z_iload_n C 1 rfl dX5_element_42 rfl ?_
          refine y_aald C s.toNat 10 (by decide) (by omega) rfl (by omega) (by decide) (rt_18 (by omega)) dX5_element_43 ?_
          refine y_getR C zCl2 2 flX5_75 rfl (lay_l (isL_of (by omega))) (rt_l (isL_of (by omega))) dX5_element_44 ?_
          refine z_iload_n C 2 rfl dX5_element_47 rfl ?_
          refine y_lald C i.toNat (by omega) (lay_l1 (isL_of (by omega))) (by omega) (by decide) dX5_element_48 ?_
          exact zZ_lret C hR (Nat.le_refl _) (Nat.le_refl _) dX5_element_49 rfl (zIs_J (by unfold elemN; rw [if_pos (by omega)]) rfl)
        · refine z_lconst C 0 dX5_element_36 rfl ?_
          exact zZ_lret C hR (Nat.le_refl _) (Nat.le_refl _) dX5_element_37 rfl (zIs_J (by (try simp only [decide_eq_true_eq, decide_eq_false_iff_not, bI] at *); unfold elemN; rw [if_neg (by omega)]) rfl)
set_option maxHeartbeats 4000000 in
set_option maxRecDepth 100000 in
theorem c_X5_holds {g : zG} {I : Nat → Nat → Int} {J : Nat → Nat → Int64} {q : Nat × Nat} {s : Int} (hg : gH I 1) (hq : gS I 4) (hl : gL I) (hs : -2147483648 ≤ s ∧ s ≤ 2147483647) : zRun g mX5_holds 1 [.ref 0, .int (iI s)] (zst I J q) (some (.int (iI (holdsN I s)))) (zst I J q) := by
  refine zRuns_intro rfl (Nat.le_of_ble_eq_true rfl) (fun X C hR => ?_)
  show zZ g X 0 0 _ 0 [(0, .ref 0), (1, .int (iI s))] []
  refine z_iload_n C 1 rfl dX5_holds_0 rfl ?_
  refine y_callS1 C oX5_isShelf sX5_isShelf lkX5_55 (c_X5_isShelf (by first | assumption | omega)) (by decide) (Nat.le_refl _) (Nat.le_refl _) (Nat.le_of_ble_eq_true rfl) dX5_holds_1 ?_
  refine y_if_eqB C 19 dX5_holds_4 (by decide) (fun h4 => ?_) (fun h4 => ?_)
  · refine z_iconst C dX5_holds_19 ?_
    exact zZ_iret C hR (Nat.le_refl _) (Nat.le_refl _) dX5_holds_20 rfl (zIs_I (by unfold holdsN; rw [if_neg (by simpa using h4)]) rfl)
  · have hs8 : 0 ≤ s ∧ s < 8 := by simpa using h4
    have hls := hl s.toNat (by omega)
    refine z_aload_n C 0 rfl dX5_holds_7 rfl ?_
    refine y_getR C zCl5 4 flX5_32 rfl rfl rfl dX5_holds_8 ?_
    refine z_iload_n C 1 rfl dX5_holds_11 rfl ?_
    refine y_aald C s.toNat 10 (by decide) (by omega) rfl (by omega) (by decide) (rt_18 (by omega)) dX5_holds_12 ?_
    refine y_getI C zCl2 0 flX5_79 rfl (lay_l (isL_of (by omega))) dX5_holds_13 ?_
    refine z_goto C 20 dX5_holds_16 (by decide) ?_
    exact zZ_iret C hR (Nat.le_refl _) (Nat.le_refl _) dX5_holds_20 rfl (zIs_I (by unfold holdsN; rw [if_pos hs8]) rfl)
set_option maxHeartbeats 4000000 in
set_option maxRecDepth 100000 in
theorem c_X5_show {g : zG} {I : Nat → Nat → Int} {J : Nat → Nat → Int64} {q : Nat × Nat} {s e : Int} (hg : gH I 1) (hq : gS I 4) (hl : gL I) (hs : -2147483648 ≤ s ∧ s ≤ 2147483647) (he : -2147483648 ≤ e ∧ e ≤ 2147483647) : zRun g mX5_show 1 [.ref 0, .int (iI s), .int (iI e)] (zst I J q) (some (.int (iI (uR (fShow I s e) (1))))) (zst (uI I (fShow I s e) (zu I (19 + 2 * s.toNat) 0 (if e = -1 then -1 else 10 + e))) J q) := by
  obtain ⟨g1, g2, g3, g4, g5, g6⟩ := id hg
  obtain ⟨k1, k2, k3⟩ := id hq
  refine zRuns_intro rfl (Nat.le_of_ble_eq_true rfl) (fun X C hR => ?_)
  show zZ g X 0 0 _ 0 [(0, .ref 0), (1, .int (iI s)), (2, .int (iI e))] []
  refine z_iload_n C 1 rfl dX5_show_0 rfl ?_
  refine y_callS1 C oX5_isShelf sX5_isShelf lkX5_55 (c_X5_isShelf (by first | assumption | omega)) (by decide) (Nat.le_refl _) (Nat.le_refl _) (Nat.le_of_ble_eq_true rfl) dX5_show_1 ?_
  refine y_if_eqB C 23 dX5_show_4 (by decide) (fun h4 => ?_) (fun h4 => ?_)
  · refine z_aload_n C 0 rfl dX5_show_23 rfl ?_
    refine z_bipush C dX5_show_24 (by decide) ?_
    refine y_callV1 C oX5_refuse iX5_refuse eX5_refuse lkX5_59 (c_X5_refuse (by first | assumption | omega)) rfl (by decide) rfl rfl (by decide) (Nat.le_refl _) (Nat.le_refl _) (Nat.le_of_ble_eq_true rfl) dX5_show_26 ?_
    exact zZ_iret C hR (Nat.le_refl _) (Nat.le_refl _) dX5_show_29 rfl (zIs_I (uRc (show fShow I s e = -2 by (try simp only [decide_eq_true_eq, decide_eq_false_iff_not, bI] at *); unfold fShow; (repeat' split) <;> first | rfl | omega | (exfalso; simp_all; done) | (exfalso; simp_all; omega)) (by decide)).symm (by rw [uIc (show fShow I s e = -2 by (try simp only [decide_eq_true_eq, decide_eq_false_iff_not, bI] at *); unfold fShow; (repeat' split) <;> first | rfl | omega | (exfalso; simp_all; done) | (exfalso; simp_all; omega)) (by decide)]))
  · have hs8 : 0 ≤ s ∧ s < 8 := by simpa using h4
    have hls := hl s.toNat (by omega)
    refine z_iload_n C 2 rfl dX5_show_7 rfl ?_
    refine z_iconst C dX5_show_8 ?_
    refine z_icmp_eq C 30 dX5_show_9 (by decide) (by omega) (by omega) (fun h9 => ?_) (fun h9 => ?_)
    · refine z_aload_n C 0 rfl dX5_show_30 rfl ?_
      refine y_getR C zCl5 4 flX5_32 rfl rfl rfl dX5_show_31 ?_
      refine z_iload_n C 1 rfl dX5_show_34 rfl ?_
      refine y_aald C s.toNat 10 (by decide) (by omega) rfl (by omega) (by decide) (rt_18 (by omega)) dX5_show_35 ?_
      refine z_iload_n C 2 rfl dX5_show_36 rfl ?_
      refine z_iconst C dX5_show_37 ?_
      refine z_icmp_ne C 45 dX5_show_38 (by decide) (by omega) (by omega) (fun h38 => ?_) (fun h38 => ?_)
      · omega
      · refine z_iconst C dX5_show_41 ?_
        refine z_goto C 49 dX5_show_42 (by decide) ?_
        refine y_putI C zCl2 0 flX5_79 rfl rfl rfl (lay_l (isL_of (by omega))) dX5_show_49 ?_
        refine z_iconst C dX5_show_52 ?_
        exact zZ_iret C hR (Nat.le_refl _) (Nat.le_refl _) dX5_show_53 rfl (zIs_I ((rfl).trans (uR0 (show fShow I s e = 0 by (try simp only [decide_eq_true_eq, decide_eq_false_iff_not, bI] at *); unfold fShow; (repeat' split) <;> first | rfl | omega | (exfalso; simp_all; done) | (exfalso; simp_all; omega))).symm) (by rw [uI0 (show fShow I s e = 0 by (try simp only [decide_eq_true_eq, decide_eq_false_iff_not, bI] at *); unfold fShow; (repeat' split) <;> first | rfl | omega | (exfalso; simp_all; done) | (exfalso; simp_all; omega))]; (first | rw [if_pos h38] | rw [if_neg h38])))
    · refine z_aload_n C 0 rfl dX5_show_12 rfl ?_
      refine y_getR C zCl5 0 flX5_10 rfl rfl rfl dX5_show_13 ?_
      refine z_iload_n C 2 rfl dX5_show_16 rfl ?_
      refine y_callV1 C oX0_isEwe iX0_isEwe eX0_isEwe lkX5_103 (c_X0_isEwe isH_1 hg (by first | assumption | omega)) rfl (by decide) rfl rfl (by decide) (Nat.le_refl _) (Nat.le_refl _) (Nat.le_of_ble_eq_true rfl) dX5_show_17 ?_
      refine y_if_neB C 30 dX5_show_20 (by decide) (fun h20 => ?_) (fun h20 => ?_)
      · refine z_aload_n C 0 rfl dX5_show_30 rfl ?_
        refine y_getR C zCl5 4 flX5_32 rfl rfl rfl dX5_show_31 ?_
        refine z_iload_n C 1 rfl dX5_show_34 rfl ?_
        refine y_aald C s.toNat 10 (by decide) (by omega) rfl (by omega) (by decide) (rt_18 (by omega)) dX5_show_35 ?_
        refine z_iload_n C 2 rfl dX5_show_36 rfl ?_
        refine z_iconst C dX5_show_37 ?_
        refine z_icmp_ne C 45 dX5_show_38 (by decide) (by omega) (by omega) (fun h38 => ?_) (fun h38 => ?_)
        · refine z_bipush C dX5_show_45 (by decide) ?_
          refine z_iload_n C 2 rfl dX5_show_47 rfl ?_
          refine z_iadd C dX5_show_48 ?_
          refine y_putI C zCl2 0 flX5_79 rfl rfl rfl (lay_l (isL_of (by omega))) dX5_show_49 ?_
          refine z_iconst C dX5_show_52 ?_
          exact zZ_iret C hR (Nat.le_refl _) (Nat.le_refl _) dX5_show_53 rfl (zIs_I ((rfl).trans (uR0 (show fShow I s e = 0 by (try simp only [decide_eq_true_eq, decide_eq_false_iff_not, bI] at *); unfold fShow; (repeat' split) <;> first | rfl | omega | (exfalso; simp_all; done) | (exfalso; simp_all; omega))).symm) (by rw [uI0 (show fShow I s e = 0 by (try simp only [decide_eq_true_eq, decide_eq_false_iff_not, bI] at *); unfold fShow; (repeat' split) <;> first | rfl | omega | (exfalso; simp_all; done) | (exfalso; simp_all; omega))]; (first | rw [if_pos h38] | rw [if_neg h38])))
        · refine z_iconst C dX5_show_41 ?_
          refine z_goto C 49 dX5_show_42 (by decide) ?_
          refine y_putI C zCl2 0 flX5_79 rfl rfl rfl (lay_l (isL_of (by omega))) dX5_show_49 ?_
          refine z_iconst C dX5_show_52 ?_
          exact zZ_iret C hR (Nat.le_refl _) (Nat.le_refl _) dX5_show_53 rfl (zIs_I ((rfl).trans (uR0 (show fShow I s e = 0 by (try simp only [decide_eq_true_eq, decide_eq_false_iff_not, bI] at *); unfold fShow; (repeat' split) <;> first | rfl | omega | (exfalso; simp_all; done) | (exfalso; simp_all; omega))).symm) (by rw [uI0 (show fShow I s e = 0 by (try simp only [decide_eq_true_eq, decide_eq_false_iff_not, bI] at *); unfold fShow; (repeat' split) <;> first | rfl | omega | (exfalso; simp_all; done) | (exfalso; simp_all; omega))]; (first | rw [if_pos h38] | rw [if_neg h38])))
      · refine z_aload_n C 0 rfl dX5_show_23 rfl ?_
        refine z_bipush C dX5_show_24 (by decide) ?_
        refine y_callV1 C oX5_refuse iX5_refuse eX5_refuse lkX5_59 (c_X5_refuse (by first | assumption | omega)) rfl (by decide) rfl rfl (by decide) (Nat.le_refl _) (Nat.le_refl _) (Nat.le_of_ble_eq_true rfl) dX5_show_26 ?_
        exact zZ_iret C hR (Nat.le_refl _) (Nat.le_refl _) dX5_show_29 rfl (zIs_I (uRc (show fShow I s e = -2 by (try simp only [decide_eq_true_eq, decide_eq_false_iff_not, bI] at *); unfold fShow; (repeat' split) <;> first | rfl | omega | (exfalso; simp_all; done) | (exfalso; simp_all; omega)) (by decide)).symm (by rw [uIc (show fShow I s e = -2 by (try simp only [decide_eq_true_eq, decide_eq_false_iff_not, bI] at *); unfold fShow; (repeat' split) <;> first | rfl | omega | (exfalso; simp_all; done) | (exfalso; simp_all; omega)) (by decide)]))
set_option maxHeartbeats 4000000 in
set_option maxRecDepth 100000 in
theorem c_X5_side {g : zG} {I : Nat → Nat → Int} {J : Nat → Nat → Int64} {q : Nat × Nat} {n : Int} (hg : gH I 1) (hq : gS I 4) (hl : gL I) (hn : -2147483648 ≤ n ∧ n ≤ 2147483647) : zRun g mX5_side 1 [.ref 0, .int (iI n)] (zst I J q) (some (.int (iI (uR (fSide I n) (I 1 0))))) (zst (uI I (fSide I n) (zu I 1 0 n)) J q) := by
  obtain ⟨g1, g2, g3, g4, g5, g6⟩ := id hg
  obtain ⟨k1, k2, k3⟩ := id hq
  refine zRuns_intro rfl (Nat.le_of_ble_eq_true rfl) (fun X C hR => ?_)
  show zZ g X 0 0 _ 0 [(0, .ref 0), (1, .int (iI n))] []
  refine z_iload_n C 1 rfl dX5_side_0 rfl ?_
  refine z_iconst C dX5_side_1 ?_
  refine z_icmp_lt C 22 dX5_side_2 (by decide) (by omega) (by omega) (fun h2 => ?_) (fun h2 => ?_)
  · refine z_aload_n C 0 rfl dX5_side_22 rfl ?_
    refine z_bipush C dX5_side_23 (by decide) ?_
    refine y_callV1 C oX5_refuse iX5_refuse eX5_refuse lkX5_59 (c_X5_refuse (by first | assumption | omega)) rfl (by decide) rfl rfl (by decide) (Nat.le_refl _) (Nat.le_refl _) (Nat.le_of_ble_eq_true rfl) dX5_side_25 ?_
    exact zZ_iret C hR (Nat.le_refl _) (Nat.le_refl _) dX5_side_28 rfl (zIs_I (uRc (show fSide I n = -2 by (try simp only [decide_eq_true_eq, decide_eq_false_iff_not, bI] at *); unfold fSide; (repeat' split) <;> first | rfl | omega | (exfalso; simp_all; done) | (exfalso; simp_all; omega)) (by decide)).symm (by rw [uIc (show fSide I n = -2 by (try simp only [decide_eq_true_eq, decide_eq_false_iff_not, bI] at *); unfold fSide; (repeat' split) <;> first | rfl | omega | (exfalso; simp_all; done) | (exfalso; simp_all; omega)) (by decide)]))
  · refine z_iload_n C 1 rfl dX5_side_5 rfl ?_
    refine z_aload_n C 0 rfl dX5_side_6 rfl ?_
    refine y_getR C zCl5 0 flX5_10 rfl rfl rfl dX5_side_7 ?_
    refine y_getI C zCl0 0 flX5_125 rfl rfl dX5_side_10 ?_
    refine z_icmp_lt C 22 dX5_side_13 (by decide) (by omega) (by omega) (fun h13 => ?_) (fun h13 => ?_)
    · refine z_aload_n C 0 rfl dX5_side_22 rfl ?_
      refine z_bipush C dX5_side_23 (by decide) ?_
      refine y_callV1 C oX5_refuse iX5_refuse eX5_refuse lkX5_59 (c_X5_refuse (by first | assumption | omega)) rfl (by decide) rfl rfl (by decide) (Nat.le_refl _) (Nat.le_refl _) (Nat.le_of_ble_eq_true rfl) dX5_side_25 ?_
      exact zZ_iret C hR (Nat.le_refl _) (Nat.le_refl _) dX5_side_28 rfl (zIs_I (uRc (show fSide I n = -2 by (try simp only [decide_eq_true_eq, decide_eq_false_iff_not, bI] at *); unfold fSide; (repeat' split) <;> first | rfl | omega | (exfalso; simp_all; done) | (exfalso; simp_all; omega)) (by decide)).symm (by rw [uIc (show fSide I n = -2 by (try simp only [decide_eq_true_eq, decide_eq_false_iff_not, bI] at *); unfold fSide; (repeat' split) <;> first | rfl | omega | (exfalso; simp_all; done) | (exfalso; simp_all; omega)) (by decide)]))
    · refine z_iload_n C 1 rfl dX5_side_16 rfl ?_
      refine z_bipush C dX5_side_17 (by decide) ?_
      refine z_icmp_le C 29 dX5_side_19 (by decide) (by omega) (by omega) (fun h19 => ?_) (fun h19 => ?_)
      · refine z_aload_n C 0 rfl dX5_side_29 rfl ?_
        refine y_getR C zCl5 0 flX5_10 rfl rfl rfl dX5_side_30 ?_
        refine y_getI C zCl0 0 flX5_125 rfl rfl dX5_side_33 ?_
        refine z_topI C (fun w ew => ?_)
        refine z_istore_n C [(2, .int (iI w)), (0, .ref 0), (1, .int (iI n))] dX5_side_36 rfl (by decide) rfl ?_
        refine z_aload_n C 1 rfl dX5_side_37 rfl ?_
        refine y_getR C zCl5 0 flX5_10 rfl rfl rfl dX5_side_38 ?_
        refine z_iload_n C 2 rfl dX5_side_41 rfl ?_
        refine y_putI C zCl0 0 flX5_125 rfl rfl rfl rfl dX5_side_42 ?_
        refine z_iload_n C 0 rfl dX5_side_45 rfl ?_
        exact zZ_iret C hR (Nat.le_refl _) (Nat.le_refl _) dX5_side_46 rfl (zIs_I ((ew).trans (uR0 (show fSide I n = 0 by (try simp only [decide_eq_true_eq, decide_eq_false_iff_not, bI] at *); unfold fSide; (repeat' split) <;> first | rfl | omega | (exfalso; simp_all; done) | (exfalso; simp_all; omega))).symm) (by rw [uI0 (show fSide I n = 0 by (try simp only [decide_eq_true_eq, decide_eq_false_iff_not, bI] at *); unfold fSide; (repeat' split) <;> first | rfl | omega | (exfalso; simp_all; done) | (exfalso; simp_all; omega))]))
      · refine z_aload_n C 0 rfl dX5_side_22 rfl ?_
        refine z_bipush C dX5_side_23 (by decide) ?_
        refine y_callV1 C oX5_refuse iX5_refuse eX5_refuse lkX5_59 (c_X5_refuse (by first | assumption | omega)) rfl (by decide) rfl rfl (by decide) (Nat.le_refl _) (Nat.le_refl _) (Nat.le_of_ble_eq_true rfl) dX5_side_25 ?_
        exact zZ_iret C hR (Nat.le_refl _) (Nat.le_refl _) dX5_side_28 rfl (zIs_I (uRc (show fSide I n = -2 by (try simp only [decide_eq_true_eq, decide_eq_false_iff_not, bI] at *); unfold fSide; (repeat' split) <;> first | rfl | omega | (exfalso; simp_all; done) | (exfalso; simp_all; omega)) (by decide)).symm (by rw [uIc (show fSide I n = -2 by (try simp only [decide_eq_true_eq, decide_eq_false_iff_not, bI] at *); unfold fSide; (repeat' split) <;> first | rfl | omega | (exfalso; simp_all; done) | (exfalso; simp_all; omega)) (by decide)]))
set_option maxHeartbeats 4000000 in
set_option maxRecDepth 100000 in
theorem c_X5_wall {g : zG} {I : Nat → Nat → Int} {J : Nat → Nat → Int64} {q : Nat × Nat} {c : Int} {b : Bool} (hg : gH I 1) (hq : gS I 4) (hl : gL I) (hc : -2147483648 ≤ c ∧ c ≤ 2147483647) : zRun g mX5_wall 3 [.ref 0, .int (iI c), .int (iI (bI b))] (zst I J q) (some (.int (iI (uR (fWall I c b) (bI (wallL (J 1 5) c)))))) (zst (uI I (fWall I c b) (I)) (uJ J (fWall I c b) (zu J 1 5 (if b then J 1 5 ||| bitL c else J 1 5 &&& (bitL c ^^^ (-1))))) q) := by
  obtain ⟨g1, g2, g3, g4, g5, g6⟩ := id hg
  obtain ⟨k1, k2, k3⟩ := id hq
  refine zRuns_intro rfl (Nat.le_of_ble_eq_true rfl) (fun X C hR => ?_)
  show zZ g X 0 0 _ 0 [(0, .ref 0), (1, .int (iI c)), (2, .int (iI (bI b)))] []
  refine z_aload_n C 0 rfl dX5_wall_0 rfl ?_
  refine y_getR C zCl5 0 flX5_10 rfl rfl rfl dX5_wall_1 ?_
  refine z_iload_n C 1 rfl dX5_wall_4 rfl ?_
  refine y_callV1 C oX0_isCell iX0_isCell eX0_isCell lkX5_128 (c_X0_isCell isH_1 hg (by first | assumption | omega)) rfl (by decide) rfl rfl (by decide) (Nat.le_refl _) (Nat.le_refl _) (Nat.le_of_ble_eq_true rfl) dX5_wall_5 ?_
  refine y_if_neB C 18 dX5_wall_8 (by decide) (fun h8 => ?_) (fun h8 => ?_)
  · have hcr := isCellN_r g1.2 h8
    refine z_iload_n C 2 rfl dX5_wall_18 rfl ?_
    refine y_if_eqB C 40 dX5_wall_19 (by decide) (fun h19 => ?_) (fun h19 => ?_)
    · refine z_aload_n C 0 rfl dX5_wall_40 rfl ?_
      refine y_getR C zCl5 0 flX5_10 rfl rfl rfl dX5_wall_41 ?_
      refine z_iload_n C 1 rfl dX5_wall_44 rfl ?_
      refine y_callV1 C oX0_isWall iX0_isWall eX0_isWall lkX5_134 (c_X0_isWall isH_1 (by first | assumption | omega)) rfl (by decide) rfl rfl (by decide) (Nat.le_refl _) (Nat.le_refl _) (Nat.le_of_ble_eq_true rfl) dX5_wall_45 ?_
      refine y_if_eqB C 55 dX5_wall_48 (by decide) (fun h48 => ?_) (fun h48 => ?_)
      · refine z_iconst C dX5_wall_55 ?_
        refine z_istore_n C [(3, .int (iI 0)), (0, .ref 0), (1, .int (iI c)), (2, .int (iI (bI b)))] dX5_wall_56 rfl (by decide) rfl ?_
        refine z_aload_n C 1 rfl dX5_wall_57 rfl ?_
        refine y_getR C zCl5 0 flX5_10 rfl rfl rfl dX5_wall_58 ?_
        refine z_iload_n C 2 rfl dX5_wall_61 rfl ?_
        refine z_iload_n C 3 rfl dX5_wall_62 rfl ?_
        refine y_callV2 C oX0_setWall iX0_setWall eX0_setWall lkX5_137 (c_X0_setWall isH_1 (by first | assumption | omega)) rfl (by decide) rfl rfl (by decide) (Nat.le_refl _) (Nat.le_refl _) (Nat.le_of_ble_eq_true rfl) dX5_wall_63 ?_
        refine z_iload_n C 0 rfl dX5_wall_66 rfl ?_
        exact zZ_iret C hR (Nat.le_refl _) (Nat.le_refl _) dX5_wall_67 rfl (zIs_I (by rw [uR0 (show fWall I c b = 0 by (try simp only [decide_eq_true_eq, decide_eq_false_iff_not, bI] at *); unfold fWall; (repeat' split) <;> first | rfl | omega | (exfalso; simp_all; done) | (exfalso; simp_all; omega))]; rw [h48]; rfl) (by rw [uI0 (show fWall I c b = 0 by (try simp only [decide_eq_true_eq, decide_eq_false_iff_not, bI] at *); unfold fWall; (repeat' split) <;> first | rfl | omega | (exfalso; simp_all; done) | (exfalso; simp_all; omega)), uJ0 (show fWall I c b = 0 by (try simp only [decide_eq_true_eq, decide_eq_false_iff_not, bI] at *); unfold fWall; (repeat' split) <;> first | rfl | omega | (exfalso; simp_all; done) | (exfalso; simp_all; omega))]))
      · refine z_iconst C dX5_wall_51 ?_
        refine z_goto C 56 dX5_wall_52 (by decide) ?_
        refine z_istore_n C [(3, .int (iI 1)), (0, .ref 0), (1, .int (iI c)), (2, .int (iI (bI b)))] dX5_wall_56 rfl (by decide) rfl ?_
        refine z_aload_n C 1 rfl dX5_wall_57 rfl ?_
        refine y_getR C zCl5 0 flX5_10 rfl rfl rfl dX5_wall_58 ?_
        refine z_iload_n C 2 rfl dX5_wall_61 rfl ?_
        refine z_iload_n C 3 rfl dX5_wall_62 rfl ?_
        refine y_callV2 C oX0_setWall iX0_setWall eX0_setWall lkX5_137 (c_X0_setWall isH_1 (by first | assumption | omega)) rfl (by decide) rfl rfl (by decide) (Nat.le_refl _) (Nat.le_refl _) (Nat.le_of_ble_eq_true rfl) dX5_wall_63 ?_
        refine z_iload_n C 0 rfl dX5_wall_66 rfl ?_
        exact zZ_iret C hR (Nat.le_refl _) (Nat.le_refl _) dX5_wall_67 rfl (zIs_I (by rw [uR0 (show fWall I c b = 0 by (try simp only [decide_eq_true_eq, decide_eq_false_iff_not, bI] at *); unfold fWall; (repeat' split) <;> first | rfl | omega | (exfalso; simp_all; done) | (exfalso; simp_all; omega))]; rw [h48]; rfl) (by rw [uI0 (show fWall I c b = 0 by (try simp only [decide_eq_true_eq, decide_eq_false_iff_not, bI] at *); unfold fWall; (repeat' split) <;> first | rfl | omega | (exfalso; simp_all; done) | (exfalso; simp_all; omega)), uJ0 (show fWall I c b = 0 by (try simp only [decide_eq_true_eq, decide_eq_false_iff_not, bI] at *); unfold fWall; (repeat' split) <;> first | rfl | omega | (exfalso; simp_all; done) | (exfalso; simp_all; omega))]))
    · refine z_aload_n C 0 rfl dX5_wall_22 rfl ?_
      refine y_getR C zCl5 0 flX5_10 rfl rfl rfl dX5_wall_23 ?_
      refine z_iload_n C 1 rfl dX5_wall_26 rfl ?_
      refine y_callV1 C oX0_mayBeWall iX0_mayBeWall eX0_mayBeWall lkX5_131 (c_X0_mayBeWall isH_1 hg hq (by first | assumption | omega)) rfl (by decide) rfl rfl (by decide) (Nat.le_refl _) (Nat.le_refl _) (Nat.le_of_ble_eq_true rfl) dX5_wall_27 ?_
      refine y_if_neB C 40 dX5_wall_30 (by decide) (fun h30 => ?_) (fun h30 => ?_)
      · refine z_aload_n C 0 rfl dX5_wall_40 rfl ?_
        refine y_getR C zCl5 0 flX5_10 rfl rfl rfl dX5_wall_41 ?_
        refine z_iload_n C 1 rfl dX5_wall_44 rfl ?_
        refine y_callV1 C oX0_isWall iX0_isWall eX0_isWall lkX5_134 (c_X0_isWall isH_1 (by first | assumption | omega)) rfl (by decide) rfl rfl (by decide) (Nat.le_refl _) (Nat.le_refl _) (Nat.le_of_ble_eq_true rfl) dX5_wall_45 ?_
        refine y_if_eqB C 55 dX5_wall_48 (by decide) (fun h48 => ?_) (fun h48 => ?_)
        · refine z_iconst C dX5_wall_55 ?_
          refine z_istore_n C [(3, .int (iI 0)), (0, .ref 0), (1, .int (iI c)), (2, .int (iI (bI b)))] dX5_wall_56 rfl (by decide) rfl ?_
          refine z_aload_n C 1 rfl dX5_wall_57 rfl ?_
          refine y_getR C zCl5 0 flX5_10 rfl rfl rfl dX5_wall_58 ?_
          refine z_iload_n C 2 rfl dX5_wall_61 rfl ?_
          refine z_iload_n C 3 rfl dX5_wall_62 rfl ?_
          refine y_callV2 C oX0_setWall iX0_setWall eX0_setWall lkX5_137 (c_X0_setWall isH_1 (by first | assumption | omega)) rfl (by decide) rfl rfl (by decide) (Nat.le_refl _) (Nat.le_refl _) (Nat.le_of_ble_eq_true rfl) dX5_wall_63 ?_
          refine z_iload_n C 0 rfl dX5_wall_66 rfl ?_
          exact zZ_iret C hR (Nat.le_refl _) (Nat.le_refl _) dX5_wall_67 rfl (zIs_I (by rw [uR0 (show fWall I c b = 0 by (try simp only [decide_eq_true_eq, decide_eq_false_iff_not, bI] at *); unfold fWall; (repeat' split) <;> first | rfl | omega | (exfalso; simp_all; done) | (exfalso; simp_all; omega))]; rw [h48]; rfl) (by rw [uI0 (show fWall I c b = 0 by (try simp only [decide_eq_true_eq, decide_eq_false_iff_not, bI] at *); unfold fWall; (repeat' split) <;> first | rfl | omega | (exfalso; simp_all; done) | (exfalso; simp_all; omega)), uJ0 (show fWall I c b = 0 by (try simp only [decide_eq_true_eq, decide_eq_false_iff_not, bI] at *); unfold fWall; (repeat' split) <;> first | rfl | omega | (exfalso; simp_all; done) | (exfalso; simp_all; omega))]))
        · refine z_iconst C dX5_wall_51 ?_
          refine z_goto C 56 dX5_wall_52 (by decide) ?_
          refine z_istore_n C [(3, .int (iI 1)), (0, .ref 0), (1, .int (iI c)), (2, .int (iI (bI b)))] dX5_wall_56 rfl (by decide) rfl ?_
          refine z_aload_n C 1 rfl dX5_wall_57 rfl ?_
          refine y_getR C zCl5 0 flX5_10 rfl rfl rfl dX5_wall_58 ?_
          refine z_iload_n C 2 rfl dX5_wall_61 rfl ?_
          refine z_iload_n C 3 rfl dX5_wall_62 rfl ?_
          refine y_callV2 C oX0_setWall iX0_setWall eX0_setWall lkX5_137 (c_X0_setWall isH_1 (by first | assumption | omega)) rfl (by decide) rfl rfl (by decide) (Nat.le_refl _) (Nat.le_refl _) (Nat.le_of_ble_eq_true rfl) dX5_wall_63 ?_
          refine z_iload_n C 0 rfl dX5_wall_66 rfl ?_
          exact zZ_iret C hR (Nat.le_refl _) (Nat.le_refl _) dX5_wall_67 rfl (zIs_I (by rw [uR0 (show fWall I c b = 0 by (try simp only [decide_eq_true_eq, decide_eq_false_iff_not, bI] at *); unfold fWall; (repeat' split) <;> first | rfl | omega | (exfalso; simp_all; done) | (exfalso; simp_all; omega))]; rw [h48]; rfl) (by rw [uI0 (show fWall I c b = 0 by (try simp only [decide_eq_true_eq, decide_eq_false_iff_not, bI] at *); unfold fWall; (repeat' split) <;> first | rfl | omega | (exfalso; simp_all; done) | (exfalso; simp_all; omega)), uJ0 (show fWall I c b = 0 by (try simp only [decide_eq_true_eq, decide_eq_false_iff_not, bI] at *); unfold fWall; (repeat' split) <;> first | rfl | omega | (exfalso; simp_all; done) | (exfalso; simp_all; omega))]))
      · refine z_aload_n C 0 rfl dX5_wall_33 rfl ?_
        refine z_bipush C dX5_wall_34 (by decide) ?_
        refine y_callV1 C oX5_refuse iX5_refuse eX5_refuse lkX5_59 (c_X5_refuse (by first | assumption | omega)) rfl (by decide) rfl rfl (by decide) (Nat.le_refl _) (Nat.le_refl _) (Nat.le_of_ble_eq_true rfl) dX5_wall_36 ?_
        exact zZ_iret C hR (Nat.le_refl _) (Nat.le_refl _) dX5_wall_39 rfl (zIs_I (uRc (show fWall I c b = -5 by (try simp only [decide_eq_true_eq, decide_eq_false_iff_not, bI] at *); unfold fWall; (repeat' split) <;> first | rfl | omega | (exfalso; simp_all; done) | (exfalso; simp_all; omega)) (by decide)).symm (by rw [uIc (show fWall I c b = -5 by (try simp only [decide_eq_true_eq, decide_eq_false_iff_not, bI] at *); unfold fWall; (repeat' split) <;> first | rfl | omega | (exfalso; simp_all; done) | (exfalso; simp_all; omega)) (by decide), uJc (show fWall I c b = -5 by (try simp only [decide_eq_true_eq, decide_eq_false_iff_not, bI] at *); unfold fWall; (repeat' split) <;> first | rfl | omega | (exfalso; simp_all; done) | (exfalso; simp_all; omega)) (by decide)]))
  · refine z_aload_n C 0 rfl dX5_wall_11 rfl ?_
    refine z_bipush C dX5_wall_12 (by decide) ?_
    refine y_callV1 C oX5_refuse iX5_refuse eX5_refuse lkX5_59 (c_X5_refuse (by first | assumption | omega)) rfl (by decide) rfl rfl (by decide) (Nat.le_refl _) (Nat.le_refl _) (Nat.le_of_ble_eq_true rfl) dX5_wall_14 ?_
    exact zZ_iret C hR (Nat.le_refl _) (Nat.le_refl _) dX5_wall_17 rfl (zIs_I (uRc (show fWall I c b = -2 by (try simp only [decide_eq_true_eq, decide_eq_false_iff_not, bI] at *); unfold fWall; (repeat' split) <;> first | rfl | omega | (exfalso; simp_all; done) | (exfalso; simp_all; omega)) (by decide)).symm (by rw [uIc (show fWall I c b = -2 by (try simp only [decide_eq_true_eq, decide_eq_false_iff_not, bI] at *); unfold fWall; (repeat' split) <;> first | rfl | omega | (exfalso; simp_all; done) | (exfalso; simp_all; omega)) (by decide), uJc (show fWall I c b = -2 by (try simp only [decide_eq_true_eq, decide_eq_false_iff_not, bI] at *); unfold fWall; (repeat' split) <;> first | rfl | omega | (exfalso; simp_all; done) | (exfalso; simp_all; omega)) (by decide)]))
set_option maxHeartbeats 4000000 in
set_option maxRecDepth 100000 in
theorem c_X5_pen {g : zG} {I : Nat → Nat → Int} {J : Nat → Nat → Int64} {q : Nat × Nat} {c : Int} (hg : gH I 1) (hq : gS I 4) (hl : gL I) (hc : -2147483648 ≤ c ∧ c ≤ 2147483647) : zRun g mX5_pen 3 [.ref 0, .int (iI c)] (zst I J q) (some (.int (iI (uR (fPen I J c) (I 1 1))))) (zst (uI I (fPen I J c) (zu I 1 1 c)) J q) := by
  obtain ⟨g1, g2, g3, g4, g5, g6⟩ := id hg
  obtain ⟨k1, k2, k3⟩ := id hq
  refine zRuns_intro rfl (Nat.le_of_ble_eq_true rfl) (fun X C hR => ?_)
  show zZ g X 0 0 _ 0 [(0, .ref 0), (1, .int (iI c))] []
  refine z_aload_n C 0 rfl dX5_pen_0 rfl ?_
  refine y_getR C zCl5 0 flX5_10 rfl rfl rfl dX5_pen_1 ?_
  refine z_iload_n C 1 rfl dX5_pen_4 rfl ?_
  refine y_callV1 C oX0_isCell iX0_isCell eX0_isCell lkX5_128 (c_X0_isCell isH_1 hg (by first | assumption | omega)) rfl (by decide) rfl rfl (by decide) (Nat.le_refl _) (Nat.le_refl _) (Nat.le_of_ble_eq_true rfl) dX5_pen_5 ?_
  refine y_if_neB C 18 dX5_pen_8 (by decide) (fun h8 => ?_) (fun h8 => ?_)
  · have hcr := isCellN_r g1.2 h8
    refine z_aload_n C 0 rfl dX5_pen_18 rfl ?_
    refine y_getR C zCl5 0 flX5_10 rfl rfl rfl dX5_pen_19 ?_
    refine z_iload_n C 1 rfl dX5_pen_22 rfl ?_
    refine y_callV1 C oX0_mayBePen iX0_mayBePen eX0_mayBePen lkX5_141 (c_X0_mayBePen isH_1 hg hq (by first | assumption | omega)) rfl (by decide) rfl rfl (by decide) (Nat.le_refl _) (Nat.le_refl _) (Nat.le_of_ble_eq_true rfl) dX5_pen_23 ?_
    refine y_if_neB C 36 dX5_pen_26 (by decide) (fun h26 => ?_) (fun h26 => ?_)
    · refine z_aload_n C 0 rfl dX5_pen_36 rfl ?_
      refine y_getR C zCl5 0 flX5_10 rfl rfl rfl dX5_pen_37 ?_
      refine y_getI C zCl0 1 flX5_144 rfl rfl dX5_pen_40 ?_
      refine z_topI C (fun w ew => ?_)
      refine z_istore_n C [(2, .int (iI w)), (0, .ref 0), (1, .int (iI c))] dX5_pen_43 rfl (by decide) rfl ?_
      refine z_aload_n C 1 rfl dX5_pen_44 rfl ?_
      refine y_getR C zCl5 0 flX5_10 rfl rfl rfl dX5_pen_45 ?_
      refine z_iload_n C 2 rfl dX5_pen_48 rfl ?_
      refine y_putI C zCl0 1 flX5_144 rfl rfl rfl rfl dX5_pen_49 ?_
      refine z_iload_n C 0 rfl dX5_pen_52 rfl ?_
      exact zZ_iret C hR (Nat.le_refl _) (Nat.le_refl _) dX5_pen_53 rfl (zIs_I ((ew).trans (uR0 (show fPen I J c = 0 by (try simp only [decide_eq_true_eq, decide_eq_false_iff_not, bI] at *); unfold fPen; (repeat' split) <;> first | rfl | omega | (exfalso; simp_all; done) | (exfalso; simp_all; omega))).symm) (by rw [uI0 (show fPen I J c = 0 by (try simp only [decide_eq_true_eq, decide_eq_false_iff_not, bI] at *); unfold fPen; (repeat' split) <;> first | rfl | omega | (exfalso; simp_all; done) | (exfalso; simp_all; omega))]))
    · refine z_aload_n C 0 rfl dX5_pen_29 rfl ?_
      refine z_bipush C dX5_pen_30 (by decide) ?_
      refine y_callV1 C oX5_refuse iX5_refuse eX5_refuse lkX5_59 (c_X5_refuse (by first | assumption | omega)) rfl (by decide) rfl rfl (by decide) (Nat.le_refl _) (Nat.le_refl _) (Nat.le_of_ble_eq_true rfl) dX5_pen_32 ?_
      exact zZ_iret C hR (Nat.le_refl _) (Nat.le_refl _) dX5_pen_35 rfl (zIs_I (uRc (show fPen I J c = -5 by (try simp only [decide_eq_true_eq, decide_eq_false_iff_not, bI] at *); unfold fPen; (repeat' split) <;> first | rfl | omega | (exfalso; simp_all; done) | (exfalso; simp_all; omega)) (by decide)).symm (by rw [uIc (show fPen I J c = -5 by (try simp only [decide_eq_true_eq, decide_eq_false_iff_not, bI] at *); unfold fPen; (repeat' split) <;> first | rfl | omega | (exfalso; simp_all; done) | (exfalso; simp_all; omega)) (by decide)]))
  · refine z_aload_n C 0 rfl dX5_pen_11 rfl ?_
    refine z_bipush C dX5_pen_12 (by decide) ?_
    refine y_callV1 C oX5_refuse iX5_refuse eX5_refuse lkX5_59 (c_X5_refuse (by first | assumption | omega)) rfl (by decide) rfl rfl (by decide) (Nat.le_refl _) (Nat.le_refl _) (Nat.le_of_ble_eq_true rfl) dX5_pen_14 ?_
    exact zZ_iret C hR (Nat.le_refl _) (Nat.le_refl _) dX5_pen_17 rfl (zIs_I (uRc (show fPen I J c = -2 by (try simp only [decide_eq_true_eq, decide_eq_false_iff_not, bI] at *); unfold fPen; (repeat' split) <;> first | rfl | omega | (exfalso; simp_all; done) | (exfalso; simp_all; omega)) (by decide)).symm (by rw [uIc (show fPen I J c = -2 by (try simp only [decide_eq_true_eq, decide_eq_false_iff_not, bI] at *); unfold fPen; (repeat' split) <;> first | rfl | omega | (exfalso; simp_all; done) | (exfalso; simp_all; omega)) (by decide)]))
set_option maxHeartbeats 4000000 in
set_option maxRecDepth 100000 in
theorem c_X5_dog {g : zG} {I : Nat → Nat → Int} {J : Nat → Nat → Int64} {q : Nat × Nat} {c : Int} (hg : gH I 1) (hq : gS I 4) (hl : gL I) (hc : -2147483648 ≤ c ∧ c ≤ 2147483647) : zRun g mX5_dog 3 [.ref 0, .int (iI c)] (zst I J q) (some (.int (iI (uR (fDog I J c) (I 4 0))))) (zst (uI I (fDog I J c) (zu I 4 0 c)) J q) := by
  obtain ⟨g1, g2, g3, g4, g5, g6⟩ := id hg
  obtain ⟨k1, k2, k3⟩ := id hq
  refine zRuns_intro rfl (Nat.le_of_ble_eq_true rfl) (fun X C hR => ?_)
  show zZ g X 0 0 _ 0 [(0, .ref 0), (1, .int (iI c))] []
  refine z_aload_n C 0 rfl dX5_dog_0 rfl ?_
  refine y_getR C zCl5 0 flX5_10 rfl rfl rfl dX5_dog_1 ?_
  refine z_iload_n C 1 rfl dX5_dog_4 rfl ?_
  refine y_callV1 C oX0_isCell iX0_isCell eX0_isCell lkX5_128 (c_X0_isCell isH_1 hg (by first | assumption | omega)) rfl (by decide) rfl rfl (by decide) (Nat.le_refl _) (Nat.le_refl _) (Nat.le_of_ble_eq_true rfl) dX5_dog_5 ?_
  refine y_if_neB C 18 dX5_dog_8 (by decide) (fun h8 => ?_) (fun h8 => ?_)
  · have hcr := isCellN_r g1.2 h8
    refine z_aload_n C 0 rfl dX5_dog_18 rfl ?_
    refine y_getR C zCl5 0 flX5_10 rfl rfl rfl dX5_dog_19 ?_
    refine z_iload_n C 1 rfl dX5_dog_22 rfl ?_
    refine y_callV1 C oX0_mayBeDogs iX0_mayBeDogs eX0_mayBeDogs lkX5_147 (c_X0_mayBeDogs isH_1 hg (by first | assumption | omega)) rfl (by decide) rfl rfl (by decide) (Nat.le_refl _) (Nat.le_refl _) (Nat.le_of_ble_eq_true rfl) dX5_dog_23 ?_
    refine y_if_neB C 36 dX5_dog_26 (by decide) (fun h26 => ?_) (fun h26 => ?_)
    · refine z_aload_n C 0 rfl dX5_dog_36 rfl ?_
      refine y_getR C zCl5 0 flX5_10 rfl rfl rfl dX5_dog_37 ?_
      refine y_getR C zCl0 9 flX5_118 rfl rfl rfl dX5_dog_40 ?_
      refine y_getI C zCl3 0 flX5_150 rfl rfl dX5_dog_43 ?_
      refine z_topI C (fun w ew => ?_)
      refine z_istore_n C [(2, .int (iI w)), (0, .ref 0), (1, .int (iI c))] dX5_dog_46 rfl (by decide) rfl ?_
      refine z_aload_n C 1 rfl dX5_dog_47 rfl ?_
      refine y_getR C zCl5 0 flX5_10 rfl rfl rfl dX5_dog_48 ?_
      refine y_getR C zCl0 9 flX5_118 rfl rfl rfl dX5_dog_51 ?_
      refine z_iload_n C 2 rfl dX5_dog_54 rfl ?_
      refine y_putI C zCl3 0 flX5_150 rfl rfl rfl rfl dX5_dog_55 ?_
      refine z_iload_n C 0 rfl dX5_dog_58 rfl ?_
      exact zZ_iret C hR (Nat.le_refl _) (Nat.le_refl _) dX5_dog_59 rfl (zIs_I ((ew).trans (uR0 (show fDog I J c = 0 by (try simp only [decide_eq_true_eq, decide_eq_false_iff_not, bI] at *); unfold fDog; (repeat' split) <;> first | rfl | omega | (exfalso; simp_all; done) | (exfalso; simp_all; omega))).symm) (by rw [uI0 (show fDog I J c = 0 by (try simp only [decide_eq_true_eq, decide_eq_false_iff_not, bI] at *); unfold fDog; (repeat' split) <;> first | rfl | omega | (exfalso; simp_all; done) | (exfalso; simp_all; omega))]))
    · refine z_aload_n C 0 rfl dX5_dog_29 rfl ?_
      refine z_bipush C dX5_dog_30 (by decide) ?_
      refine y_callV1 C oX5_refuse iX5_refuse eX5_refuse lkX5_59 (c_X5_refuse (by first | assumption | omega)) rfl (by decide) rfl rfl (by decide) (Nat.le_refl _) (Nat.le_refl _) (Nat.le_of_ble_eq_true rfl) dX5_dog_32 ?_
      exact zZ_iret C hR (Nat.le_refl _) (Nat.le_refl _) dX5_dog_35 rfl (zIs_I (uRc (show fDog I J c = -5 by (try simp only [decide_eq_true_eq, decide_eq_false_iff_not, bI] at *); unfold fDog; (repeat' split) <;> first | rfl | omega | (exfalso; simp_all; done) | (exfalso; simp_all; omega)) (by decide)).symm (by rw [uIc (show fDog I J c = -5 by (try simp only [decide_eq_true_eq, decide_eq_false_iff_not, bI] at *); unfold fDog; (repeat' split) <;> first | rfl | omega | (exfalso; simp_all; done) | (exfalso; simp_all; omega)) (by decide)]))
  · refine z_aload_n C 0 rfl dX5_dog_11 rfl ?_
    refine z_bipush C dX5_dog_12 (by decide) ?_
    refine y_callV1 C oX5_refuse iX5_refuse eX5_refuse lkX5_59 (c_X5_refuse (by first | assumption | omega)) rfl (by decide) rfl rfl (by decide) (Nat.le_refl _) (Nat.le_refl _) (Nat.le_of_ble_eq_true rfl) dX5_dog_14 ?_
    exact zZ_iret C hR (Nat.le_refl _) (Nat.le_refl _) dX5_dog_17 rfl (zIs_I (uRc (show fDog I J c = -2 by (try simp only [decide_eq_true_eq, decide_eq_false_iff_not, bI] at *); unfold fDog; (repeat' split) <;> first | rfl | omega | (exfalso; simp_all; done) | (exfalso; simp_all; omega)) (by decide)).symm (by rw [uIc (show fDog I J c = -2 by (try simp only [decide_eq_true_eq, decide_eq_false_iff_not, bI] at *); unfold fDog; (repeat' split) <;> first | rfl | omega | (exfalso; simp_all; done) | (exfalso; simp_all; omega)) (by decide)]))
set_option maxHeartbeats 4000000 in
set_option maxRecDepth 100000 in
theorem c_X5_wind {g : zG} {I : Nat → Nat → Int} {J : Nat → Nat → Int64} {q : Nat × Nat} {v : Int} (hg : gH I 1) (hq : gS I 4) (hl : gL I) (hv : -2147483648 ≤ v ∧ v ≤ 2147483647) : zRun g mX5_wind 1 [.ref 0, .int (iI v)] (zst I J q) (some (.int (iI (uR (fWind v) (I 1 2))))) (zst (uI I (fWind v) (zu I 1 2 v)) J q) := by
  refine zRuns_intro rfl (Nat.le_of_ble_eq_true rfl) (fun X C hR => ?_)
  show zZ g X 0 0 _ 0 [(0, .ref 0), (1, .int (iI v))] []
  refine z_iload_n C 1 rfl dX5_wind_0 rfl ?_
  refine z_if_lt C 10 dX5_wind_1 (by decide) (by omega) (fun h1 => ?_) (fun h1 => ?_)
  · refine z_aload_n C 0 rfl dX5_wind_10 rfl ?_
    refine z_bipush C dX5_wind_11 (by decide) ?_
    refine y_callV1 C oX5_refuse iX5_refuse eX5_refuse lkX5_59 (c_X5_refuse (by first | assumption | omega)) rfl (by decide) rfl rfl (by decide) (Nat.le_refl _) (Nat.le_refl _) (Nat.le_of_ble_eq_true rfl) dX5_wind_13 ?_
    exact zZ_iret C hR (Nat.le_refl _) (Nat.le_refl _) dX5_wind_16 rfl (zIs_I (uRc (show fWind v = -2 by (try simp only [decide_eq_true_eq, decide_eq_false_iff_not, bI] at *); unfold fWind; (repeat' split) <;> first | rfl | omega | (exfalso; simp_all; done) | (exfalso; simp_all; omega)) (by decide)).symm (by rw [uIc (show fWind v = -2 by (try simp only [decide_eq_true_eq, decide_eq_false_iff_not, bI] at *); unfold fWind; (repeat' split) <;> first | rfl | omega | (exfalso; simp_all; done) | (exfalso; simp_all; omega)) (by decide)]))
  · refine z_iload_n C 1 rfl dX5_wind_4 rfl ?_
    refine z_bipush C dX5_wind_5 (by decide) ?_
    refine z_icmp_le C 17 dX5_wind_7 (by decide) (by omega) (by omega) (fun h7 => ?_) (fun h7 => ?_)
    · refine z_aload_n C 0 rfl dX5_wind_17 rfl ?_
      refine y_getR C zCl5 0 flX5_10 rfl rfl rfl dX5_wind_18 ?_
      refine y_getI C zCl0 2 flX5_165 rfl rfl dX5_wind_21 ?_
      refine z_topI C (fun w ew => ?_)
      refine z_istore_n C [(2, .int (iI w)), (0, .ref 0), (1, .int (iI v))] dX5_wind_24 rfl (by decide) rfl ?_
      refine z_aload_n C 1 rfl dX5_wind_25 rfl ?_
      refine y_getR C zCl5 0 flX5_10 rfl rfl rfl dX5_wind_26 ?_
      refine z_iload_n C 2 rfl dX5_wind_29 rfl ?_
      refine y_putI C zCl0 2 flX5_165 rfl rfl rfl rfl dX5_wind_30 ?_
      refine z_iload_n C 0 rfl dX5_wind_33 rfl ?_
      exact zZ_iret C hR (Nat.le_refl _) (Nat.le_refl _) dX5_wind_34 rfl (zIs_I ((ew).trans (uR0 (show fWind v = 0 by (try simp only [decide_eq_true_eq, decide_eq_false_iff_not, bI] at *); unfold fWind; (repeat' split) <;> first | rfl | omega | (exfalso; simp_all; done) | (exfalso; simp_all; omega))).symm) (by rw [uI0 (show fWind v = 0 by (try simp only [decide_eq_true_eq, decide_eq_false_iff_not, bI] at *); unfold fWind; (repeat' split) <;> first | rfl | omega | (exfalso; simp_all; done) | (exfalso; simp_all; omega))]))
    · refine z_aload_n C 0 rfl dX5_wind_10 rfl ?_
      refine z_bipush C dX5_wind_11 (by decide) ?_
      refine y_callV1 C oX5_refuse iX5_refuse eX5_refuse lkX5_59 (c_X5_refuse (by first | assumption | omega)) rfl (by decide) rfl rfl (by decide) (Nat.le_refl _) (Nat.le_refl _) (Nat.le_of_ble_eq_true rfl) dX5_wind_13 ?_
      exact zZ_iret C hR (Nat.le_refl _) (Nat.le_refl _) dX5_wind_16 rfl (zIs_I (uRc (show fWind v = -2 by (try simp only [decide_eq_true_eq, decide_eq_false_iff_not, bI] at *); unfold fWind; (repeat' split) <;> first | rfl | omega | (exfalso; simp_all; done) | (exfalso; simp_all; omega)) (by decide)).symm (by rw [uIc (show fWind v = -2 by (try simp only [decide_eq_true_eq, decide_eq_false_iff_not, bI] at *); unfold fWind; (repeat' split) <;> first | rfl | omega | (exfalso; simp_all; done) | (exfalso; simp_all; omega)) (by decide)]))
set_option maxHeartbeats 4000000 in
set_option maxRecDepth 100000 in
theorem c_X5_ewe {g : zG} {I : Nat → Nat → Int} {J : Nat → Nat → Int64} {q : Nat × Nat} {kd a c : Int} (hg : gH I 1) (hq : gS I 4) (hl : gL I) (hk : -2147483648 ≤ kd ∧ kd ≤ 2147483647) (ha : -2147483648 ≤ a ∧ a ≤ 2147483647) (hc : -2147483648 ≤ c ∧ c ≤ 2147483647) : zRun g mX5_ewe 3 [.ref 0, .int (iI kd), .int (iI a), .int (iI c)] (zst I J q) (some (.int (iI (uR (fEwe I J kd a c) (I 1 6))))) (zst (uI I (fEwe I J kd a c) (zu (zu (zu (zu I 2 (I 1 6).toNat kd) 3 (I 1 6).toNat a) 5 (I 1 6).toNat c) 1 6 (I 1 6 + 1))) J q) := by
  obtain ⟨g1, g2, g3, g4, g5, g6⟩ := id hg
  obtain ⟨k1, k2, k3⟩ := id hq
  refine zRuns_intro rfl (Nat.le_of_ble_eq_true rfl) (fun X C hR => ?_)
  show zZ g X 0 0 _ 0 [(0, .ref 0), (1, .int (iI kd)), (2, .int (iI a)), (3, .int (iI c))] []
  refine z_iload_n C 1 rfl dX5_ewe_0 rfl ?_
  refine y_callS1 C oX5_isKind sX5_isKind lkX5_106 (c_X5_isKind (by first | assumption | omega)) (by decide) (Nat.le_refl _) (Nat.le_refl _) (Nat.le_of_ble_eq_true rfl) dX5_ewe_1 ?_
  refine y_if_eqB C 28 dX5_ewe_4 (by decide) (fun h4 => ?_) (fun h4 => ?_)
  · refine z_aload_n C 0 rfl dX5_ewe_28 rfl ?_
    refine z_bipush C dX5_ewe_29 (by decide) ?_
    refine y_callV1 C oX5_refuse iX5_refuse eX5_refuse lkX5_59 (c_X5_refuse (by first | assumption | omega)) rfl (by decide) rfl rfl (by decide) (Nat.le_refl _) (Nat.le_refl _) (Nat.le_of_ble_eq_true rfl) dX5_ewe_31 ?_
    exact zZ_iret C hR (Nat.le_refl _) (Nat.le_refl _) dX5_ewe_34 rfl (zIs_I (uRc (show fEwe I J kd a c = -2 by (try simp only [decide_eq_true_eq, decide_eq_false_iff_not, bI] at *); unfold fEwe; (repeat' split) <;> first | rfl | omega | (exfalso; simp_all; done) | (exfalso; simp_all; omega)) (by decide)).symm (by rw [uIc (show fEwe I J kd a c = -2 by (try simp only [decide_eq_true_eq, decide_eq_false_iff_not, bI] at *); unfold fEwe; (repeat' split) <;> first | rfl | omega | (exfalso; simp_all; done) | (exfalso; simp_all; omega)) (by decide)]))
  · refine z_iload_n C 2 rfl dX5_ewe_7 rfl ?_
    refine z_if_lt C 28 dX5_ewe_8 (by decide) (by omega) (fun h8 => ?_) (fun h8 => ?_)
    · refine z_aload_n C 0 rfl dX5_ewe_28 rfl ?_
      refine z_bipush C dX5_ewe_29 (by decide) ?_
      refine y_callV1 C oX5_refuse iX5_refuse eX5_refuse lkX5_59 (c_X5_refuse (by first | assumption | omega)) rfl (by decide) rfl rfl (by decide) (Nat.le_refl _) (Nat.le_refl _) (Nat.le_of_ble_eq_true rfl) dX5_ewe_31 ?_
      exact zZ_iret C hR (Nat.le_refl _) (Nat.le_refl _) dX5_ewe_34 rfl (zIs_I (uRc (show fEwe I J kd a c = -2 by (try simp only [decide_eq_true_eq, decide_eq_false_iff_not, bI] at *); unfold fEwe; (repeat' split) <;> first | rfl | omega | (exfalso; simp_all; done) | (exfalso; simp_all; omega)) (by decide)).symm (by rw [uIc (show fEwe I J kd a c = -2 by (try simp only [decide_eq_true_eq, decide_eq_false_iff_not, bI] at *); unfold fEwe; (repeat' split) <;> first | rfl | omega | (exfalso; simp_all; done) | (exfalso; simp_all; omega)) (by decide)]))
    · refine z_iload_n C 2 rfl dX5_ewe_11 rfl ?_
      refine z_bipush C dX5_ewe_12 (by decide) ?_
      refine z_icmp_gt C 28 dX5_ewe_14 (by decide) (by omega) (by omega) (fun h14 => ?_) (fun h14 => ?_)
      · refine z_aload_n C 0 rfl dX5_ewe_28 rfl ?_
        refine z_bipush C dX5_ewe_29 (by decide) ?_
        refine y_callV1 C oX5_refuse iX5_refuse eX5_refuse lkX5_59 (c_X5_refuse (by first | assumption | omega)) rfl (by decide) rfl rfl (by decide) (Nat.le_refl _) (Nat.le_refl _) (Nat.le_of_ble_eq_true rfl) dX5_ewe_31 ?_
        exact zZ_iret C hR (Nat.le_refl _) (Nat.le_refl _) dX5_ewe_34 rfl (zIs_I (uRc (show fEwe I J kd a c = -2 by (try simp only [decide_eq_true_eq, decide_eq_false_iff_not, bI] at *); unfold fEwe; (repeat' split) <;> first | rfl | omega | (exfalso; simp_all; done) | (exfalso; simp_all; omega)) (by decide)).symm (by rw [uIc (show fEwe I J kd a c = -2 by (try simp only [decide_eq_true_eq, decide_eq_false_iff_not, bI] at *); unfold fEwe; (repeat' split) <;> first | rfl | omega | (exfalso; simp_all; done) | (exfalso; simp_all; omega)) (by decide)]))
      · refine z_aload_n C 0 rfl dX5_ewe_17 rfl ?_
        refine y_getR C zCl5 0 flX5_10 rfl rfl rfl dX5_ewe_18 ?_
        refine z_iload_n C 3 rfl dX5_ewe_21 rfl ?_
        refine y_callV1 C oX0_isCell iX0_isCell eX0_isCell lkX5_128 (c_X0_isCell isH_1 hg (by first | assumption | omega)) rfl (by decide) rfl rfl (by decide) (Nat.le_refl _) (Nat.le_refl _) (Nat.le_of_ble_eq_true rfl) dX5_ewe_22 ?_
        refine y_if_neB C 35 dX5_ewe_25 (by decide) (fun h25 => ?_) (fun h25 => ?_)
        · have hcr := isCellN_r g1.2 h25
          refine z_aload_n C 0 rfl dX5_ewe_35 rfl ?_
          refine y_getR C zCl5 0 flX5_10 rfl rfl rfl dX5_ewe_36 ?_
          refine z_iload_n C 3 rfl dX5_ewe_39 rfl ?_
          refine y_callV1 C oX0_isOpen iX0_isOpen eX0_isOpen lkX5_153 (c_X0_isOpen isH_1 hg (by first | assumption | omega)) rfl (by decide) rfl rfl (by decide) (Nat.le_refl _) (Nat.le_refl _) (Nat.le_of_ble_eq_true rfl) dX5_ewe_40 ?_
          refine y_if_neB C 53 dX5_ewe_43 (by decide) (fun h43 => ?_) (fun h43 => ?_)
          · refine z_aload_n C 0 rfl dX5_ewe_53 rfl ?_
            refine y_getR C zCl5 0 flX5_10 rfl rfl rfl dX5_ewe_54 ?_
            refine y_getI C zCl0 6 flX5_156 rfl rfl dX5_ewe_57 ?_
            refine z_iconst C dX5_ewe_60 ?_
            refine z_icmp_lt C 71 dX5_ewe_61 (by decide) (by omega) (by omega) (fun h61 => ?_) (fun h61 => ?_)
            · refine z_aload_n C 0 rfl dX5_ewe_71 rfl ?_
              refine y_getR C zCl5 0 flX5_10 rfl rfl rfl dX5_ewe_72 ?_
              refine z_iload_n C 1 rfl dX5_ewe_75 rfl ?_
              refine z_iload_n C 2 rfl dX5_ewe_76 rfl ?_
              refine z_iload_n C 3 rfl dX5_ewe_77 rfl ?_
              refine y_callV3 C oX0_addEwe iX0_addEwe eX0_addEwe lkX5_159 (c_X0_addEwe isH_1 (by first | assumption | omega)) rfl (by decide) rfl rfl (by decide) (Nat.le_refl _) (Nat.le_refl _) (Nat.le_of_ble_eq_true rfl) dX5_ewe_78 ?_
              exact zZ_iret C hR (Nat.le_refl _) (Nat.le_refl _) dX5_ewe_81 rfl (zIs_I ((rfl).trans (uR0 (show fEwe I J kd a c = 0 by (try simp only [decide_eq_true_eq, decide_eq_false_iff_not, bI] at *); unfold fEwe; (repeat' split) <;> first | rfl | omega | (exfalso; simp_all; done) | (exfalso; simp_all; omega))).symm) (by rw [uI0 (show fEwe I J kd a c = 0 by (try simp only [decide_eq_true_eq, decide_eq_false_iff_not, bI] at *); unfold fEwe; (repeat' split) <;> first | rfl | omega | (exfalso; simp_all; done) | (exfalso; simp_all; omega))]))
            · refine z_aload_n C 0 rfl dX5_ewe_64 rfl ?_
              refine z_bipush C dX5_ewe_65 (by decide) ?_
              refine y_callV1 C oX5_refuse iX5_refuse eX5_refuse lkX5_59 (c_X5_refuse (by first | assumption | omega)) rfl (by decide) rfl rfl (by decide) (Nat.le_refl _) (Nat.le_refl _) (Nat.le_of_ble_eq_true rfl) dX5_ewe_67 ?_
              exact zZ_iret C hR (Nat.le_refl _) (Nat.le_refl _) dX5_ewe_70 rfl (zIs_I (uRc (show fEwe I J kd a c = -6 by (try simp only [decide_eq_true_eq, decide_eq_false_iff_not, bI] at *); unfold fEwe; (repeat' split) <;> first | rfl | omega | (exfalso; simp_all; done) | (exfalso; simp_all; omega)) (by decide)).symm (by rw [uIc (show fEwe I J kd a c = -6 by (try simp only [decide_eq_true_eq, decide_eq_false_iff_not, bI] at *); unfold fEwe; (repeat' split) <;> first | rfl | omega | (exfalso; simp_all; done) | (exfalso; simp_all; omega)) (by decide)]))
          · refine z_aload_n C 0 rfl dX5_ewe_46 rfl ?_
            refine z_bipush C dX5_ewe_47 (by decide) ?_
            refine y_callV1 C oX5_refuse iX5_refuse eX5_refuse lkX5_59 (c_X5_refuse (by first | assumption | omega)) rfl (by decide) rfl rfl (by decide) (Nat.le_refl _) (Nat.le_refl _) (Nat.le_of_ble_eq_true rfl) dX5_ewe_49 ?_
            exact zZ_iret C hR (Nat.le_refl _) (Nat.le_refl _) dX5_ewe_52 rfl (zIs_I (uRc (show fEwe I J kd a c = -5 by (try simp only [decide_eq_true_eq, decide_eq_false_iff_not, bI] at *); unfold fEwe; (repeat' split) <;> first | rfl | omega | (exfalso; simp_all; done) | (exfalso; simp_all; omega)) (by decide)).symm (by rw [uIc (show fEwe I J kd a c = -5 by (try simp only [decide_eq_true_eq, decide_eq_false_iff_not, bI] at *); unfold fEwe; (repeat' split) <;> first | rfl | omega | (exfalso; simp_all; done) | (exfalso; simp_all; omega)) (by decide)]))
        · refine z_aload_n C 0 rfl dX5_ewe_28 rfl ?_
          refine z_bipush C dX5_ewe_29 (by decide) ?_
          refine y_callV1 C oX5_refuse iX5_refuse eX5_refuse lkX5_59 (c_X5_refuse (by first | assumption | omega)) rfl (by decide) rfl rfl (by decide) (Nat.le_refl _) (Nat.le_refl _) (Nat.le_of_ble_eq_true rfl) dX5_ewe_31 ?_
          exact zZ_iret C hR (Nat.le_refl _) (Nat.le_refl _) dX5_ewe_34 rfl (zIs_I (uRc (show fEwe I J kd a c = -2 by (try simp only [decide_eq_true_eq, decide_eq_false_iff_not, bI] at *); unfold fEwe; (repeat' split) <;> first | rfl | omega | (exfalso; simp_all; done) | (exfalso; simp_all; omega)) (by decide)).symm (by rw [uIc (show fEwe I J kd a c = -2 by (try simp only [decide_eq_true_eq, decide_eq_false_iff_not, bI] at *); unfold fEwe; (repeat' split) <;> first | rfl | omega | (exfalso; simp_all; done) | (exfalso; simp_all; omega)) (by decide)]))
set_option maxHeartbeats 4000000 in
set_option maxRecDepth 100000 in
theorem c_X5_move {g : zG} {I : Nat → Nat → Int} {J : Nat → Nat → Int64} {q : Nat × Nat} {e c : Int} (hg : gH I 1) (hq : gS I 4) (hl : gL I) (he : -2147483648 ≤ e ∧ e ≤ 2147483647) (hc : -2147483648 ≤ c ∧ c ≤ 2147483647) : zRun g mX5_move 3 [.ref 0, .int (iI e), .int (iI c)] (zst I J q) (some (.int (iI (uR (fMove I J e c) (I 5 e.toNat))))) (zst (uI I (fMove I J e c) (zu I 5 e.toNat c)) J q) := by
  obtain ⟨g1, g2, g3, g4, g5, g6⟩ := id hg
  obtain ⟨k1, k2, k3⟩ := id hq
  refine zRuns_intro rfl (Nat.le_of_ble_eq_true rfl) (fun X C hR => ?_)
  show zZ g X 0 0 _ 0 [(0, .ref 0), (1, .int (iI e)), (2, .int (iI c))] []
  refine z_aload_n C 0 rfl dX5_move_0 rfl ?_
  refine y_getR C zCl5 0 flX5_10 rfl rfl rfl dX5_move_1 ?_
  refine z_iload_n C 1 rfl dX5_move_4 rfl ?_
  refine y_callV1 C oX0_isEwe iX0_isEwe eX0_isEwe lkX5_103 (c_X0_isEwe isH_1 hg (by first | assumption | omega)) rfl (by decide) rfl rfl (by decide) (Nat.le_refl _) (Nat.le_refl _) (Nat.le_of_ble_eq_true rfl) dX5_move_5 ?_
  refine y_if_eqB C 22 dX5_move_8 (by decide) (fun h8 => ?_) (fun h8 => ?_)
  · refine z_aload_n C 0 rfl dX5_move_22 rfl ?_
    refine z_bipush C dX5_move_23 (by decide) ?_
    refine y_callV1 C oX5_refuse iX5_refuse eX5_refuse lkX5_59 (c_X5_refuse (by first | assumption | omega)) rfl (by decide) rfl rfl (by decide) (Nat.le_refl _) (Nat.le_refl _) (Nat.le_of_ble_eq_true rfl) dX5_move_25 ?_
    exact zZ_iret C hR (Nat.le_refl _) (Nat.le_refl _) dX5_move_28 rfl (zIs_I (uRc (show fMove I J e c = -2 by (try simp only [decide_eq_true_eq, decide_eq_false_iff_not, bI] at *); unfold fMove; (repeat' split) <;> first | rfl | omega | (exfalso; simp_all; done) | (exfalso; simp_all; omega)) (by decide)).symm (by rw [uIc (show fMove I J e c = -2 by (try simp only [decide_eq_true_eq, decide_eq_false_iff_not, bI] at *); unfold fMove; (repeat' split) <;> first | rfl | omega | (exfalso; simp_all; done) | (exfalso; simp_all; omega)) (by decide)]))
  · have her : 0 ≤ e ∧ e < I 1 6 := by simpa using h8
    refine z_aload_n C 0 rfl dX5_move_11 rfl ?_
    refine y_getR C zCl5 0 flX5_10 rfl rfl rfl dX5_move_12 ?_
    refine z_iload_n C 2 rfl dX5_move_15 rfl ?_
    refine y_callV1 C oX0_isCell iX0_isCell eX0_isCell lkX5_128 (c_X0_isCell isH_1 hg (by first | assumption | omega)) rfl (by decide) rfl rfl (by decide) (Nat.le_refl _) (Nat.le_refl _) (Nat.le_of_ble_eq_true rfl) dX5_move_16 ?_
    refine y_if_neB C 29 dX5_move_19 (by decide) (fun h19 => ?_) (fun h19 => ?_)
    · have hcr := isCellN_r g1.2 h19
      refine z_aload_n C 0 rfl dX5_move_29 rfl ?_
      refine y_getR C zCl5 0 flX5_10 rfl rfl rfl dX5_move_30 ?_
      refine z_iload_n C 2 rfl dX5_move_33 rfl ?_
      refine y_callV1 C oX0_isOpen iX0_isOpen eX0_isOpen lkX5_153 (c_X0_isOpen isH_1 hg (by first | assumption | omega)) rfl (by decide) rfl rfl (by decide) (Nat.le_refl _) (Nat.le_refl _) (Nat.le_of_ble_eq_true rfl) dX5_move_34 ?_
      refine y_if_neB C 47 dX5_move_37 (by decide) (fun h37 => ?_) (fun h37 => ?_)
      · refine z_aload_n C 0 rfl dX5_move_47 rfl ?_
        refine y_getR C zCl5 0 flX5_10 rfl rfl rfl dX5_move_48 ?_
        refine y_getR C zCl0 9 flX5_118 rfl rfl rfl dX5_move_51 ?_
        refine y_getR C zCl3 2 flX5_162 rfl rfl rfl dX5_move_54 ?_
        refine z_iload_n C 1 rfl dX5_move_57 rfl ?_
        refine y_iald C e.toNat (by omega) rfl (by omega) (by decide) dX5_move_58 ?_
        refine z_topI C (fun w ew => ?_)
        refine z_istore_n C [(3, .int (iI w)), (0, .ref 0), (1, .int (iI e)), (2, .int (iI c))] dX5_move_59 rfl (by decide) rfl ?_
        refine z_aload_n C 1 rfl dX5_move_60 rfl ?_
        refine y_getR C zCl5 0 flX5_10 rfl rfl rfl dX5_move_61 ?_
        refine y_getR C zCl0 9 flX5_118 rfl rfl rfl dX5_move_64 ?_
        refine y_getR C zCl3 2 flX5_162 rfl rfl rfl dX5_move_67 ?_
        refine z_iload_n C 2 rfl dX5_move_70 rfl ?_
        refine z_iload_n C 3 rfl dX5_move_71 rfl ?_
        refine y_iast C e.toNat (by omega) rfl (by omega) (by decide) dX5_move_72 ?_
        refine z_iload_n C 0 rfl dX5_move_73 rfl ?_
        exact zZ_iret C hR (Nat.le_refl _) (Nat.le_refl _) dX5_move_74 rfl (zIs_I ((ew).trans (uR0 (show fMove I J e c = 0 by (try simp only [decide_eq_true_eq, decide_eq_false_iff_not, bI] at *); unfold fMove; (repeat' split) <;> first | rfl | omega | (exfalso; simp_all; done) | (exfalso; simp_all; omega))).symm) (by rw [uI0 (show fMove I J e c = 0 by (try simp only [decide_eq_true_eq, decide_eq_false_iff_not, bI] at *); unfold fMove; (repeat' split) <;> first | rfl | omega | (exfalso; simp_all; done) | (exfalso; simp_all; omega))]))
      · refine z_aload_n C 0 rfl dX5_move_40 rfl ?_
        refine z_bipush C dX5_move_41 (by decide) ?_
        refine y_callV1 C oX5_refuse iX5_refuse eX5_refuse lkX5_59 (c_X5_refuse (by first | assumption | omega)) rfl (by decide) rfl rfl (by decide) (Nat.le_refl _) (Nat.le_refl _) (Nat.le_of_ble_eq_true rfl) dX5_move_43 ?_
        exact zZ_iret C hR (Nat.le_refl _) (Nat.le_refl _) dX5_move_46 rfl (zIs_I (uRc (show fMove I J e c = -5 by (try simp only [decide_eq_true_eq, decide_eq_false_iff_not, bI] at *); unfold fMove; (repeat' split) <;> first | rfl | omega | (exfalso; simp_all; done) | (exfalso; simp_all; omega)) (by decide)).symm (by rw [uIc (show fMove I J e c = -5 by (try simp only [decide_eq_true_eq, decide_eq_false_iff_not, bI] at *); unfold fMove; (repeat' split) <;> first | rfl | omega | (exfalso; simp_all; done) | (exfalso; simp_all; omega)) (by decide)]))
    · refine z_aload_n C 0 rfl dX5_move_22 rfl ?_
      refine z_bipush C dX5_move_23 (by decide) ?_
      refine y_callV1 C oX5_refuse iX5_refuse eX5_refuse lkX5_59 (c_X5_refuse (by first | assumption | omega)) rfl (by decide) rfl rfl (by decide) (Nat.le_refl _) (Nat.le_refl _) (Nat.le_of_ble_eq_true rfl) dX5_move_25 ?_
      exact zZ_iret C hR (Nat.le_refl _) (Nat.le_refl _) dX5_move_28 rfl (zIs_I (uRc (show fMove I J e c = -2 by (try simp only [decide_eq_true_eq, decide_eq_false_iff_not, bI] at *); unfold fMove; (repeat' split) <;> first | rfl | omega | (exfalso; simp_all; done) | (exfalso; simp_all; omega)) (by decide)).symm (by rw [uIc (show fMove I J e c = -2 by (try simp only [decide_eq_true_eq, decide_eq_false_iff_not, bI] at *); unfold fMove; (repeat' split) <;> first | rfl | omega | (exfalso; simp_all; done) | (exfalso; simp_all; omega)) (by decide)]))
set_option maxHeartbeats 4000000 in
set_option maxRecDepth 100000 in
theorem c_X5_feed {g : zG} {I : Nat → Nat → Int} {J : Nat → Nat → Int64} {q : Nat × Nat} {c : Int} (hg : gH I 1) (hq : gS I 4) (hl : gL I) (ht : 0 ≤ I 11 1 ∧ I 11 1 ≤ 250) (hc : -2147483648 ≤ c ∧ c ≤ 2147483647) : zRun g mX5_feed 1 [.ref 0, .int (iI c)] (zst I J q) (some (.int (iI (uR (fFeed I c) (I 11 1 + 1))))) (zst (uI I (fFeed I c) (zu (zu I 12 (I 11 1).toNat c) 11 1 (I 11 1 + 1))) J q) := by
  refine zRuns_intro rfl (Nat.le_of_ble_eq_true rfl) (fun X C hR => ?_)
  show zZ g X 0 0 _ 0 [(0, .ref 0), (1, .int (iI c))] []
  refine z_iload_n C 1 rfl dX5_feed_0 rfl ?_
  refine z_if_lt C 11 dX5_feed_1 (by decide) (by omega) (fun h1 => ?_) (fun h1 => ?_)
  · refine z_aload_n C 0 rfl dX5_feed_11 rfl ?_
    refine z_bipush C dX5_feed_12 (by decide) ?_
    refine y_callV1 C oX5_refuse iX5_refuse eX5_refuse lkX5_59 (c_X5_refuse (by first | assumption | omega)) rfl (by decide) rfl rfl (by decide) (Nat.le_refl _) (Nat.le_refl _) (Nat.le_of_ble_eq_true rfl) dX5_feed_14 ?_
    exact zZ_iret C hR (Nat.le_refl _) (Nat.le_refl _) dX5_feed_17 rfl (zIs_I (uRc (show fFeed I c = -2 by (try simp only [decide_eq_true_eq, decide_eq_false_iff_not, bI] at *); unfold fFeed; (repeat' split) <;> first | rfl | omega | (exfalso; simp_all; done) | (exfalso; simp_all; omega)) (by decide)).symm (by rw [uIc (show fFeed I c = -2 by (try simp only [decide_eq_true_eq, decide_eq_false_iff_not, bI] at *); unfold fFeed; (repeat' split) <;> first | rfl | omega | (exfalso; simp_all; done) | (exfalso; simp_all; omega)) (by decide)]))
  · refine z_iload_n C 1 rfl dX5_feed_4 rfl ?_
    refine z_sipush C dX5_feed_5 (by decide) ?_
    refine z_icmp_le C 18 dX5_feed_8 (by decide) (by omega) (by omega) (fun h8 => ?_) (fun h8 => ?_)
    · refine z_aload_n C 0 rfl dX5_feed_18 rfl ?_
      refine y_getR C zCl5 3 flX5_26 rfl rfl rfl dX5_feed_19 ?_
      refine y_getI C zCl4 1 flX5_168 rfl rfl dX5_feed_22 ?_
      refine z_sipush C dX5_feed_25 (by decide) ?_
      refine z_icmp_lt C 38 dX5_feed_28 (by decide) (by omega) (by omega) (fun h28 => ?_) (fun h28 => ?_)
      · refine z_aload_n C 0 rfl dX5_feed_38 rfl ?_
        refine y_getR C zCl5 3 flX5_26 rfl rfl rfl dX5_feed_39 ?_
        refine y_getR C zCl4 0 flX5_169 rfl rfl rfl dX5_feed_42 ?_
        refine z_aload_n C 0 rfl dX5_feed_45 rfl ?_
        refine y_getR C zCl5 3 flX5_26 rfl rfl rfl dX5_feed_46 ?_
        refine y_getI C zCl4 1 flX5_168 rfl rfl dX5_feed_49 ?_
        refine z_iload_n C 1 rfl dX5_feed_52 rfl ?_
        refine y_iast C (I 11 1).toNat (by omega) rfl (by omega) (by decide) dX5_feed_53 ?_
        refine z_aload_n C 0 rfl dX5_feed_54 rfl ?_
        refine y_getR C zCl5 3 flX5_26 rfl rfl rfl dX5_feed_55 ?_
        refine z_dup C dX5_feed_58 rfl ?_
        refine y_getI C zCl4 1 flX5_168 rfl rfl dX5_feed_59 ?_
        rw [show zu I 12 (I 11 1).toNat c 11 1 = I 11 1 by simp [zu]]
        refine z_iconst C dX5_feed_62 ?_
        refine z_iadd C dX5_feed_63 ?_
        refine y_putI C zCl4 1 flX5_168 rfl rfl rfl rfl dX5_feed_64 ?_
        refine z_aload_n C 0 rfl dX5_feed_67 rfl ?_
        refine y_getR C zCl5 3 flX5_26 rfl rfl rfl dX5_feed_68 ?_
        refine y_getI C zCl4 1 flX5_168 rfl rfl dX5_feed_71 ?_
        rw [show zu (zu I 12 (I 11 1).toNat c) 11 1 (I 11 1 + 1) 11 1 = I 11 1 + 1 by simp [zu]]
        exact zZ_iret C hR (Nat.le_refl _) (Nat.le_refl _) dX5_feed_74 rfl (zIs_I ((rfl).trans (uR0 (show fFeed I c = 0 by (try simp only [decide_eq_true_eq, decide_eq_false_iff_not, bI] at *); unfold fFeed; (repeat' split) <;> first | rfl | omega | (exfalso; simp_all; done) | (exfalso; simp_all; omega))).symm) (by rw [uI0 (show fFeed I c = 0 by (try simp only [decide_eq_true_eq, decide_eq_false_iff_not, bI] at *); unfold fFeed; (repeat' split) <;> first | rfl | omega | (exfalso; simp_all; done) | (exfalso; simp_all; omega))]))
      · refine z_aload_n C 0 rfl dX5_feed_31 rfl ?_
        refine z_bipush C dX5_feed_32 (by decide) ?_
        refine y_callV1 C oX5_refuse iX5_refuse eX5_refuse lkX5_59 (c_X5_refuse (by first | assumption | omega)) rfl (by decide) rfl rfl (by decide) (Nat.le_refl _) (Nat.le_refl _) (Nat.le_of_ble_eq_true rfl) dX5_feed_34 ?_
        exact zZ_iret C hR (Nat.le_refl _) (Nat.le_refl _) dX5_feed_37 rfl (zIs_I (uRc (show fFeed I c = -6 by (try simp only [decide_eq_true_eq, decide_eq_false_iff_not, bI] at *); unfold fFeed; (repeat' split) <;> first | rfl | omega | (exfalso; simp_all; done) | (exfalso; simp_all; omega)) (by decide)).symm (by rw [uIc (show fFeed I c = -6 by (try simp only [decide_eq_true_eq, decide_eq_false_iff_not, bI] at *); unfold fFeed; (repeat' split) <;> first | rfl | omega | (exfalso; simp_all; done) | (exfalso; simp_all; omega)) (by decide)]))
    · refine z_aload_n C 0 rfl dX5_feed_11 rfl ?_
      refine z_bipush C dX5_feed_12 (by decide) ?_
      refine y_callV1 C oX5_refuse iX5_refuse eX5_refuse lkX5_59 (c_X5_refuse (by first | assumption | omega)) rfl (by decide) rfl rfl (by decide) (Nat.le_refl _) (Nat.le_refl _) (Nat.le_of_ble_eq_true rfl) dX5_feed_14 ?_
      exact zZ_iret C hR (Nat.le_refl _) (Nat.le_refl _) dX5_feed_17 rfl (zIs_I (uRc (show fFeed I c = -2 by (try simp only [decide_eq_true_eq, decide_eq_false_iff_not, bI] at *); unfold fFeed; (repeat' split) <;> first | rfl | omega | (exfalso; simp_all; done) | (exfalso; simp_all; omega)) (by decide)).symm (by rw [uIc (show fFeed I c = -2 by (try simp only [decide_eq_true_eq, decide_eq_false_iff_not, bI] at *); unfold fFeed; (repeat' split) <;> first | rfl | omega | (exfalso; simp_all; done) | (exfalso; simp_all; omega)) (by decide)]))
set_option maxHeartbeats 4000000 in
set_option maxRecDepth 100000 in
theorem c_X5_wipe {g : zG} {I : Nat → Nat → Int} {J : Nat → Nat → Int64} {q : Nat × Nat}  (hg : gH I 1) (hq : gS I 4) (hl : gL I) : zRun g mX5_wipe 0 [.ref 0] (zst I J q) (some (.int (iI (I 11 1)))) (zst (zu I 11 1 0) J q) := by
  refine zRuns_intro rfl (Nat.le_of_ble_eq_true rfl) (fun X C hR => ?_)
  show zZ g X 0 0 _ 0 [(0, .ref 0)] []
  refine z_aload_n C 0 rfl dX5_wipe_0 rfl ?_
  refine y_getR C zCl5 3 flX5_26 rfl rfl rfl dX5_wipe_1 ?_
  refine y_getI C zCl4 1 flX5_168 rfl rfl dX5_wipe_4 ?_
  refine z_topI C (fun w ew => ?_)
  refine z_istore_n C [(1, .int (iI w)), (0, .ref 0)] dX5_wipe_7 rfl (by decide) rfl ?_
  refine z_aload_n C 1 rfl dX5_wipe_8 rfl ?_
  refine y_getR C zCl5 3 flX5_26 rfl rfl rfl dX5_wipe_9 ?_
  refine z_iconst C dX5_wipe_12 ?_
  refine y_putI C zCl4 1 flX5_168 rfl rfl rfl rfl dX5_wipe_13 ?_
  refine z_iload_n C 0 rfl dX5_wipe_16 rfl ?_
  exact zZ_iret C hR (Nat.le_refl _) (Nat.le_refl _) dX5_wipe_17 rfl (zIs_I ew rfl)
set_option maxHeartbeats 4000000 in
set_option maxRecDepth 100000 in
theorem c_X5_hasWall {g : zG} {I : Nat → Nat → Int} {J : Nat → Nat → Int64} {q : Nat × Nat} {c : Int} (hg : gH I 1) (hq : gS I 4) (hl : gL I) (hc : -2147483648 ≤ c ∧ c ≤ 2147483647) : zRun g mX5_hasWall 2 [.ref 0, .int (iI c)] (zst I J q) (some (.int (iI (uR (fHasW I c) (bI (wallL (J 1 5) c)))))) (zst (uI I (fHasW I c) (I)) J q) := by
  obtain ⟨g1, g2, g3, g4, g5, g6⟩ := id hg
  obtain ⟨k1, k2, k3⟩ := id hq
  refine zRuns_intro rfl (Nat.le_of_ble_eq_true rfl) (fun X C hR => ?_)
  show zZ g X 0 0 _ 0 [(0, .ref 0), (1, .int (iI c))] []
  refine z_aload_n C 0 rfl dX5_hasWall_0 rfl ?_
  refine y_getR C zCl5 0 flX5_10 rfl rfl rfl dX5_hasWall_1 ?_
  refine z_iload_n C 1 rfl dX5_hasWall_4 rfl ?_
  refine y_callV1 C oX0_isCell iX0_isCell eX0_isCell lkX5_128 (c_X0_isCell isH_1 hg (by first | assumption | omega)) rfl (by decide) rfl rfl (by decide) (Nat.le_refl _) (Nat.le_refl _) (Nat.le_of_ble_eq_true rfl) dX5_hasWall_5 ?_
  refine y_if_neB C 18 dX5_hasWall_8 (by decide) (fun h8 => ?_) (fun h8 => ?_)
  · have hcr := isCellN_r g1.2 h8
    refine z_aload_n C 0 rfl dX5_hasWall_18 rfl ?_
    refine y_getR C zCl5 0 flX5_10 rfl rfl rfl dX5_hasWall_19 ?_
    refine z_iload_n C 1 rfl dX5_hasWall_22 rfl ?_
    refine y_callV1 C oX0_isWall iX0_isWall eX0_isWall lkX5_134 (c_X0_isWall isH_1 (by first | assumption | omega)) rfl (by decide) rfl rfl (by decide) (Nat.le_refl _) (Nat.le_refl _) (Nat.le_of_ble_eq_true rfl) dX5_hasWall_23 ?_
    refine y_if_eqB C 33 dX5_hasWall_26 (by decide) (fun h26 => ?_) (fun h26 => ?_)
    · refine z_iconst C dX5_hasWall_33 ?_
      exact zZ_iret C hR (Nat.le_refl _) (Nat.le_refl _) dX5_hasWall_34 rfl (zIs_I (by rw [uR0 (show fHasW I c = 0 by (try simp only [decide_eq_true_eq, decide_eq_false_iff_not, bI] at *); unfold fHasW; (repeat' split) <;> first | rfl | omega | (exfalso; simp_all; done) | (exfalso; simp_all; omega))]; rw [h26]; rfl) (by rw [uI0 (show fHasW I c = 0 by (try simp only [decide_eq_true_eq, decide_eq_false_iff_not, bI] at *); unfold fHasW; (repeat' split) <;> first | rfl | omega | (exfalso; simp_all; done) | (exfalso; simp_all; omega))]))
    · refine z_iconst C dX5_hasWall_29 ?_
      refine z_goto C 34 dX5_hasWall_30 (by decide) ?_
      exact zZ_iret C hR (Nat.le_refl _) (Nat.le_refl _) dX5_hasWall_34 rfl (zIs_I (by rw [uR0 (show fHasW I c = 0 by (try simp only [decide_eq_true_eq, decide_eq_false_iff_not, bI] at *); unfold fHasW; (repeat' split) <;> first | rfl | omega | (exfalso; simp_all; done) | (exfalso; simp_all; omega))]; rw [h26]; rfl) (by rw [uI0 (show fHasW I c = 0 by (try simp only [decide_eq_true_eq, decide_eq_false_iff_not, bI] at *); unfold fHasW; (repeat' split) <;> first | rfl | omega | (exfalso; simp_all; done) | (exfalso; simp_all; omega))]))
  · refine z_aload_n C 0 rfl dX5_hasWall_11 rfl ?_
    refine z_bipush C dX5_hasWall_12 (by decide) ?_
    refine y_callV1 C oX5_refuse iX5_refuse eX5_refuse lkX5_59 (c_X5_refuse (by first | assumption | omega)) rfl (by decide) rfl rfl (by decide) (Nat.le_refl _) (Nat.le_refl _) (Nat.le_of_ble_eq_true rfl) dX5_hasWall_14 ?_
    exact zZ_iret C hR (Nat.le_refl _) (Nat.le_refl _) dX5_hasWall_17 rfl (zIs_I (uRc (show fHasW I c = -2 by (try simp only [decide_eq_true_eq, decide_eq_false_iff_not, bI] at *); unfold fHasW; (repeat' split) <;> first | rfl | omega | (exfalso; simp_all; done) | (exfalso; simp_all; omega)) (by decide)).symm (by rw [uIc (show fHasW I c = -2 by (try simp only [decide_eq_true_eq, decide_eq_false_iff_not, bI] at *); unfold fHasW; (repeat' split) <;> first | rfl | omega | (exfalso; simp_all; done) | (exfalso; simp_all; omega)) (by decide)]))
