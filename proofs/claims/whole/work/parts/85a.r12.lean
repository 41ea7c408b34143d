set_option maxHeartbeats 4000000 in
set_option maxRecDepth 100000 in
theorem c_X6_copy {g : zG} {I : Nat → Nat → Int} {J : Nat → Nat → Int64} {q : Nat × Nat} {p r i j k : Int} (hgr : gR I) (hrs : gRS (spR I)) (hrl : gRL I) (hp : -2147483648 ≤ p ∧ p ≤ 2147483647) (hr2 : -2147483648 ≤ r ∧ r ≤ 2147483647) (hi : -2147483648 ≤ i ∧ i ≤ 2147483647) (hj : -2147483648 ≤ j ∧ j ≤ 2147483647) (hk : -2147483648 ≤ k ∧ k ≤ 2147483647) : zRun g mX6_copy 3 [.ref 58, .int (iI p), .int (iI r), .int (iI i), .int (iI j), .int (iI k)] (zst I J q) (some (.int (iI (uR (fCopy (VI I) p r i j k) (k))))) (zst (uK I (fCopy (VI I) p r i j k) (I)) (uJ J (fCopy (VI I) p r i j k) (cpR J (40 * p.toNat + i.toNat) (40 * r.toNat + j.toNat) k.toNat)) q) := by
  obtain ⟨b1, b2, b3, b4, b5, b6, b7⟩ := id hgr
  obtain ⟨k1, k2, k3⟩ := id hrs
  have k1 : gC7 (I 58 3) := k1
  have k2 : 0 ≤ I 58 4 ∧ I 58 4 ≤ 4 := k2
  have k3 : ∀ e, e < 5 → gC7 (I 62 e) := k3
  have k1' := k1.1
  have b2' := b2.1
  have v10 : VI I 1 0 = I 58 0 := congrArg (fun x => x) rfl
  have v11 : VI I 1 1 = I 58 2 := congrArg (fun x => x) rfl
  have v12 : VI I 1 2 = I 58 9 := congrArg (fun x => x) rfl
  have v16 : VI I 1 6 = I 58 5 := congrArg (fun x => x) rfl
  have v40 : VI I 4 0 = I 58 3 := congrArg (fun x => x) rfl
  have v41 : VI I 4 1 = I 58 4 := congrArg (fun x => x) rfl
  have v111 : VI I 11 1 = I 58 12 := congrArg (fun x => x) rfl
  have v13 : VI I 1 3 = I 58 10 := congrArg (fun x => x) rfl
  have v14 : VI I 1 4 = I 58 11 := congrArg (fun x => x) rfl
  refine zRuns_intro rfl (Nat.le_of_ble_eq_true rfl) (fun X C hR => ?_)
  show zZ g X 0 0 _ 0 [(0, .ref 58), (1, .int (iI p)), (2, .int (iI r)), (3, .int (iI i)), (4, .int (iI j)), (5, .int (iI k))] []
  refine z_iload_n C 1 rfl dX6_copy_0 rfl ?_
  refine y_callS1 C oX6_isShelf sX6_isShelf lkX6_79 (c_X6_isShelf (by first | assumption | omega)) (by decide) (Nat.le_refl _) (Nat.le_refl _) (Nat.le_of_ble_eq_true rfl) dX6_copy_1 ?_
  refine y_if_eqB C 14 dX6_copy_4 (by decide) (fun h4 => ?_) (fun h4 => ?_)
  · refine z_aload_n C 0 rfl dX6_copy_14 rfl ?_
    refine z_bipush C dX6_copy_15 (by decide) ?_
    refine y_callV1 C oX6_no iX6_no eX6_no lkX6_83 (c_X6_no (by first | assumption | omega)) rfl (by decide) rfl rfl (by decide) (Nat.le_refl _) (Nat.le_refl _) (Nat.le_of_ble_eq_true rfl) dX6_copy_17 ?_
    exact zZ_iret C hR (Nat.le_refl _) (Nat.le_refl _) dX6_copy_20 rfl (zIs_I (uRc (show fCopy (VI I) p r i j k = -2 by (try simp only [decide_eq_true_eq, decide_eq_false_iff_not, bI] at *); (rw [fCp_V]; first | exact if_pos (by omega) | (rw [if_neg (by omega)]; first | exact if_pos (by omega) | (rw [if_neg (by omega)]; first | exact if_pos (by omega) | (rw [if_neg (by omega)]; first | exact if_pos (by omega) | exact if_neg (by omega)))))) (by decide)).symm (by rw [uKc (show fCopy (VI I) p r i j k = -2 by (try simp only [decide_eq_true_eq, decide_eq_false_iff_not, bI] at *); (rw [fCp_V]; first | exact if_pos (by omega) | (rw [if_neg (by omega)]; first | exact if_pos (by omega) | (rw [if_neg (by omega)]; first | exact if_pos (by omega) | (rw [if_neg (by omega)]; first | exact if_pos (by omega) | exact if_neg (by omega)))))) (by decide), uJc (show fCopy (VI I) p r i j k = -2 by (try simp only [decide_eq_true_eq, decide_eq_false_iff_not, bI] at *); (rw [fCp_V]; first | exact if_pos (by omega) | (rw [if_neg (by omega)]; first | exact if_pos (by omega) | (rw [if_neg (by omega)]; first | exact if_pos (by omega) | (rw [if_neg (by omega)]; first | exact if_pos (by omega) | exact if_neg (by omega)))))) (by decide)]))
  · refine z_iload_n C 2 rfl dX6_copy_7 rfl ?_
    refine y_callS1 C oX6_isShelf sX6_isShelf lkX6_79 (c_X6_isShelf (by first | assumption | omega)) (by decide) (Nat.le_refl _) (Nat.le_refl _) (Nat.le_of_ble_eq_true rfl) dX6_copy_8 ?_
    refine y_if_neB C 21 dX6_copy_11 (by decide) (fun h11 => ?_) (fun h11 => ?_)
    · have hp8 : 0 ≤ p ∧ p < 8 := by simpa using h4
      have hr8 : 0 ≤ r ∧ r < 8 := by simpa using h11
      have hlp := hrl p.toNat (by omega)
      have hlr := hrl r.toNat (by omega)
      refine z_aload_n C 0 rfl dX6_copy_21 rfl ?_
      refine y_getR C zCl6 18 flX6_26 rfl rfl rfl dX6_copy_22 ?_
      refine z_iload_n C 1 rfl dX6_copy_25 rfl ?_
      refine y_iald C p.toNat (by omega) rfl (by omega) (by decide) dX6_copy_26 ?_
      refine z_bipush C dX6_copy_27 (by decide) ?_
      refine z_icmp_ge C 74 dX6_copy_29 (by decide) (by omega) (by omega) (fun h29 => ?_) (fun h29 => ?_)
      · refine z_aload_n C 0 rfl dX6_copy_74 rfl ?_
        refine z_bipush C dX6_copy_75 (by decide) ?_
        refine y_callV1 C oX6_no iX6_no eX6_no lkX6_83 (c_X6_no (by first | assumption | omega)) rfl (by decide) rfl rfl (by decide) (Nat.le_refl _) (Nat.le_refl _) (Nat.le_of_ble_eq_true rfl) dX6_copy_77 ?_
        exact zZ_iret C hR (Nat.le_refl _) (Nat.le_refl _) dX6_copy_80 rfl (zIs_I (uRc (show fCopy (VI I) p r i j k = -3 by (try simp only [decide_eq_true_eq, decide_eq_false_iff_not, bI] at *); (rw [fCp_V]; first | exact if_pos (by omega) | (rw [if_neg (by omega)]; first | exact if_pos (by omega) | (rw [if_neg (by omega)]; first | exact if_pos (by omega) | (rw [if_neg (by omega)]; first | exact if_pos (by omega) | exact if_neg (by omega)))))) (by decide)).symm (by rw [uKc (show fCopy (VI I) p r i j k = -3 by (try simp only [decide_eq_true_eq, decide_eq_false_iff_not, bI] at *); (rw [fCp_V]; first | exact if_pos (by omega) | (rw [if_neg (by omega)]; first | exact if_pos (by omega) | (rw [if_neg (by omega)]; first | exact if_pos (by omega) | (rw [if_neg (by omega)]; first | exact if_pos (by omega) | exact if_neg (by omega)))))) (by decide), uJc (show fCopy (VI I) p r i j k = -3 by (try simp only [decide_eq_true_eq, decide_eq_false_iff_not, bI] at *); (rw [fCp_V]; first | exact if_pos (by omega) | (rw [if_neg (by omega)]; first | exact if_pos (by omega) | (rw [if_neg (by omega)]; first | exact if_pos (by omega) | (rw [if_neg (by omega)]; first | exact if_pos (by omega) | exact if_neg (by omega)))))) (by decide)]))
      · refine z_aload_n C 0 rfl dX6_copy_32 rfl ?_
        refine y_getR C zCl6 18 flX6_26 rfl rfl rfl dX6_copy_33 ?_
        refine z_iload_n C 2 rfl dX6_copy_36 rfl ?_
        refine y_iald C r.toNat (by omega) rfl (by omega) (by decide) dX6_copy_37 ?_
        refine z_bipush C dX6_copy_38 (by decide) ?_
        refine z_icmp_ge C 74 dX6_copy_40 (by decide) (by omega) (by omega) (fun h40 => ?_) (fun h40 => ?_)
        · refine z_aload_n C 0 rfl dX6_copy_74 rfl ?_
          refine z_bipush C dX6_copy_75 (by decide) ?_
          refine y_callV1 C oX6_no iX6_no eX6_no lkX6_83 (c_X6_no (by first | assumption | omega)) rfl (by decide) rfl rfl (by decide) (Nat.le_refl _) (Nat.le_refl _) (Nat.le_of_ble_eq_true rfl) dX6_copy_77 ?_
          exact zZ_iret C hR (Nat.le_refl _) (Nat.le_refl _) dX6_copy_80 rfl (zIs_I (uRc (show fCopy (VI I) p r i j k = -3 by (try simp only [decide_eq_true_eq, decide_eq_false_iff_not, bI] at *); (rw [fCp_V]; first | exact if_pos (by omega) | (rw [if_neg (by omega)]; first | exact if_pos (by omega) | (rw [if_neg (by omega)]; first | exact if_pos (by omega) | (rw [if_neg (by omega)]; first | exact if_pos (by omega) | exact if_neg (by omega)))))) (by decide)).symm (by rw [uKc (show fCopy (VI I) p r i j k = -3 by (try simp only [decide_eq_true_eq, decide_eq_false_iff_not, bI] at *); (rw [fCp_V]; first | exact if_pos (by omega) | (rw [if_neg (by omega)]; first | exact if_pos (by omega) | (rw [if_neg (by omega)]; first | exact if_pos (by omega) | (rw [if_neg (by omega)]; first | exact if_pos (by omega) | exact if_neg (by omega)))))) (by decide), uJc (show fCopy (VI I) p r i j k = -3 by (try simp only [decide_eq_true_eq, decide_eq_false_iff_not, bI] at *); (rw [fCp_V]; first | exact if_pos (by omega) | (rw [if_neg (by omega)]; first | exact if_pos (by omega) | (rw [if_neg (by omega)]; first | exact if_pos (by omega) | (rw [if_neg (by omega)]; first | exact if_pos (by omega) | exact if_neg (by omega)))))) (by decide)]))
        · refine z_aload_n C 0 rfl dX6_copy_43 rfl ?_
          refine z_iload_n C 1 rfl dX6_copy_44 rfl ?_
          refine y_callV1 C oX6_isRow iX6_isRow eX6_isRow lkX6_87 (c_X6_isRow hrl (by first | assumption | omega)) rfl (by decide) rfl rfl (by decide) (Nat.le_refl _) (Nat.le_refl _) (Nat.le_of_ble_eq_true rfl) dX6_copy_45 ?_
          refine y_if_eqB C 81 dX6_copy_48 (by decide) (fun h48 => ?_) (fun h48 => ?_)
          · refine z_aload_n C 0 rfl dX6_copy_81 rfl ?_
            refine y_getR C zCl6 18 flX6_26 rfl rfl rfl dX6_copy_82 ?_
            refine z_iload_n C 1 rfl dX6_copy_85 rfl ?_
            refine y_iald C p.toNat (by omega) rfl (by omega) (by decide) dX6_copy_86 ?_
            refine z_if_lt C 99 dX6_copy_87 (by decide) (by omega) (fun h87 => ?_) (fun h87 => ?_)
            · refine z_aload_n C 0 rfl dX6_copy_99 rfl ?_
              refine z_bipush C dX6_copy_100 (by decide) ?_
              refine y_callV1 C oX6_no iX6_no eX6_no lkX6_83 (c_X6_no (by first | assumption | omega)) rfl (by decide) rfl rfl (by decide) (Nat.le_refl _) (Nat.le_refl _) (Nat.le_of_ble_eq_true rfl) dX6_copy_102 ?_
              exact zZ_iret C hR (Nat.le_refl _) (Nat.le_refl _) dX6_copy_105 rfl (zIs_I (uRc (show fCopy (VI I) p r i j k = -4 by (try simp only [decide_eq_true_eq, decide_eq_false_iff_not, bI] at *); (rw [fCp_V]; first | exact if_pos (by omega) | (rw [if_neg (by omega)]; first | exact if_pos (by omega) | (rw [if_neg (by omega)]; first | exact if_pos (by omega) | (rw [if_neg (by omega)]; first | exact if_pos (by omega) | exact if_neg (by omega)))))) (by decide)).symm (by rw [uKc (show fCopy (VI I) p r i j k = -4 by (try simp only [decide_eq_true_eq, decide_eq_false_iff_not, bI] at *); (rw [fCp_V]; first | exact if_pos (by omega) | (rw [if_neg (by omega)]; first | exact if_pos (by omega) | (rw [if_neg (by omega)]; first | exact if_pos (by omega) | (rw [if_neg (by omega)]; first | exact if_pos (by omega) | exact if_neg (by omega)))))) (by decide), uJc (show fCopy (VI I) p r i j k = -4 by (try simp only [decide_eq_true_eq, decide_eq_false_iff_not, bI] at *); (rw [fCp_V]; first | exact if_pos (by omega) | (rw [if_neg (by omega)]; first | exact if_pos (by omega) | (rw [if_neg (by omega)]; first | exact if_pos (by omega) | (rw [if_neg (by omega)]; first | exact if_pos (by omega) | exact if_neg (by omega)))))) (by decide)]))
            · refine z_aload_n C 0 rfl dX6_copy_90 rfl ?_
              refine y_getR C zCl6 18 flX6_26 rfl rfl rfl dX6_copy_91 ?_
              refine z_iload_n C 2 rfl dX6_copy_94 rfl ?_
              refine y_iald C r.toNat (by omega) rfl (by omega) (by decide) dX6_copy_95 ?_
              refine z_if_ge C 106 dX6_copy_96 (by decide) (by omega) (fun h96 => ?_) (fun h96 => ?_)
              · refine z_iload C 5 rfl dX6_copy_106 ?_
                refine z_if_lt C 155 dX6_copy_108 (by decide) (by omega) (fun h108 => ?_) (fun h108 => ?_)
                · refine z_aload_n C 0 rfl dX6_copy_155 rfl ?_
                  refine z_bipush C dX6_copy_156 (by decide) ?_
                  refine y_callV1 C oX6_no iX6_no eX6_no lkX6_83 (c_X6_no (by first | assumption | omega)) rfl (by decide) rfl rfl (by decide) (Nat.le_refl _) (Nat.le_refl _) (Nat.le_of_ble_eq_true rfl) dX6_copy_158 ?_
                  exact zZ_iret C hR (Nat.le_refl _) (Nat.le_refl _) dX6_copy_161 rfl (zIs_I (uRc (show fCopy (VI I) p r i j k = -2 by (try simp only [decide_eq_true_eq, decide_eq_false_iff_not, bI] at *); (rw [fCp_V]; first | exact if_pos (by omega) | (rw [if_neg (by omega)]; first | exact if_pos (by omega) | (rw [if_neg (by omega)]; first | exact if_pos (by omega) | (rw [if_neg (by omega)]; first | exact if_pos (by omega) | exact if_neg (by omega)))))) (by decide)).symm (by rw [uKc (show fCopy (VI I) p r i j k = -2 by (try simp only [decide_eq_true_eq, decide_eq_false_iff_not, bI] at *); (rw [fCp_V]; first | exact if_pos (by omega) | (rw [if_neg (by omega)]; first | exact if_pos (by omega) | (rw [if_neg (by omega)]; first | exact if_pos (by omega) | (rw [if_neg (by omega)]; first | exact if_pos (by omega) | exact if_neg (by omega)))))) (by decide), uJc (show fCopy (VI I) p r i j k = -2 by (try simp only [decide_eq_true_eq, decide_eq_false_iff_not, bI] at *); (rw [fCp_V]; first | exact if_pos (by omega) | (rw [if_neg (by omega)]; first | exact if_pos (by omega) | (rw [if_neg (by omega)]; first | exact if_pos (by omega) | (rw [if_neg (by omega)]; first | exact if_pos (by omega) | exact if_neg (by omega)))))) (by decide)]))
                · refine z_iload_n C 3 rfl dX6_copy_111 rfl ?_
                  refine z_if_lt C 155 dX6_copy_112 (by decide) (by omega) (fun h112 => ?_) (fun h112 => ?_)
                  · refine z_aload_n C 0 rfl dX6_copy_155 rfl ?_
                    refine z_bipush C dX6_copy_156 (by decide) ?_
                    refine y_callV1 C oX6_no iX6_no eX6_no lkX6_83 (c_X6_no (by first | assumption | omega)) rfl (by decide) rfl rfl (by decide) (Nat.le_refl _) (Nat.le_refl _) (Nat.le_of_ble_eq_true rfl) dX6_copy_158 ?_
                    exact zZ_iret C hR (Nat.le_refl _) (Nat.le_refl _) dX6_copy_161 rfl (zIs_I (uRc (show fCopy (VI I) p r i j k = -2 by (try simp only [decide_eq_true_eq, decide_eq_false_iff_not, bI] at *); (rw [fCp_V]; first | exact if_pos (by omega) | (rw [if_neg (by omega)]; first | exact if_pos (by omega) | (rw [if_neg (by omega)]; first | exact if_pos (by omega) | (rw [if_neg (by omega)]; first | exact if_pos (by omega) | exact if_neg (by omega)))))) (by decide)).symm (by rw [uKc (show fCopy (VI I) p r i j k = -2 by (try simp only [decide_eq_true_eq, decide_eq_false_iff_not, bI] at *); (rw [fCp_V]; first | exact if_pos (by omega) | (rw [if_neg (by omega)]; first | exact if_pos (by omega) | (rw [if_neg (by omega)]; first | exact if_pos (by omega) | (rw [if_neg (by omega)]; first | exact if_pos (by omega) | exact if_neg (by omega)))))) (by decide), uJc (show fCopy (VI I) p r i j k = -2 by (try simp only [decide_eq_true_eq, decide_eq_false_iff_not, bI] at *); (rw [fCp_V]; first | exact if_pos (by omega) | (rw [if_neg (by omega)]; first | exact if_pos (by omega) | (rw [if_neg (by omega)]; first | exact if_pos (by omega) | (rw [if_neg (by omega)]; first | exact if_pos (by omega) | exact if_neg (by omega)))))) (by decide)]))
                  · refine z_iload C 4 rfl dX6_copy_115 ?_
                    refine z_if_lt C 155 dX6_copy_117 (by decide) (by omega) (fun h117 => ?_) (fun h117 => ?_)
                    · refine z_aload_n C 0 rfl dX6_copy_155 rfl ?_
                      refine z_bipush C dX6_copy_156 (by decide) ?_
                      refine y_callV1 C oX6_no iX6_no eX6_no lkX6_83 (c_X6_no (by first | assumption | omega)) rfl (by decide) rfl rfl (by decide) (Nat.le_refl _) (Nat.le_refl _) (Nat.le_of_ble_eq_true rfl) dX6_copy_158 ?_
                      exact zZ_iret C hR (Nat.le_refl _) (Nat.le_refl _) dX6_copy_161 rfl (zIs_I (uRc (show fCopy (VI I) p r i j k = -2 by (try simp only [decide_eq_true_eq, decide_eq_false_iff_not, bI] at *); (rw [fCp_V]; first | exact if_pos (by omega) | (rw [if_neg (by omega)]; first | exact if_pos (by omega) | (rw [if_neg (by omega)]; first | exact if_pos (by omega) | (rw [if_neg (by omega)]; first | exact if_pos (by omega) | exact if_neg (by omega)))))) (by decide)).symm (by rw [uKc (show fCopy (VI I) p r i j k = -2 by (try simp only [decide_eq_true_eq, decide_eq_false_iff_not, bI] at *); (rw [fCp_V]; first | exact if_pos (by omega) | (rw [if_neg (by omega)]; first | exact if_pos (by omega) | (rw [if_neg (by omega)]; first | exact if_pos (by omega) | (rw [if_neg (by omega)]; first | exact if_pos (by omega) | exact if_neg (by omega)))))) (by decide), uJc (show fCopy (VI I) p r i j k = -2 by (try simp only [decide_eq_true_eq, decide_eq_false_iff_not, bI] at *); (rw [fCp_V]; first | exact if_pos (by omega) | (rw [if_neg (by omega)]; first | exact if_pos (by omega) | (rw [if_neg (by omega)]; first | exact if_pos (by omega) | (rw [if_neg (by omega)]; first | exact if_pos (by omega) | exact if_neg (by omega)))))) (by decide)]))
                    · have hc1 := i64_add (a := i) (b := k) (c := I 65 p.toNat) (by omega) (by omega) (by omega)
                      have hc2 := i64_add (a := j) (b := k) (c := I 65 r.toNat) (by omega) (by omega) (by omega)
                      refine z_iload_n C 3 rfl dX6_copy_120 rfl ?_
                      refine z_i2l C ((iI i).toInt64) dX6_copy_121 rfl ?_
                      refine z_iload C 5 rfl dX6_copy_122 ?_
                      refine z_i2l C ((iI k).toInt64) dX6_copy_124 rfl ?_
                      refine z_ladd C dX6_copy_125 ?_
                      refine z_aload_n C 0 rfl dX6_copy_126 rfl ?_
                      refine y_getR C zCl6 19 flX6_29 rfl rfl rfl dX6_copy_127 ?_
                      refine z_iload_n C 1 rfl dX6_copy_130 rfl ?_
                      refine y_iald C p.toNat (by omega) rfl (by omega) (by decide) dX6_copy_131 ?_
                      refine z_i2l C ((iI (I 65 p.toNat)).toInt64) dX6_copy_132 rfl ?_
                      refine z_lcmp_gt C 155 dX6_copy_133 dX6_copy_134 (by decide) (fun h133 => ?_) (fun h133 => ?_)
                      · have hx := hc1.2.mp h133
                        refine z_aload_n C 0 rfl dX6_copy_155 rfl ?_
                        refine z_bipush C dX6_copy_156 (by decide) ?_
                        refine y_callV1 C oX6_no iX6_no eX6_no lkX6_83 (c_X6_no (by first | assumption | omega)) rfl (by decide) rfl rfl (by decide) (Nat.le_refl _) (Nat.le_refl _) (Nat.le_of_ble_eq_true rfl) dX6_copy_158 ?_
                        exact zZ_iret C hR (Nat.le_refl _) (Nat.le_refl _) dX6_copy_161 rfl (zIs_I (uRc (show fCopy (VI I) p r i j k = -2 by (try simp only [decide_eq_true_eq, decide_eq_false_iff_not, bI] at *); (rw [fCp_V]; first | exact if_pos (by omega) | (rw [if_neg (by omega)]; first | exact if_pos (by omega) | (rw [if_neg (by omega)]; first | exact if_pos (by omega) | (rw [if_neg (by omega)]; first | exact if_pos (by omega) | exact if_neg (by omega)))))) (by decide)).symm (by rw [uKc (show fCopy (VI I) p r i j k = -2 by (try simp only [decide_eq_true_eq, decide_eq_false_iff_not, bI] at *); (rw [fCp_V]; first | exact if_pos (by omega) | (rw [if_neg (by omega)]; first | exact if_pos (by omega) | (rw [if_neg (by omega)]; first | exact if_pos (by omega) | (rw [if_neg (by omega)]; first | exact if_pos (by omega) | exact if_neg (by omega)))))) (by decide), uJc (show fCopy (VI I) p r i j k = -2 by (try simp only [decide_eq_true_eq, decide_eq_false_iff_not, bI] at *); (rw [fCp_V]; first | exact if_pos (by omega) | (rw [if_neg (by omega)]; first | exact if_pos (by omega) | (rw [if_neg (by omega)]; first | exact if_pos (by omega) | (rw [if_neg (by omega)]; first | exact if_pos (by omega) | exact if_neg (by omega)))))) (by decide)]))
                      · refine z_iload C 4 rfl dX6_copy_137 ?_
                        refine z_i2l C ((iI j).toInt64) dX6_copy_139 rfl ?_
                        refine z_iload C 5 rfl dX6_copy_140 ?_
                        refine z_i2l C ((iI k).toInt64) dX6_copy_142 rfl ?_
                        refine z_ladd C dX6_copy_143 ?_
                        refine z_aload_n C 0 rfl dX6_copy_144 rfl ?_
                        refine y_getR C zCl6 19 flX6_29 rfl rfl rfl dX6_copy_145 ?_
                        refine z_iload_n C 2 rfl dX6_copy_148 rfl ?_
                        refine y_iald C r.toNat (by omega) rfl (by omega) (by decide) dX6_copy_149 ?_
                        refine z_i2l C ((iI (I 65 r.toNat)).toInt64) dX6_copy_150 rfl ?_
                        refine z_lcmp_le C 162 dX6_copy_151 dX6_copy_152 (by decide) (fun h151 => ?_) (fun h151 => ?_)
                        · have hx1 : i + k ≤ I 65 p.toNat := Int.not_lt.mp (fun z => h133 (hc1.2.mpr z))
                          have hx2 := hc2.1.mp h151
                          obtain ⟨pn, hpn⟩ : ∃ k : Nat, p = k := ⟨p.toNat, by omega⟩
                          obtain ⟨rn, hrn⟩ : ∃ k : Nat, r = k := ⟨r.toNat, by omega⟩
                          obtain ⟨xi, hxi⟩ : ∃ k : Nat, i = k := ⟨i.toNat, by omega⟩
                          obtain ⟨xj, hxj⟩ : ∃ k : Nat, j = k := ⟨j.toNat, by omega⟩
                          obtain ⟨kn, hkn⟩ : ∃ x : Nat, k = x := ⟨k.toNat, by omega⟩
                          have hpt : p.toNat = pn := by omega
                          have hrt : r.toNat = rn := by omega
                          have hit : i.toNat = xi := by omega
                          have hjt : j.toNat = xj := by omega
                          have hkt : k.toNat = kn := by omega
                          rw [hpn, hrn, hxi, hxj, hkn]
                          refine z_iload_n C 1 rfl dX6_copy_162 rfl ?_
                          refine z_iload_n C 2 rfl dX6_copy_163 rfl ?_
                          refine z_icmp_ne C 222 dX6_copy_164 (by decide) (by omega) (by omega) (fun h164 => ?_) (fun h164 => ?_)
                          · refine z_iconst C dX6_copy_222 ?_
                            refine z_istore C [(6, .int (iI 0)), (0, .ref 58), (1, .int (iI ((pn : Int)))), (2, .int (iI ((rn : Int)))), (3, .int (iI ((xi : Int)))), (4, .int (iI ((xj : Int)))), (5, .int (iI ((kn : Int))))] dX6_copy_223 (by decide) rfl ?_
                            refine zZ_sub [1, 2, 3, 4, 5, 6, 0] rfl ?_
                            refine zZ_cast (σ' := (fun e : Nat => zst I (cpR J (40 * pn + xi) (40 * rn + xj) e) q) 0) (L' := (fun e : Nat => [(0, .ref 58), (1, .int (iI ((pn : Int)))), (2, .int (iI ((rn : Int)))), (3, .int (iI ((xi : Int)))), (4, .int (iI ((xj : Int)))), (5, .int (iI ((kn : Int)))), (6, .int (iI (e : Int)))]) 0) (by refine congrArg (fun J' => zst I J' q) ?_; exact cpR_0.symm) rfl rfl ?_
                            refine zfor (kn) (fun _ => True) (fun e : Nat => zst I (cpR J (40 * pn + xi) (40 * rn + xj) e) q) (fun e : Nat => [(0, .ref 58), (1, .int (iI ((pn : Int)))), (2, .int (iI ((rn : Int)))), (3, .int (iI ((xi : Int)))), (4, .int (iI ((xj : Int)))), (5, .int (iI ((kn : Int)))), (6, .int (iI (e : Int)))]) trivial ?_ ?_
                            · intro e hee hpe kke
                              have hse : 40 * pn + xi + e < 40 * rn + xj ∨ 40 * rn + xj + e ≤ 40 * pn + xi + e := by omega
                              refine z_iload C 6 rfl dX6_copy_225 ?_
                              refine z_iload C 5 rfl dX6_copy_227 ?_
                              refine z_icmp_ge C 267 dX6_copy_229 (by decide) (by omega) (by omega) (fun h229 => ?_) (fun h229 => ?_)
                              · omega
                              · refine z_aload_n C 0 rfl dX6_copy_232 rfl ?_
                                refine y_getR C zCl6 20 flX6_32 rfl rfl rfl dX6_copy_233 ?_
                                refine z_bipush C dX6_copy_236 (by decide) ?_
                                refine z_iload_n C 2 rfl dX6_copy_238 rfl ?_
                                refine z_imul C dX6_copy_239 ?_
                                refine z_iload C 4 rfl dX6_copy_240 ?_
                                refine z_iadd C dX6_copy_242 ?_
                                refine z_iload C 6 rfl dX6_copy_243 ?_
                                refine z_iadd C dX6_copy_245 ?_
                                refine z_aload_n C 0 rfl dX6_copy_246 rfl ?_
                                refine y_getR C zCl6 20 flX6_32 rfl rfl rfl dX6_copy_247 ?_
                                refine z_bipush C dX6_copy_250 (by decide) ?_
                                refine z_iload_n C 1 rfl dX6_copy_252 rfl ?_
                                refine z_imul C dX6_copy_253 ?_
                                refine z_iload_n C 3 rfl dX6_copy_254 rfl ?_
                                refine z_iadd C dX6_copy_255 ?_
                                refine z_iload C 6 rfl dX6_copy_256 ?_
                                refine z_iadd C dX6_copy_258 ?_
                                refine y_lald C (40 * pn + xi + e) (by omega) rfl (by omega) (by decide) dX6_copy_259 ?_
                                refine y_last C (40 * rn + xj + e) (by omega) rfl (by omega) (by decide) dX6_copy_260 ?_
                                obtain ⟨v1, ev1⟩ : ∃ y : Int, y = (e : Int) + 1 := ⟨_, rfl⟩
                                refine z_iinc C 6 v1 [(6, .int (iI v1)), (0, .ref 58), (1, .int (iI ((pn : Int)))), (2, .int (iI ((rn : Int)))), (3, .int (iI ((xi : Int)))), (4, .int (iI ((xj : Int)))), (5, .int (iI ((kn : Int))))] dX6_copy_261 rfl ev1.symm (by decide) rfl ?_
                                refine z_goto C 225 dX6_copy_264 (by decide) ?_
                                refine zZ_sub [1, 2, 3, 4, 5, 6, 0] rfl ?_
                                refine zZ_cast (by refine congrArg (fun J' => zst I J' q) ?_; exact cpR_s hse) (zLk (zLk (zLk (zLk (zLk (zLk (zLc (by omega) rfl))))))) rfl (kke trivial)
                            · intro hpe
                              refine z_iload C 6 rfl dX6_copy_225 ?_
                              refine z_iload C 5 rfl dX6_copy_227 ?_
                              refine z_icmp_ge C 267 dX6_copy_229 (by decide) (by omega) (by omega) (fun h229 => ?_) (fun h229 => ?_)
                              · refine z_iload C 5 rfl dX6_copy_267 ?_
                                exact zZ_iret C hR (Nat.le_refl _) (Nat.le_refl _) dX6_copy_269 rfl (zIs_I (by rw [uR0 (show fCopy (VI I) p r i j k = 0 by (try simp only [decide_eq_true_eq, decide_eq_false_iff_not, bI] at *); (rw [fCp_V]; first | exact if_pos (by omega) | (rw [if_neg (by omega)]; first | exact if_pos (by omega) | (rw [if_neg (by omega)]; first | exact if_pos (by omega) | (rw [if_neg (by omega)]; first | exact if_pos (by omega) | exact if_neg (by omega))))))]; omega) (by rw [uK0 (show fCopy (VI I) p r i j k = 0 by (try simp only [decide_eq_true_eq, decide_eq_false_iff_not, bI] at *); (rw [fCp_V]; first | exact if_pos (by omega) | (rw [if_neg (by omega)]; first | exact if_pos (by omega) | (rw [if_neg (by omega)]; first | exact if_pos (by omega) | (rw [if_neg (by omega)]; first | exact if_pos (by omega) | exact if_neg (by omega)))))), uJ0 (show fCopy (VI I) p r i j k = 0 by (try simp only [decide_eq_true_eq, decide_eq_false_iff_not, bI] at *); (rw [fCp_V]; first | exact if_pos (by omega) | (rw [if_neg (by omega)]; first | exact if_pos (by omega) | (rw [if_neg (by omega)]; first | exact if_pos (by omega) | (rw [if_neg (by omega)]; first | exact if_pos (by omega) | exact if_neg (by omega))))))]; (first | done | (rw [hpt, hrt, hit, hjt, hkt]))))
                              · omega
                          · refine z_iload_n C 3 rfl dX6_copy_167 rfl ?_
                            refine z_iload C 4 rfl dX6_copy_168 ?_
                            refine z_icmp_ge C 222 dX6_copy_170 (by decide) (by omega) (by omega) (fun h170 => ?_) (fun h170 => ?_)
                            · refine z_iconst C dX6_copy_222 ?_
                              refine z_istore C [(6, .int (iI 0)), (0, .ref 58), (1, .int (iI ((pn : Int)))), (2, .int (iI ((rn : Int)))), (3, .int (iI ((xi : Int)))), (4, .int (iI ((xj : Int)))), (5, .int (iI ((kn : Int))))] dX6_copy_223 (by decide) rfl ?_
                              refine zZ_sub [1, 2, 3, 4, 5, 6, 0] rfl ?_
                              refine zZ_cast (σ' := (fun e : Nat => zst I (cpR J (40 * pn + xi) (40 * rn + xj) e) q) 0) (L' := (fun e : Nat => [(0, .ref 58), (1, .int (iI ((pn : Int)))), (2, .int (iI ((rn : Int)))), (3, .int (iI ((xi : Int)))), (4, .int (iI ((xj : Int)))), (5, .int (iI ((kn : Int)))), (6, .int (iI (e : Int)))]) 0) (by refine congrArg (fun J' => zst I J' q) ?_; exact cpR_0.symm) rfl rfl ?_
                              refine zfor (kn) (fun _ => True) (fun e : Nat => zst I (cpR J (40 * pn + xi) (40 * rn + xj) e) q) (fun e : Nat => [(0, .ref 58), (1, .int (iI ((pn : Int)))), (2, .int (iI ((rn : Int)))), (3, .int (iI ((xi : Int)))), (4, .int (iI ((xj : Int)))), (5, .int (iI ((kn : Int)))), (6, .int (iI (e : Int)))]) trivial ?_ ?_
                              · intro e hee hpe kke
                                have hse : 40 * pn + xi + e < 40 * rn + xj ∨ 40 * rn + xj + e ≤ 40 * pn + xi + e := by omega
                                refine z_iload C 6 rfl dX6_copy_225 ?_
                                refine z_iload C 5 rfl dX6_copy_227 ?_
                                refine z_icmp_ge C 267 dX6_copy_229 (by decide) (by omega) (by omega) (fun h229 => ?_) (fun h229 => ?_)
                                · omega
                                · refine z_aload_n C 0 rfl dX6_copy_232 rfl ?_
                                  refine y_getR C zCl6 20 flX6_32 rfl rfl rfl dX6_copy_233 ?_
                                  refine z_bipush C dX6_copy_236 (by decide) ?_
                                  refine z_iload_n C 2 rfl dX6_copy_238 rfl ?_
                                  refine z_imul C dX6_copy_239 ?_
                                  refine z_iload C 4 rfl dX6_copy_240 ?_
                                  refine z_iadd C dX6_copy_242 ?_
                                  refine z_iload C 6 rfl dX6_copy_243 ?_
                                  refine z_iadd C dX6_copy_245 ?_
                                  refine z_aload_n C 0 rfl dX6_copy_246 rfl ?_
                                  refine y_getR C zCl6 20 flX6_32 rfl rfl rfl dX6_copy_247 ?_
                                  refine z_bipush C dX6_copy_250 (by decide) ?_
                                  refine z_iload_n C 1 rfl dX6_copy_252 rfl ?_
                                  refine z_imul C dX6_copy_253 ?_
                                  refine z_iload_n C 3 rfl dX6_copy_254 rfl ?_
                                  refine z_iadd C dX6_copy_255 ?_
                                  refine z_iload C 6 rfl dX6_copy_256 ?_
                                  refine z_iadd C dX6_copy_258 ?_
                                  refine y_lald C (40 * pn + xi + e) (by omega) rfl (by omega) (by decide) dX6_copy_259 ?_
                                  refine y_last C (40 * rn + xj + e) (by omega) rfl (by omega) (by decide) dX6_copy_260 ?_
                                  obtain ⟨v2, ev2⟩ : ∃ y : Int, y = (e : Int) + 1 := ⟨_, rfl⟩
                                  refine z_iinc C 6 v2 [(6, .int (iI v2)), (0, .ref 58), (1, .int (iI ((pn : Int)))), (2, .int (iI ((rn : Int)))), (3, .int (iI ((xi : Int)))), (4, .int (iI ((xj : Int)))), (5, .int (iI ((kn : Int))))] dX6_copy_261 rfl ev2.symm (by decide) rfl ?_
                                  refine z_goto C 225 dX6_copy_264 (by decide) ?_
                                  refine zZ_sub [1, 2, 3, 4, 5, 6, 0] rfl ?_
                                  refine zZ_cast (by refine congrArg (fun J' => zst I J' q) ?_; exact cpR_s hse) (zLk (zLk (zLk (zLk (zLk (zLk (zLc (by omega) rfl))))))) rfl (kke trivial)
                              · intro hpe
                                refine z_iload C 6 rfl dX6_copy_225 ?_
                                refine z_iload C 5 rfl dX6_copy_227 ?_
                                refine z_icmp_ge C 267 dX6_copy_229 (by decide) (by omega) (by omega) (fun h229 => ?_) (fun h229 => ?_)
                                · refine z_iload C 5 rfl dX6_copy_267 ?_
                                  exact zZ_iret C hR (Nat.le_refl _) (Nat.le_refl _) dX6_copy_269 rfl (zIs_I (by rw [uR0 (show fCopy (VI I) p r i j k = 0 by (try simp only [decide_eq_true_eq, decide_eq_false_iff_not, bI] at *); (rw [fCp_V]; first | exact if_pos (by omega) | (rw [if_neg (by omega)]; first | exact if_pos (by omega) | (rw [if_neg (by omega)]; first | exact if_pos (by omega) | (rw [if_neg (by omega)]; first | exact if_pos (by omega) | exact if_neg (by omega))))))]; omega) (by rw [uK0 (show fCopy (VI I) p r i j k = 0 by (try simp only [decide_eq_true_eq, decide_eq_false_iff_not, bI] at *); (rw [fCp_V]; first | exact if_pos (by omega) | (rw [if_neg (by omega)]; first | exact if_pos (by omega) | (rw [if_neg (by omega)]; first | exact if_pos (by omega) | (rw [if_neg (by omega)]; first | exact if_pos (by omega) | exact if_neg (by omega)))))), uJ0 (show fCopy (VI I) p r i j k = 0 by (try simp only [decide_eq_true_eq, decide_eq_false_iff_not, bI] at *); (rw [fCp_V]; first | exact if_pos (by omega) | (rw [if_neg (by omega)]; first | exact if_pos (by omega) | (rw [if_neg (by omega)]; first | exact if_pos (by omega) | (rw [if_neg (by omega)]; first | exact if_pos (by omega) | exact if_neg (by omega))))))]; (first | done | (rw [hpt, hrt, hit, hjt, hkt]))))
                                · omega
                            · refine z_iload C 5 rfl dX6_copy_173 ?_
                              refine z_iconst C dX6_copy_175 ?_
                              refine z_isub C dX6_copy_176 ?_
                              refine z_istore C [(6, .int (iI (((kn : Int)) - 1))), (0, .ref 58), (1, .int (iI ((pn : Int)))), (2, .int (iI ((rn : Int)))), (3, .int (iI ((xi : Int)))), (4, .int (iI ((xj : Int)))), (5, .int (iI ((kn : Int))))] dX6_copy_177 (by decide) rfl ?_
                              refine zZ_sub [1, 2, 3, 4, 5, 6, 0] rfl ?_
                              refine zZ_cast (σ' := (fun e : Nat => zst I (cpB J (40 * pn + xi) (40 * rn + xj) kn e) q) 0) (L' := (fun e : Nat => [(0, .ref 58), (1, .int (iI ((pn : Int)))), (2, .int (iI ((rn : Int)))), (3, .int (iI ((xi : Int)))), (4, .int (iI ((xj : Int)))), (5, .int (iI ((kn : Int)))), (6, .int (iI ((kn : Int) - 1 - (e : Int))))]) 0) (by refine congrArg (fun J' => zst I J' q) ?_; exact cpB_0.symm) (by exact zLk (zLk (zLk (zLk (zLk (zLk (zLc (by omega) rfl))))))) rfl ?_
                              refine zfor (kn) (fun _ => True) (fun e : Nat => zst I (cpB J (40 * pn + xi) (40 * rn + xj) kn e) q) (fun e : Nat => [(0, .ref 58), (1, .int (iI ((pn : Int)))), (2, .int (iI ((rn : Int)))), (3, .int (iI ((xi : Int)))), (4, .int (iI ((xj : Int)))), (5, .int (iI ((kn : Int)))), (6, .int (iI ((kn : Int) - 1 - (e : Int))))]) trivial ?_ ?_
                              · intro e hee hpe kke
                                refine z_iload C 6 rfl dX6_copy_179 ?_
                                refine z_if_lt C 219 dX6_copy_181 (by decide) (by omega) (fun h181 => ?_) (fun h181 => ?_)
                                · omega
                                · refine z_aload_n C 0 rfl dX6_copy_184 rfl ?_
                                  refine y_getR C zCl6 20 flX6_32 rfl rfl rfl dX6_copy_185 ?_
                                  refine z_bipush C dX6_copy_188 (by decide) ?_
                                  refine z_iload_n C 2 rfl dX6_copy_190 rfl ?_
                                  refine z_imul C dX6_copy_191 ?_
                                  refine z_iload C 4 rfl dX6_copy_192 ?_
                                  refine z_iadd C dX6_copy_194 ?_
                                  refine z_iload C 6 rfl dX6_copy_195 ?_
                                  refine z_iadd C dX6_copy_197 ?_
                                  refine z_aload_n C 0 rfl dX6_copy_198 rfl ?_
                                  refine y_getR C zCl6 20 flX6_32 rfl rfl rfl dX6_copy_199 ?_
                                  refine z_bipush C dX6_copy_202 (by decide) ?_
                                  refine z_iload_n C 1 rfl dX6_copy_204 rfl ?_
                                  refine z_imul C dX6_copy_205 ?_
                                  refine z_iload_n C 3 rfl dX6_copy_206 rfl ?_
                                  refine z_iadd C dX6_copy_207 ?_
                                  refine z_iload C 6 rfl dX6_copy_208 ?_
                                  refine z_iadd C dX6_copy_210 ?_
                                  refine y_lald C (40 * pn + xi + (kn - 1 - e)) (by omega) rfl (by omega) (by decide) dX6_copy_211 ?_
                                  refine y_last C (40 * rn + xj + (kn - 1 - e)) (by omega) rfl (by omega) (by decide) dX6_copy_212 ?_
                                  obtain ⟨v3, ev3⟩ : ∃ y : Int, y = ((kn : Int) - 1 - (e : Int)) + (-1) := ⟨_, rfl⟩
                                  refine z_iinc C 6 v3 [(6, .int (iI v3)), (0, .ref 58), (1, .int (iI ((pn : Int)))), (2, .int (iI ((rn : Int)))), (3, .int (iI ((xi : Int)))), (4, .int (iI ((xj : Int)))), (5, .int (iI ((kn : Int))))] dX6_copy_213 rfl ev3.symm (by decide) rfl ?_
                                  refine z_goto C 179 dX6_copy_216 (by decide) ?_
                                  refine zZ_sub [1, 2, 3, 4, 5, 6, 0] rfl ?_
                                  refine zZ_cast (by refine congrArg (fun J' => zst I J' q) ?_; exact cpB_s (by omega) (by omega)) (zLk (zLk (zLk (zLk (zLk (zLk (zLc (by omega) rfl))))))) rfl (kke trivial)
                              · intro hpe
                                rw [cpB_n]
                                refine z_iload C 6 rfl dX6_copy_179 ?_
                                refine z_if_lt C 219 dX6_copy_181 (by decide) (by omega) (fun h181 => ?_) (fun h181 => ?_)
                                · refine z_goto C 267 dX6_copy_219 (by decide) ?_
                                  refine z_iload C 5 rfl dX6_copy_267 ?_
                                  exact zZ_iret C hR (Nat.le_refl _) (Nat.le_refl _) dX6_copy_269 rfl (zIs_I (by rw [uR0 (show fCopy (VI I) p r i j k = 0 by (try simp only [decide_eq_true_eq, decide_eq_false_iff_not, bI] at *); (rw [fCp_V]; first | exact if_pos (by omega) | (rw [if_neg (by omega)]; first | exact if_pos (by omega) | (rw [if_neg (by omega)]; first | exact if_pos (by omega) | (rw [if_neg (by omega)]; first | exact if_pos (by omega) | exact if_neg (by omega))))))]; omega) (by rw [uK0 (show fCopy (VI I) p r i j k = 0 by (try simp only [decide_eq_true_eq, decide_eq_false_iff_not, bI] at *); (rw [fCp_V]; first | exact if_pos (by omega) | (rw [if_neg (by omega)]; first | exact if_pos (by omega) | (rw [if_neg (by omega)]; first | exact if_pos (by omega) | (rw [if_neg (by omega)]; first | exact if_pos (by omega) | exact if_neg (by omega)))))), uJ0 (show fCopy (VI I) p r i j k = 0 by (try simp only [decide_eq_true_eq, decide_eq_false_iff_not, bI] at *); (rw [fCp_V]; first | exact if_pos (by omega) | (rw [if_neg (by omega)]; first | exact if_pos (by omega) | (rw [if_neg (by omega)]; first | exact if_pos (by omega) | (rw [if_neg (by omega)]; first | exact if_pos (by omega) | exact if_neg (by omega))))))]; (first | done | (rw [hpt, hrt, hit, hjt, hkt]))))
                                · omega
                        · have hx : ¬ (j + k ≤ I 65 r.toNat) := fun z => h151 (hc2.1.mpr z)
                          refine z_aload_n C 0 rfl dX6_copy_155 rfl ?_
                          refine z_bipush C dX6_copy_156 (by decide) ?_
                          refine y_callV1 C oX6_no iX6_no eX6_no lkX6_83 (c_X6_no (by first | assumption | omega)) rfl (by decide) rfl rfl (by decide) (Nat.le_refl _) (Nat.le_refl _) (Nat.le_of_ble_eq_true rfl) dX6_copy_158 ?_
                          exact zZ_iret C hR (Nat.le_refl _) (Nat.le_refl _) dX6_copy_161 rfl (zIs_I (uRc (show fCopy (VI I) p r i j k = -2 by (try simp only [decide_eq_true_eq, decide_eq_false_iff_not, bI] at *); (rw [fCp_V]; first | exact if_pos (by omega) | (rw [if_neg (by omega)]; first | exact if_pos (by omega) | (rw [if_neg (by omega)]; first | exact if_pos (by omega) | (rw [if_neg (by omega)]; first | exact if_pos (by omega) | exact if_neg (by omega)))))) (by decide)).symm (by rw [uKc (show fCopy (VI I) p r i j k = -2 by (try simp only [decide_eq_true_eq, decide_eq_false_iff_not, bI] at *); (rw [fCp_V]; first | exact if_pos (by omega) | (rw [if_neg (by omega)]; first | exact if_pos (by omega) | (rw [if_neg (by omega)]; first | exact if_pos (by omega) | (rw [if_neg (by omega)]; first | exact if_pos (by omega) | exact if_neg (by omega)))))) (by decide), uJc (show fCopy (VI I) p r i j k = -2 by (try simp only [decide_eq_true_eq, decide_eq_false_iff_not, bI] at *); (rw [fCp_V]; first | exact if_pos (by omega) | (rw [if_neg (by omega)]; first | exact if_pos (by omega) | (rw [if_neg (by omega)]; first | exact if_pos (by omega) | (rw [if_neg (by omega)]; first | exact if_pos (by omega) | exact if_neg (by omega)))))) (by decide)]))
              · refine z_aload_n C 0 rfl dX6_copy_99 rfl ?_
                refine z_bipush C dX6_copy_100 (by decide) ?_
                refine y_callV1 C oX6_no iX6_no eX6_no lkX6_83 (c_X6_no (by first | assumption | omega)) rfl (by decide) rfl rfl (by decide) (Nat.le_refl _) (Nat.le_refl _) (Nat.le_of_ble_eq_true rfl) dX6_copy_102 ?_
                exact zZ_iret C hR (Nat.le_refl _) (Nat.le_refl _) dX6_copy_105 rfl (zIs_I (uRc (show fCopy (VI I) p r i j k = -4 by (try simp only [decide_eq_true_eq, decide_eq_false_iff_not, bI] at *); (rw [fCp_V]; first | exact if_pos (by omega) | (rw [if_neg (by omega)]; first | exact if_pos (by omega) | (rw [if_neg (by omega)]; first | exact if_pos (by omega) | (rw [if_neg (by omega)]; first | exact if_pos (by omega) | exact if_neg (by omega)))))) (by decide)).symm (by rw [uKc (show fCopy (VI I) p r i j k = -4 by (try simp only [decide_eq_true_eq, decide_eq_false_iff_not, bI] at *); (rw [fCp_V]; first | exact if_pos (by omega) | (rw [if_neg (by omega)]; first | exact if_pos (by omega) | (rw [if_neg (by omega)]; first | exact if_pos (by omega) | (rw [if_neg (by omega)]; first | exact if_pos (by omega) | exact if_neg (by omega)))))) (by decide), uJc (show fCopy (VI I) p r i j k = -4 by (try simp only [decide_eq_true_eq, decide_eq_false_iff_not, bI] at *); (rw [fCp_V]; first | exact if_pos (by omega) | (rw [if_neg (by omega)]; first | exact if_pos (by omega) | (rw [if_neg (by omega)]; first | exact if_pos (by omega) | (rw [if_neg (by omega)]; first | exact if_pos (by omega) | exact if_neg (by omega)))))) (by decide)]))
          · refine z_aload_n C 0 rfl dX6_copy_51 rfl ?_
            refine z_iload_n C 2 rfl dX6_copy_52 rfl ?_
            refine y_callV1 C oX6_isRow iX6_isRow eX6_isRow lkX6_87 (c_X6_isRow hrl (by first | assumption | omega)) rfl (by decide) rfl rfl (by decide) (Nat.le_refl _) (Nat.le_refl _) (Nat.le_of_ble_eq_true rfl) dX6_copy_53 ?_
            refine y_if_eqB C 81 dX6_copy_56 (by decide) (fun h56 => ?_) (fun h56 => ?_)
            · refine z_aload_n C 0 rfl dX6_copy_81 rfl ?_
              refine y_getR C zCl6 18 flX6_26 rfl rfl rfl dX6_copy_82 ?_
              refine z_iload_n C 1 rfl dX6_copy_85 rfl ?_
              refine y_iald C p.toNat (by omega) rfl (by omega) (by decide) dX6_copy_86 ?_
              refine z_if_lt C 99 dX6_copy_87 (by decide) (by omega) (fun h87 => ?_) (fun h87 => ?_)
              · refine z_aload_n C 0 rfl dX6_copy_99 rfl ?_
                refine z_bipush C dX6_copy_100 (by decide) ?_
                refine y_callV1 C oX6_no iX6_no eX6_no lkX6_83 (c_X6_no (by first | assumption | omega)) rfl (by decide) rfl rfl (by decide) (Nat.le_refl _) (Nat.le_refl _) (Nat.le_of_ble_eq_true rfl) dX6_copy_102 ?_
                exact zZ_iret C hR (Nat.le_refl _) (Nat.le_refl _) dX6_copy_105 rfl (zIs_I (uRc (show fCopy (VI I) p r i j k = -4 by (try simp only [decide_eq_true_eq, decide_eq_false_iff_not, bI] at *); (rw [fCp_V]; first | exact if_pos (by omega) | (rw [if_neg (by omega)]; first | exact if_pos (by omega) | (rw [if_neg (by omega)]; first | exact if_pos (by omega) | (rw [if_neg (by omega)]; first | exact if_pos (by omega) | exact if_neg (by omega)))))) (by decide)).symm (by rw [uKc (show fCopy (VI I) p r i j k = -4 by (try simp only [decide_eq_true_eq, decide_eq_false_iff_not, bI] at *); (rw [fCp_V]; first | exact if_pos (by omega) | (rw [if_neg (by omega)]; first | exact if_pos (by omega) | (rw [if_neg (by omega)]; first | exact if_pos (by omega) | (rw [if_neg (by omega)]; first | exact if_pos (by omega) | exact if_neg (by omega)))))) (by decide), uJc (show fCopy (VI I) p r i j k = -4 by (try simp only [decide_eq_true_eq, decide_eq_false_iff_not, bI] at *); (rw [fCp_V]; first | exact if_pos (by omega) | (rw [if_neg (by omega)]; first | exact if_pos (by omega) | (rw [if_neg (by omega)]; first | exact if_pos (by omega) | (rw [if_neg (by omega)]; first | exact if_pos (by omega) | exact if_neg (by omega)))))) (by decide)]))
              · refine z_aload_n C 0 rfl dX6_copy_90 rfl ?_
                refine y_getR C zCl6 18 flX6_26 rfl rfl rfl dX6_copy_91 ?_
                refine z_iload_n C 2 rfl dX6_copy_94 rfl ?_
                refine y_iald C r.toNat (by omega) rfl (by omega) (by decide) dX6_copy_95 ?_
                refine z_if_ge C 106 dX6_copy_96 (by decide) (by omega) (fun h96 => ?_) (fun h96 => ?_)
                · refine z_iload C 5 rfl dX6_copy_106 ?_
                  refine z_if_lt C 155 dX6_copy_108 (by decide) (by omega) (fun h108 => ?_) (fun h108 => ?_)
                  · refine z_aload_n C 0 rfl dX6_copy_155 rfl ?_
                    refine z_bipush C dX6_copy_156 (by decide) ?_
                    refine y_callV1 C oX6_no iX6_no eX6_no lkX6_83 (c_X6_no (by first | assumption | omega)) rfl (by decide) rfl rfl (by decide) (Nat.le_refl _) (Nat.le_refl _) (Nat.le_of_ble_eq_true rfl) dX6_copy_158 ?_
                    exact zZ_iret C hR (Nat.le_refl _) (Nat.le_refl _) dX6_copy_161 rfl (zIs_I (uRc (show fCopy (VI I) p r i j k = -2 by (try simp only [decide_eq_true_eq, decide_eq_false_iff_not, bI] at *); (rw [fCp_V]; first | exact if_pos (by omega) | (rw [if_neg (by omega)]; first | exact if_pos (by omega) | (rw [if_neg (by omega)]; first | exact if_pos (by omega) | (rw [if_neg (by omega)]; first | exact if_pos (by omega) | exact if_neg (by omega)))))) (by decide)).symm (by rw [uKc (show fCopy (VI I) p r i j k = -2 by (try simp only [decide_eq_true_eq, decide_eq_false_iff_not, bI] at *); (rw [fCp_V]; first | exact if_pos (by omega) | (rw [if_neg (by omega)]; first | exact if_pos (by omega) | (rw [if_neg (by omega)]; first | exact if_pos (by omega) | (rw [if_neg (by omega)]; first | exact if_pos (by omega) | exact if_neg (by omega)))))) (by decide), uJc (show fCopy (VI I) p r i j k = -2 by (try simp only [decide_eq_true_eq, decide_eq_false_iff_not, bI] at *); (rw [fCp_V]; first | exact if_pos (by omega) | (rw [if_neg (by omega)]; first | exact if_pos (by omega) | (rw [if_neg (by omega)]; first | exact if_pos (by omega) | (rw [if_neg (by omega)]; first | exact if_pos (by omega) | exact if_neg (by omega)))))) (by decide)]))
                  · refine z_iload_n C 3 rfl dX6_copy_111 rfl ?_
                    refine z_if_lt C 155 dX6_copy_112 (by decide) (by omega) (fun h112 => ?_) (fun h112 => ?_)
                    · refine z_aload_n C 0 rfl dX6_copy_155 rfl ?_
                      refine z_bipush C dX6_copy_156 (by decide) ?_
                      refine y_callV1 C oX6_no iX6_no eX6_no lkX6_83 (c_X6_no (by first | assumption | omega)) rfl (by decide) rfl rfl (by decide) (Nat.le_refl _) (Nat.le_refl _) (Nat.le_of_ble_eq_true rfl) dX6_copy_158 ?_
                      exact zZ_iret C hR (Nat.le_refl _) (Nat.le_refl _) dX6_copy_161 rfl (zIs_I (uRc (show fCopy (VI I) p r i j k = -2 by (try simp only [decide_eq_true_eq, decide_eq_false_iff_not, bI] at *); (rw [fCp_V]; first | exact if_pos (by omega) | (rw [if_neg (by omega)]; first | exact if_pos (by omega) | (rw [if_neg (by omega)]; first | exact if_pos (by omega) | (rw [if_neg (by omega)]; first | exact if_pos (by omega) | exact if_neg (by omega)))))) (by decide)).symm (by rw [uKc (show fCopy (VI I) p r i j k = -2 by (try simp only [decide_eq_true_eq, decide_eq_false_iff_not, bI] at *); (rw [fCp_V]; first | exact if_pos (by omega) | (rw [if_neg (by omega)]; first | exact if_pos (by omega) | (rw [if_neg (by omega)]; first | exact if_pos (by omega) | (rw [if_neg (by omega)]; first | exact if_pos (by omega) | exact if_neg (by omega)))))) (by decide), uJc (show fCopy (VI I) p r i j k = -2 by (try simp only [decide_eq_true_eq, decide_eq_false_iff_not, bI] at *); (rw [fCp_V]; first | exact if_pos (by omega) | (rw [if_neg (by omega)]; first | exact if_pos (by omega) | (rw [if_neg (by omega)]; first | exact if_pos (by omega) | (rw [if_neg (by omega)]; first | exact if_pos (by omega) | exact if_neg (by omega)))))) (by decide)]))
                    · refine z_iload C 4 rfl dX6_copy_115 ?_
                      refine z_if_lt C 155 dX6_copy_117 (by decide) (by omega) (fun h117 => ?_) (fun h117 => ?_)
                      · refine z_aload_n C 0 rfl dX6_copy_155 rfl ?_
                        refine z_bipush C dX6_copy_156 (by decide) ?_
                        refine y_callV1 C oX6_no iX6_no eX6_no lkX6_83 (c_X6_no (by first | assumption | omega)) rfl (by decide) rfl rfl (by decide) (Nat.le_refl _) (Nat.le_refl _) (Nat.le_of_ble_eq_true rfl) dX6_copy_158 ?_
                        exact zZ_iret C hR (Nat.le_refl _) (Nat.le_refl _) dX6_copy_161 rfl (zIs_I (uRc (show fCopy (VI I) p r i j k = -2 by (try simp only [decide_eq_true_eq, decide_eq_false_iff_not, bI] at *); (rw [fCp_V]; first | exact if_pos (by omega) | (rw [if_neg (by omega)]; first | exact if_pos (by omega) | (rw [if_neg (by omega)]; first | exact if_pos (by omega) | (rw [if_neg (by omega)]; first | exact if_pos (by omega) | exact if_neg (by omega)))))) (by decide)).symm (by rw [uKc (show fCopy (VI I) p r i j k = -2 by (try simp only [decide_eq_true_eq, decide_eq_false_iff_not, bI] at *); (rw [fCp_V]; first | exact if_pos (by omega) | (rw [if_neg (by omega)]; first | exact if_pos (by omega) | (rw [if_neg (by omega)]; first | exact if_pos (by omega) | (rw [if_neg (by omega)]; first | exact if_pos (by omega) | exact if_neg (by omega)))))) (by decide), uJc (show fCopy (VI I) p r i j k = -2 by (try simp only [decide_eq_true_eq, decide_eq_false_iff_not, bI] at *); (rw [fCp_V]; first | exact if_pos (by omega) | (rw [if_neg (by omega)]; first | exact if_pos (by omega) | (rw [if_neg (by omega)]; first | exact if_pos (by omega) | (rw [if_neg (by omega)]; first | exact if_pos (by omega) | exact if_neg (by omega)))))) (by decide)]))
                      · have hc1 := i64_add (a := i) (b := k) (c := I 65 p.toNat) (by omega) (by omega) (by omega)
                        have hc2 := i64_add (a := j) (b := k) (c := I 65 r.toNat) (by omega) (by omega) (by omega)
                        refine z_iload_n C 3 rfl dX6_copy_120 rfl ?_
                        refine z_i2l C ((iI i).toInt64) dX6_copy_121 rfl ?_
                        refine z_iload C 5 rfl dX6_copy_122 ?_
                        refine z_i2l C ((iI k).toInt64) dX6_copy_124 rfl ?_
                        refine z_ladd C dX6_copy_125 ?_
                        refine z_aload_n C 0 rfl dX6_copy_126 rfl ?_
                        refine y_getR C zCl6 19 flX6_29 rfl rfl rfl dX6_copy_127 ?_
                        refine z_iload_n C 1 rfl dX6_copy_130 rfl ?_
                        refine y_iald C p.toNat (by omega) rfl (by omega) (by decide) dX6_copy_131 ?_
                        refine z_i2l C ((iI (I 65 p.toNat)).toInt64) dX6_copy_132 rfl ?_
                        refine z_lcmp_gt C 155 dX6_copy_133 dX6_copy_134 (by decide) (fun h133 => ?_) (fun h133 => ?_)
                        · have hx := hc1.2.mp h133
                          refine z_aload_n C 0 rfl dX6_copy_155 rfl ?_
                          refine z_bipush C dX6_copy_156 (by decide) ?_
                          refine y_callV1 C oX6_no iX6_no eX6_no lkX6_83 (c_X6_no (by first | assumption | omega)) rfl (by decide) rfl rfl (by decide) (Nat.le_refl _) (Nat.le_refl _) (Nat.le_of_ble_eq_true rfl) dX6_copy_158 ?_
                          exact zZ_iret C hR (Nat.le_refl _) (Nat.le_refl _) dX6_copy_161 rfl (zIs_I (uRc (show fCopy (VI I) p r i j k = -2 by (try simp only [decide_eq_true_eq, decide_eq_false_iff_not, bI] at *); (rw [fCp_V]; first | exact if_pos (by omega) | (rw [if_neg (by omega)]; first | exact if_pos (by omega) | (rw [if_neg (by omega)]; first | exact if_pos (by omega) | (rw [if_neg (by omega)]; first | exact if_pos (by omega) | exact if_neg (by omega)))))) (by decide)).symm (by rw [uKc (show fCopy (VI I) p r i j k = -2 by (try simp only [decide_eq_true_eq, decide_eq_false_iff_not, bI] at *); (rw [fCp_V]; first | exact if_pos (by omega) | (rw [if_neg (by omega)]; first | exact if_pos (by omega) | (rw [if_neg (by omega)]; first | exact if_pos (by omega) | (rw [if_neg (by omega)]; first | exact if_pos (by omega) | exact if_neg (by omega)))))) (by decide), uJc (show fCopy (VI I) p r i j k = -2 by (try simp only [decide_eq_true_eq, decide_eq_false_iff_not, bI] at *); (rw [fCp_V]; first | exact if_pos (by omega) | (rw [if_neg (by omega)]; first | exact if_pos (by omega) | (rw [if_neg (by omega)]; first | exact if_pos (by omega) | (rw [if_neg (by omega)]; first | exact if_pos (by omega) | exact if_neg (by omega)))))) (by decide)]))
                        · refine z_iload C 4 rfl dX6_copy_137 ?_
                          refine z_i2l C ((iI j).toInt64) dX6_copy_139 rfl ?_
                          refine z_iload C 5 rfl dX6_copy_140 ?_
                          refine z_i2l C ((iI k).toInt64) dX6_copy_142 rfl ?_
                          refine z_ladd C dX6_copy_143 ?_
                          refine z_aload_n C 0 rfl dX6_copy_144 rfl ?_
                          refine y_getR C zCl6 19 flX6_29 rfl rfl rfl dX6_copy_145 ?_
                          refine z_iload_n C 2 rfl dX6_copy_148 rfl ?_
                          refine y_iald C r.toNat (by omega) rfl (by omega) (by decide) dX6_copy_149 ?_
                          refine z_i2l C ((iI (I 65 r.toNat)).toInt64) dX6_copy_150 rfl ?_
                          refine z_lcmp_le C 162 dX6_copy_151 dX6_copy_152 (by decide) (fun h151 => ?_) (fun h151 => ?_)
                          · have hx1 : i + k ≤ I 65 p.toNat := Int.not_lt.mp (fun z => h133 (hc1.2.mpr z))
                            have hx2 := hc2.1.mp h151
                            obtain ⟨pn, hpn⟩ : ∃ k : Nat, p = k := ⟨p.toNat, by omega⟩
                            obtain ⟨rn, hrn⟩ : ∃ k : Nat, r = k := ⟨r.toNat, by omega⟩
                            obtain ⟨xi, hxi⟩ : ∃ k : Nat, i = k := ⟨i.toNat, by omega⟩
                            obtain ⟨xj, hxj⟩ : ∃ k : Nat, j = k := ⟨j.toNat, by omega⟩
                            obtain ⟨kn, hkn⟩ : ∃ x : Nat, k = x := ⟨k.toNat, by omega⟩
                            have hpt : p.toNat = pn := by omega
                            have hrt : r.toNat = rn := by omega
                            have hit : i.toNat = xi := by omega
                            have hjt : j.toNat = xj := by omega
                            have hkt : k.toNat = kn := by omega
                            rw [hpn, hrn, hxi, hxj, hkn]
                            refine z_iload_n C 1 rfl dX6_copy_162 rfl ?_
                            refine z_iload_n C 2 rfl dX6_copy_163 rfl ?_
                            refine z_icmp_ne C 222 dX6_copy_164 (by decide) (by omega) (by omega) (fun h164 => ?_) (fun h164 => ?_)
                            · refine z_iconst C dX6_copy_222 ?_
                              refine z_istore C [(6, .int (iI 0)), (0, .ref 58), (1, .int (iI ((pn : Int)))), (2, .int (iI ((rn : Int)))), (3, .int (iI ((xi : Int)))), (4, .int (iI ((xj : Int)))), (5, .int (iI ((kn : Int))))] dX6_copy_223 (by decide) rfl ?_
                              refine zZ_sub [1, 2, 3, 4, 5, 6, 0] rfl ?_
                              refine zZ_cast (σ' := (fun e : Nat => zst I (cpR J (40 * pn + xi) (40 * rn + xj) e) q) 0) (L' := (fun e : Nat => [(0, .ref 58), (1, .int (iI ((pn : Int)))), (2, .int (iI ((rn : Int)))), (3, .int (iI ((xi : Int)))), (4, .int (iI ((xj : Int)))), (5, .int (iI ((kn : Int)))), (6, .int (iI (e : Int)))]) 0) (by refine congrArg (fun J' => zst I J' q) ?_; exact cpR_0.symm) rfl rfl ?_
                              refine zfor (kn) (fun _ => True) (fun e : Nat => zst I (cpR J (40 * pn + xi) (40 * rn + xj) e) q) (fun e : Nat => [(0, .ref 58), (1, .int (iI ((pn : Int)))), (2, .int (iI ((rn : Int)))), (3, .int (iI ((xi : Int)))), (4, .int (iI ((xj : Int)))), (5, .int (iI ((kn : Int)))), (6, .int (iI (e : Int)))]) trivial ?_ ?_
                              · intro e hee hpe kke
                                have hse : 40 * pn + xi + e < 40 * rn + xj ∨ 40 * rn + xj + e ≤ 40 * pn + xi + e := by omega
                                refine z_iload C 6 rfl dX6_copy_225 ?_
                                refine z_iload C 5 rfl dX6_copy_227 ?_
                                refine z_icmp_ge C 267 dX6_copy_229 (by decide) (by omega) (by omega) (fun h229 => ?_) (fun h229 => ?_)
                                · omega
                                · refine z_aload_n C 0 rfl dX6_copy_232 rfl ?_
                                  refine y_getR C zCl6 20 flX6_32 rfl rfl rfl dX6_copy_233 ?_
                                  refine z_bipush C dX6_copy_236 (by decide) ?_
                                  refine z_iload_n C 2 rfl dX6_copy_238 rfl ?_
                                  refine z_imul C dX6_copy_239 ?_
                                  refine z_iload C 4 rfl dX6_copy_240 ?_
                                  refine z_iadd C dX6_copy_242 ?_
                                  refine z_iload C 6 rfl dX6_copy_243 ?_
                                  refine z_iadd C dX6_copy_245 ?_
                                  refine z_aload_n C 0 rfl dX6_copy_246 rfl ?_
                                  refine y_getR C zCl6 20 flX6_32 rfl rfl rfl dX6_copy_247 ?_
                                  refine z_bipush C dX6_copy_250 (by decide) ?_
                                  refine z_iload_n C 1 rfl dX6_copy_252 rfl ?_
                                  refine z_imul C dX6_copy_253 ?_
                                  refine z_iload_n C 3 rfl dX6_copy_254 rfl ?_
                                  refine z_iadd C dX6_copy_255 ?_
                                  refine z_iload C 6 rfl dX6_copy_256 ?_
                                  refine z_iadd C dX6_copy_258 ?_
                                  refine y_lald C (40 * pn + xi + e) (by omega) rfl (by omega) (by decide) dX6_copy_259 ?_
                                  refine y_last C (40 * rn + xj + e) (by omega) rfl (by omega) (by decide) dX6_copy_260 ?_
                                  obtain ⟨v4, ev4⟩ : ∃ y : Int, y = (e : Int) + 1 := ⟨_, rfl⟩
                                  refine z_iinc C 6 v4 [(6, .int (iI v4)), (0, .ref 58), (1, .int (iI ((pn : Int)))), (2, .int (iI ((rn : Int)))), (3, .int (iI ((xi : Int)))), (4, .int (iI ((xj : Int)))), (5, .int (iI ((kn : Int))))] dX6_copy_261 rfl ev4.symm (by decide) rfl ?_
                                  refine z_goto C 225 dX6_copy_264 (by decide) ?_
                                  refine zZ_sub [1, 2, 3, 4, 5, 6, 0] rfl ?_
                                  refine zZ_cast (by refine congrArg (fun J' => zst I J' q) ?_; exact cpR_s hse) (zLk (zLk (zLk (zLk (zLk (zLk (zLc (by omega) rfl))))))) rfl (kke trivial)
                              · intro hpe
                                refine z_iload C 6 rfl dX6_copy_225 ?_
                                refine z_iload C 5 rfl dX6_copy_227 ?_
                                refine z_icmp_ge C 267 dX6_copy_229 (by decide) (by omega) (by omega) (fun h229 => ?_) (fun h229 => ?_)
                                · refine z_iload C 5 rfl dX6_copy_267 ?_
                                  exact zZ_iret C hR (Nat.le_refl _) (Nat.le_refl _) dX6_copy_269 rfl (zIs_I (by rw [uR0 (show fCopy (VI I) p r i j k = 0 by (try simp only [decide_eq_true_eq, decide_eq_false_iff_not, bI] at *); (rw [fCp_V]; first | exact if_pos (by omega) | (rw [if_neg (by omega)]; first | exact if_pos (by omega) | (rw [if_neg (by omega)]; first | exact if_pos (by omega) | (rw [if_neg (by omega)]; first | exact if_pos (by omega) | exact if_neg (by omega))))))]; omega) (by rw [uK0 (show fCopy (VI I) p r i j k = 0 by (try simp only [decide_eq_true_eq, decide_eq_false_iff_not, bI] at *); (rw [fCp_V]; first | exact if_pos (by omega) | (rw [if_neg (by omega)]; first | exact if_pos (by omega) | (rw [if_neg (by omega)]; first | exact if_pos (by omega) | (rw [if_neg (by omega)]; first | exact if_pos (by omega) | exact if_neg (by omega)))))), uJ0 (show fCopy (VI I) p r i j k = 0 by (try simp only [decide_eq_true_eq, decide_eq_false_iff_not, bI] at *); (rw [fCp_V]; first | exact if_pos (by omega) | (rw [if_neg (by omega)]; first | exact if_pos (by omega) | (rw [if_neg (by omega)]; first | exact if_pos (by omega) | (rw [if_neg (by omega)]; first | exact if_pos (by omega) | exact if_neg (by omega))))))]; (first | done | (rw [hpt, hrt, hit, hjt, hkt]))))
                                · omega
                            · refine z_iload_n C 3 rfl dX6_copy_167 rfl ?_
                              refine z_iload C 4 rfl dX6_copy_168 ?_
                              refine z_icmp_ge C 222 dX6_copy_170 (by decide) (by omega) (by omega) (fun h170 => ?_) (fun h170 => ?_)
                              · refine z_iconst C dX6_copy_222 ?_
                                refine z_istore C [(6, .int (iI 0)), (0, .ref 58), (1, .int (iI ((pn : Int)))), (2, .int (iI ((rn : Int)))), (3, .int (iI ((xi : Int)))), (4, .int (iI ((xj : Int)))), (5, .int (iI ((kn : Int))))] dX6_copy_223 (by decide) rfl ?_
                                refine zZ_sub [1, 2, 3, 4, 5, 6, 0] rfl ?_
                                refine zZ_cast (σ' := (fun e : Nat => zst I (cpR J (40 * pn + xi) (40 * rn + xj) e) q) 0) (L' := (fun e : Nat => [(0, .ref 58), (1, .int (iI ((pn : Int)))), (2, .int (iI ((rn : Int)))), (3, .int (iI ((xi : Int)))), (4, .int (iI ((xj : Int)))), (5, .int (iI ((kn : Int)))), (6, .int (iI (e : Int)))]) 0) (by refine congrArg (fun J' => zst I J' q) ?_; exact cpR_0.symm) rfl rfl ?_
                                refine zfor (kn) (fun _ => True) (fun e : Nat => zst I (cpR J (40 * pn + xi) (40 * rn + xj) e) q) (fun e : Nat => [(0, .ref 58), (1, .int (iI ((pn : Int)))), (2, .int (iI ((rn : Int)))), (3, .int (iI ((xi : Int)))), (4, .int (iI ((xj : Int)))), (5, .int (iI ((kn : Int)))), (6, .int (iI (e : Int)))]) trivial ?_ ?_
                                · intro e hee hpe kke
                                  have hse : 40 * pn + xi + e < 40 * rn + xj ∨ 40 * rn + xj + e ≤ 40 * pn + xi + e := by omega
                                  refine z_iload C 6 rfl dX6_copy_225 ?_
                                  refine z_iload C 5 rfl dX6_copy_227 ?_
                                  refine z_icmp_ge C 267 dX6_copy_229 (by decide) (by omega) (by omega) (fun h229 => ?_) (fun h229 => ?_)
                                  · omega
                                  · refine z_aload_n C 0 rfl dX6_copy_232 rfl ?_
                                    refine y_getR C zCl6 20 flX6_32 rfl rfl rfl dX6_copy_233 ?_
                                    refine z_bipush C dX6_copy_236 (by decide) ?_
                                    refine z_iload_n C 2 rfl dX6_copy_238 rfl ?_
                                    refine z_imul C dX6_copy_239 ?_
                                    refine z_iload C 4 rfl dX6_copy_240 ?_
                                    refine z_iadd C dX6_copy_242 ?_
                                    refine z_iload C 6 rfl dX6_copy_243 ?_
                                    refine z_iadd C dX6_copy_245 ?_
                                    refine z_aload_n C 0 rfl dX6_copy_246 rfl ?_
                                    refine y_getR C zCl6 20 flX6_32 rfl rfl rfl dX6_copy_247 ?_
                                    refine z_bipush C dX6_copy_250 (by decide) ?_
                                    refine z_iload_n C 1 rfl dX6_copy_252 rfl ?_
                                    refine z_imul C dX6_copy_253 ?_
                                    refine z_iload_n C 3 rfl dX6_copy_254 rfl ?_
                                    refine z_iadd C dX6_copy_255 ?_
                                    refine z_iload C 6 rfl dX6_copy_256 ?_
                                    refine z_iadd C dX6_copy_258 ?_
                                    refine y_lald C (40 * pn + xi + e) (by omega) rfl (by omega) (by decide) dX6_copy_259 ?_
                                    refine y_last C (40 * rn + xj + e) (by omega) rfl (by omega) (by decide) dX6_copy_260 ?_
                                    obtain ⟨v5, ev5⟩ : ∃ y : Int, y = (e : Int) + 1 := ⟨_, rfl⟩
                                    refine z_iinc C 6 v5 [(6, .int (iI v5)), (0, .ref 58), (1, .int (iI ((pn : Int)))), (2, .int (iI ((rn : Int)))), (3, .int (iI ((xi : Int)))), (4, .int (iI ((xj : Int)))), (5, .int (iI ((kn : Int))))] dX6_copy_261 rfl ev5.symm (by decide) rfl ?_
                                    refine z_goto C 225 dX6_copy_264 (by decide) ?_
                                    refine zZ_sub [1, 2, 3, 4, 5, 6, 0] rfl ?_
                                    refine zZ_cast (by refine congrArg (fun J' => zst I J' q) ?_; exact cpR_s hse) (zLk (zLk (zLk (zLk (zLk (zLk (zLc (by omega) rfl))))))) rfl (kke trivial)
                                · intro hpe
                                  refine z_iload C 6 rfl dX6_copy_225 ?_
                                  refine z_iload C 5 rfl dX6_copy_227 ?_
                                  refine z_icmp_ge C 267 dX6_copy_229 (by decide) (by omega) (by omega) (fun h229 => ?_) (fun h229 => ?_)
                                  · refine z_iload C 5 rfl dX6_copy_267 ?_
                                    exact zZ_iret C hR (Nat.le_refl _) (Nat.le_refl _) dX6_copy_269 rfl (zIs_I (by rw [uR0 (show fCopy (VI I) p r i j k = 0 by (try simp only [decide_eq_true_eq, decide_eq_false_iff_not, bI] at *); (rw [fCp_V]; first | exact if_pos (by omega) | (rw [if_neg (by omega)]; first | exact if_pos (by omega) | (rw [if_neg (by omega)]; first | exact if_pos (by omega) | (rw [if_neg (by omega)]; first | exact if_pos (by omega) | exact if_neg (by omega))))))]; omega) (by rw [uK0 (show fCopy (VI I) p r i j k = 0 by (try simp only [decide_eq_true_eq, decide_eq_false_iff_not, bI] at *); (rw [fCp_V]; first | exact if_pos (by omega) | (rw [if_neg (by omega)]; first | exact if_pos (by omega) | (rw [if_neg (by omega)]; first | exact if_pos (by omega) | (rw [if_neg (by omega)]; first | exact if_pos (by omega) | exact if_neg (by omega)))))), uJ0 (show fCopy (VI I) p r i j k = 0 by (try simp only [decide_eq_true_eq, decide_eq_false_iff_not, bI] at *); (rw [fCp_V]; first | exact if_pos (by omega) | (rw [if_neg (by omega)]; first | exact if_pos (by omega) | (rw [if_neg (by omega)]; first | exact if_pos (by omega) | (rw [if_neg (by omega)]; first | exact if_pos (by omega) | exact if_neg (by omega))))))]; (first | done | (rw [hpt, hrt, hit, hjt, hkt]))))
                                  · omega
                              · refine z_iload C 5 rfl dX6_copy_173 ?_
                                refine z_iconst C dX6_copy_175 ?_
                                refine z_isub C dX6_copy_176 ?_
                                refine z_istore C [(6, .int (iI (((kn : Int)) - 1))), (0, .ref 58), (1, .int (iI ((pn : Int)))), (2, .int (iI ((rn : Int)))), (3, .int (iI ((xi : Int)))), (4, .int (iI ((xj : Int)))), (5, .int (iI ((kn : Int))))] dX6_copy_177 (by decide) rfl ?_
                                refine zZ_sub [1, 2, 3, 4, 5, 6, 0] rfl ?_
                                refine zZ_cast (σ' := (fun e : Nat => zst I (cpB J (40 * pn + xi) (40 * rn + xj) kn e) q) 0) (L' := (fun e : Nat => [(0, .ref 58), (1, .int (iI ((pn : Int)))), (2, .int (iI ((rn : Int)))), (3, .int (iI ((xi : Int)))), (4, .int (iI ((xj : Int)))), (5, .int (iI ((kn : Int)))), (6, .int (iI ((kn : Int) - 1 - (e : Int))))]) 0) (by refine congrArg (fun J' => zst I J' q) ?_; exact cpB_0.symm) (by exact zLk (zLk (zLk (zLk (zLk (zLk (zLc (by omega) rfl))))))) rfl ?_
                                refine zfor (kn) (fun _ => True) (fun e : Nat => zst I (cpB J (40 * pn + xi) (40 * rn + xj) kn e) q) (fun e : Nat => [(0, .ref 58), (1, .int (iI ((pn : Int)))), (2, .int (iI ((rn : Int)))), (3, .int (iI ((xi : Int)))), (4, .int (iI ((xj : Int)))), (5, .int (iI ((kn : Int)))), (6, .int (iI ((kn : Int) - 1 - (e : Int))))]) trivial ?_ ?_
                                · intro e hee hpe kke
                                  refine z_iload C 6 rfl dX6_copy_179 ?_
                                  refine z_if_lt C 219 dX6_copy_181 (by decide) (by omega) (fun h181 => ?_) (fun h181 => ?_)
                                  · omega
                                  · refine z_aload_n C 0 rfl dX6_copy_184 rfl ?_
                                    refine y_getR C zCl6 20 flX6_32 rfl rfl rfl dX6_copy_185 ?_
                                    refine z_bipush C dX6_copy_188 (by decide) ?_
                                    refine z_iload_n C 2 rfl dX6_copy_190 rfl ?_
                                    refine z_imul C dX6_copy_191 ?_
                                    refine z_iload C 4 rfl dX6_copy_192 ?_
                                    refine z_iadd C dX6_copy_194 ?_
                                    refine z_iload C 6 rfl dX6_copy_195 ?_
                                    refine z_iadd C dX6_copy_197 ?_
                                    refine z_aload_n C 0 rfl dX6_copy_198 rfl ?_
                                    refine y_getR C zCl6 20 flX6_32 rfl rfl rfl dX6_copy_199 ?_
                                    refine z_bipush C dX6_copy_202 (by decide) ?_
                                    refine z_iload_n C 1 rfl dX6_copy_204 rfl ?_
                                    refine z_imul C dX6_copy_205 ?_
                                    refine z_iload_n C 3 rfl dX6_copy_206 rfl ?_
                                    refine z_iadd C dX6_copy_207 ?_
                                    refine z_iload C 6 rfl dX6_copy_208 ?_
                                    refine z_iadd C dX6_copy_210 ?_
                                    refine y_lald C (40 * pn + xi + (kn - 1 - e)) (by omega) rfl (by omega) (by decide) dX6_copy_211 ?_
                                    refine y_last C (40 * rn + xj + (kn - 1 - e)) (by omega) rfl (by omega) (by decide) dX6_copy_212 ?_
                                    obtain ⟨v6, ev6⟩ : ∃ y : Int, y = ((kn : Int) - 1 - (e : Int)) + (-1) := ⟨_, rfl⟩
                                    refine z_iinc C 6 v6 [(6, .int (iI v6)), (0, .ref 58), (1, .int (iI ((pn : Int)))), (2, .int (iI ((rn : Int)))), (3, .int (iI ((xi : Int)))), (4, .int (iI ((xj : Int)))), (5, .int (iI ((kn : Int))))] dX6_copy_213 rfl ev6.symm (by decide) rfl ?_
                                    refine z_goto C 179 dX6_copy_216 (by decide) ?_
                                    refine zZ_sub [1, 2, 3, 4, 5, 6, 0] rfl ?_
                                    refine zZ_cast (by refine congrArg (fun J' => zst I J' q) ?_; exact cpB_s (by omega) (by omega)) (zLk (zLk (zLk (zLk (zLk (zLk (zLc (by omega) rfl))))))) rfl (kke trivial)
                                · intro hpe
                                  rw [cpB_n]
                                  refine z_iload C 6 rfl dX6_copy_179 ?_
                                  refine z_if_lt C 219 dX6_copy_181 (by decide) (by omega) (fun h181 => ?_) (fun h181 => ?_)
                                  · refine z_goto C 267 dX6_copy_219 (by decide) ?_
                                    refine z_iload C 5 rfl dX6_copy_267 ?_
                                    exact zZ_iret C hR (Nat.le_refl _) (Nat.le_refl _) dX6_copy_269 rfl (zIs_I (by rw [uR0 (show fCopy (VI I) p r i j k = 0 by (try simp only [decide_eq_true_eq, decide_eq_false_iff_not, bI] at *); (rw [fCp_V]; first | exact if_pos (by omega) | (rw [if_neg (by omega)]; first | exact if_pos (by omega) | (rw [if_neg (by omega)]; first | exact if_pos (by omega) | (rw [if_neg (by omega)]; first | exact if_pos (by omega) | exact if_neg (by omega))))))]; omega) (by rw [uK0 (show fCopy (VI I) p r i j k = 0 by (try simp only [decide_eq_true_eq, decide_eq_false_iff_not, bI] at *); (rw [fCp_V]; first | exact if_pos (by omega) | (rw [if_neg (by omega)]; first | exact if_pos (by omega) | (rw [if_neg (by omega)]; first | exact if_pos (by omega) | (rw [if_neg (by omega)]; first | exact if_pos (by omega) | exact if_neg (by omega)))))), uJ0 (show fCopy (VI I) p r i j k = 0 by (try simp only [decide_eq_true_eq, decide_eq_false_iff_not, bI] at *); (rw [fCp_V]; first | exact if_pos (by omega) | (rw [if_neg (by omega)]; first | exact if_pos (by omega) | (rw [if_neg (by omega)]; first | exact if_pos (by omega) | (rw [if_neg (by omega)]; first | exact if_pos (by omega) | exact if_neg (by omega))))))]; (first | done | (rw [hpt, hrt, hit, hjt, hkt]))))
                                  · omega
                          · have hx : ¬ (j + k ≤ I 65 r.toNat) := fun z => h151 (hc2.1.mpr z)
                            refine z_aload_n C 0 rfl dX6_copy_155 rfl ?_
                            refine z_bipush C dX6_copy_156 (by decide) ?_
                            refine y_callV1 C oX6_no iX6_no eX6_no lkX6_83 (c_X6_no (by first | assumption | omega)) rfl (by decide) rfl rfl (by decide) (Nat.le_refl _) (Nat.le_refl _) (Nat.le_of_ble_eq_true rfl) dX6_copy_158 ?_
                            exact zZ_iret C hR (Nat.le_refl _) (Nat.le_refl _) dX6_copy_161 rfl (zIs_I (uRc (show fCopy (VI I) p r i j k = -2 by (try simp only [decide_eq_true_eq, decide_eq_false_iff_not, bI] at *); (rw [fCp_V]; first | exact if_pos (by omega) | (rw [if_neg (by omega)]; first | exact if_pos (by omega) | (rw [if_neg (by omega)]; first | exact if_pos (by omega) | (rw [if_neg (by omega)]; first | exact if_pos (by omega) | exact if_neg (by omega)))))) (by decide)).symm (by rw [uKc (show fCopy (VI I) p r i j k = -2 by (try simp only [decide_eq_true_eq, decide_eq_false_iff_not, bI] at *); (rw [fCp_V]; first | exact if_pos (by omega) | (rw [if_neg (by omega)]; first | exact if_pos (by omega) | (rw [if_neg (by omega)]; first | exact if_pos (by omega) | (rw [if_neg (by omega)]; first | exact if_pos (by omega) | exact if_neg (by omega)))))) (by decide), uJc (show fCopy (VI I) p r i j k = -2 by (try simp only [decide_eq_true_eq, decide_eq_false_iff_not, bI] at *); (rw [fCp_V]; first | exact if_pos (by omega) | (rw [if_neg (by omega)]; first | exact if_pos (by omega) | (rw [if_neg (by omega)]; first | exact if_pos (by omega) | (rw [if_neg (by omega)]; first | exact if_pos (by omega) | exact if_neg (by omega)))))) (by decide)]))
                · refine z_aload_n C 0 rfl dX6_copy_99 rfl ?_
                  refine z_bipush C dX6_copy_100 (by decide) ?_
                  refine y_callV1 C oX6_no iX6_no eX6_no lkX6_83 (c_X6_no (by first | assumption | omega)) rfl (by decide) rfl rfl (by decide) (Nat.le_refl _) (Nat.le_refl _) (Nat.le_of_ble_eq_true rfl) dX6_copy_102 ?_
                  exact zZ_iret C hR (Nat.le_refl _) (Nat.le_refl _) dX6_copy_105 rfl (zIs_I (uRc (show fCopy (VI I) p r i j k = -4 by (try simp only [decide_eq_true_eq, decide_eq_false_iff_not, bI] at *); (rw [fCp_V]; first | exact if_pos (by omega) | (rw [if_neg (by omega)]; first | exact if_pos (by omega) | (rw [if_neg (by omega)]; first | exact if_pos (by omega) | (rw [if_neg (by omega)]; first | exact if_pos (by omega) | exact if_neg (by omega)))))) (by decide)).symm (by rw [uKc (show fCopy (VI I) p r i j k = -4 by (try simp only [decide_eq_true_eq, decide_eq_false_iff_not, bI] at *); (rw [fCp_V]; first | exact if_pos (by omega) | (rw [if_neg (by omega)]; first | exact if_pos (by omega) | (rw [if_neg (by omega)]; first | exact if_pos (by omega) | (rw [if_neg (by omega)]; first | exact if_pos (by omega) | exact if_neg (by omega)))))) (by decide), uJc (show fCopy (VI I) p r i j k = -4 by (try simp only [decide_eq_true_eq, decide_eq_false_iff_not, bI] at *); (rw [fCp_V]; first | exact if_pos (by omega) | (rw [if_neg (by omega)]; first | exact if_pos (by omega) | (rw [if_neg (by omega)]; first | exact if_pos (by omega) | (rw [if_neg (by omega)]; first | exact if_pos (by omega) | exact if_neg (by omega)))))) (by decide)]))
            · refine z_aload_n C 0 rfl dX6_copy_59 rfl ?_
              refine y_getR C zCl6 18 flX6_26 rfl rfl rfl dX6_copy_60 ?_
              refine z_iload_n C 1 rfl dX6_copy_63 rfl ?_
              refine y_iald C p.toNat (by omega) rfl (by omega) (by decide) dX6_copy_64 ?_
              refine z_aload_n C 0 rfl dX6_copy_65 rfl ?_
              refine y_getR C zCl6 18 flX6_26 rfl rfl rfl dX6_copy_66 ?_
              refine z_iload_n C 2 rfl dX6_copy_69 rfl ?_
              refine y_iald C r.toNat (by omega) rfl (by omega) (by decide) dX6_copy_70 ?_
              refine z_icmp_eq C 81 dX6_copy_71 (by decide) (by omega) (by omega) (fun h71 => ?_) (fun h71 => ?_)
              · refine z_aload_n C 0 rfl dX6_copy_81 rfl ?_
                refine y_getR C zCl6 18 flX6_26 rfl rfl rfl dX6_copy_82 ?_
                refine z_iload_n C 1 rfl dX6_copy_85 rfl ?_
                refine y_iald C p.toNat (by omega) rfl (by omega) (by decide) dX6_copy_86 ?_
                refine z_if_lt C 99 dX6_copy_87 (by decide) (by omega) (fun h87 => ?_) (fun h87 => ?_)
                · refine z_aload_n C 0 rfl dX6_copy_99 rfl ?_
                  refine z_bipush C dX6_copy_100 (by decide) ?_
                  refine y_callV1 C oX6_no iX6_no eX6_no lkX6_83 (c_X6_no (by first | assumption | omega)) rfl (by decide) rfl rfl (by decide) (Nat.le_refl _) (Nat.le_refl _) (Nat.le_of_ble_eq_true rfl) dX6_copy_102 ?_
                  exact zZ_iret C hR (Nat.le_refl _) (Nat.le_refl _) dX6_copy_105 rfl (zIs_I (uRc (show fCopy (VI I) p r i j k = -4 by (try simp only [decide_eq_true_eq, decide_eq_false_iff_not, bI] at *); (rw [fCp_V]; first | exact if_pos (by omega) | (rw [if_neg (by omega)]; first | exact if_pos (by omega) | (rw [if_neg (by omega)]; first | exact if_pos (by omega) | (rw [if_neg (by omega)]; first | exact if_pos (by omega) | exact if_neg (by omega)))))) (by decide)).symm (by rw [uKc (show fCopy (VI I) p r i j k = -4 by (try simp only [decide_eq_true_eq, decide_eq_false_iff_not, bI] at *); (rw [fCp_V]; first | exact if_pos (by omega) | (rw [if_neg (by omega)]; first | exact if_pos (by omega) | (rw [if_neg (by omega)]; first | exact if_pos (by omega) | (rw [if_neg (by omega)]; first | exact if_pos (by omega) | exact if_neg (by omega)))))) (by decide), uJc (show fCopy (VI I) p r i j k = -4 by (try simp only [decide_eq_true_eq, decide_eq_false_iff_not, bI] at *); (rw [fCp_V]; first | exact if_pos (by omega) | (rw [if_neg (by omega)]; first | exact if_pos (by omega) | (rw [if_neg (by omega)]; first | exact if_pos (by omega) | (rw [if_neg (by omega)]; first | exact if_pos (by omega) | exact if_neg (by omega)))))) (by decide)]))
                · refine z_aload_n C 0 rfl dX6_copy_90 rfl ?_
                  refine y_getR C zCl6 18 flX6_26 rfl rfl rfl dX6_copy_91 ?_
                  refine z_iload_n C 2 rfl dX6_copy_94 rfl ?_
                  refine y_iald C r.toNat (by omega) rfl (by omega) (by decide) dX6_copy_95 ?_
                  refine z_if_ge C 106 dX6_copy_96 (by decide) (by omega) (fun h96 => ?_) (fun h96 => ?_)
                  · refine z_iload C 5 rfl dX6_copy_106 ?_
                    refine z_if_lt C 155 dX6_copy_108 (by decide) (by omega) (fun h108 => ?_) (fun h108 => ?_)
                    · refine z_aload_n C 0 rfl dX6_copy_155 rfl ?_
                      refine z_bipush C dX6_copy_156 (by decide) ?_
                      refine y_callV1 C oX6_no iX6_no eX6_no lkX6_83 (c_X6_no (by first | assumption | omega)) rfl (by decide) rfl rfl (by decide) (Nat.le_refl _) (Nat.le_refl _) (Nat.le_of_ble_eq_true rfl) dX6_copy_158 ?_
                      exact zZ_iret C hR (Nat.le_refl _) (Nat.le_refl _) dX6_copy_161 rfl (zIs_I (uRc (show fCopy (VI I) p r i j k = -2 by (try simp only [decide_eq_true_eq, decide_eq_false_iff_not, bI] at *); (rw [fCp_V]; first | exact if_pos (by omega) | (rw [if_neg (by omega)]; first | exact if_pos (by omega) | (rw [if_neg (by omega)]; first | exact if_pos (by omega) | (rw [if_neg (by omega)]; first | exact if_pos (by omega) | exact if_neg (by omega)))))) (by decide)).symm (by rw [uKc (show fCopy (VI I) p r i j k = -2 by (try simp only [decide_eq_true_eq, decide_eq_false_iff_not, bI] at *); (rw [fCp_V]; first | exact if_pos (by omega) | (rw [if_neg (by omega)]; first | exact if_pos (by omega) | (rw [if_neg (by omega)]; first | exact if_pos (by omega) | (rw [if_neg (by omega)]; first | exact if_pos (by omega) | exact if_neg (by omega)))))) (by decide), uJc (show fCopy (VI I) p r i j k = -2 by (try simp only [decide_eq_true_eq, decide_eq_false_iff_not, bI] at *); (rw [fCp_V]; first | exact if_pos (by omega) | (rw [if_neg (by omega)]; first | exact if_pos (by omega) | (rw [if_neg (by omega)]; first | exact if_pos (by omega) | (rw [if_neg (by omega)]; first | exact if_pos (by omega) | exact if_neg (by omega)))))) (by decide)]))
                    · refine z_iload_n C 3 rfl dX6_copy_111 rfl ?_
                      refine z_if_lt C 155 dX6_copy_112 (by decide) (by omega) (fun h112 => ?_) (fun h112 => ?_)
                      · refine z_aload_n C 0 rfl dX6_copy_155 rfl ?_
                        refine z_bipush C dX6_copy_156 (by decide) ?_
                        refine y_callV1 C oX6_no iX6_no eX6_no lkX6_83 (c_X6_no (by first | assumption | omega)) rfl (by decide) rfl rfl (by decide) (Nat.le_refl _) (Nat.le_refl _) (Nat.le_of_ble_eq_true rfl) dX6_copy_158 ?_
                        exact zZ_iret C hR (Nat.le_refl _) (Nat.le_refl _) dX6_copy_161 rfl (zIs_I (uRc (show fCopy (VI I) p r i j k = -2 by (try simp only [decide_eq_true_eq, decide_eq_false_iff_not, bI] at *); (rw [fCp_V]; first | exact if_pos (by omega) | (rw [if_neg (by omega)]; first | exact if_pos (by omega) | (rw [if_neg (by omega)]; first | exact if_pos (by omega) | (rw [if_neg (by omega)]; first | exact if_pos (by omega) | exact if_neg (by omega)))))) (by decide)).symm (by rw [uKc (show fCopy (VI I) p r i j k = -2 by (try simp only [decide_eq_true_eq, decide_eq_false_iff_not, bI] at *); (rw [fCp_V]; first | exact if_pos (by omega) | (rw [if_neg (by omega)]; first | exact if_pos (by omega) | (rw [if_neg (by omega)]; first | exact if_pos (by omega) | (rw [if_neg (by omega)]; first | exact if_pos (by omega) | exact if_neg (by omega)))))) (by decide), uJc (show fCopy (VI I) p r i j k = -2 by (try simp only [decide_eq_true_eq, decide_eq_false_iff_not, bI] at *); (rw [fCp_V]; first | exact if_pos (by omega) | (rw [if_neg (by omega)]; first | exact if_pos (by omega) | (rw [if_neg (by omega)]; first | exact if_pos (by omega) | (rw [if_neg (by omega)]; first | exact if_pos (by omega) | exact if_neg (by omega)))))) (by decide)]))
                      · refine z_iload C 4 rfl dX6_copy_115 ?_
                        refine z_if_lt C 155 dX6_copy_117 (by decide) (by omega) (fun h117 => ?_) (fun h117 => ?_)
                        · refine z_aload_n C 0 rfl dX6_copy_155 rfl ?_
                          refine z_bipush C dX6_copy_156 (by decide) ?_
                          refine y_callV1 C oX6_no iX6_no eX6_no lkX6_83 (c_X6_no (by first | assumption | omega)) rfl (by decide) rfl rfl (by decide) (Nat.le_refl _) (Nat.le_refl _) (Nat.le_of_ble_eq_true rfl) dX6_copy_158 ?_
                          exact zZ_iret C hR (Nat.le_refl _) (Nat.le_refl _) dX6_copy_161 rfl (zIs_I (uRc (show fCopy (VI I) p r i j k = -2 by (try simp only [decide_eq_true_eq, decide_eq_false_iff_not, bI] at *); (rw [fCp_V]; first | exact if_pos (by omega) | (rw [if_neg (by omega)]; first | exact if_pos (by omega) | (rw [if_neg (by omega)]; first | exact if_pos (by omega) | (rw [if_neg (by omega)]; first | exact if_pos (by omega) | exact if_neg (by omega)))))) (by decide)).symm (by rw [uKc (show fCopy (VI I) p r i j k = -2 by (try simp only [decide_eq_true_eq, decide_eq_false_iff_not, bI] at *); (rw [fCp_V]; first | exact if_pos (by omega) | (rw [if_neg (by omega)]; first | exact if_pos (by omega) | (rw [if_neg (by omega)]; first | exact if_pos (by omega) | (rw [if_neg (by omega)]; first | exact if_pos (by omega) | exact if_neg (by omega)))))) (by decide), uJc (show fCopy (VI I) p r i j k = -2 by (try simp only [decide_eq_true_eq, decide_eq_false_iff_not, bI] at *); (rw [fCp_V]; first | exact if_pos (by omega) | (rw [if_neg (by omega)]; first | exact if_pos (by omega) | (rw [if_neg (by omega)]; first | exact if_pos (by omega) | (rw [if_neg (by omega)]; first | exact if_pos (by omega) | exact if_neg (by omega)))))) (by decide)]))
                        · have hc1 := i64_add (a := i) (b := k) (c := I 65 p.toNat) (by omega) (by omega) (by omega)
                          have hc2 := i64_add (a := j) (b := k) (c := I 65 r.toNat) (by omega) (by omega) (by omega)
                          refine z_iload_n C 3 rfl dX6_copy_120 rfl ?_
                          refine z_i2l C ((iI i).toInt64) dX6_copy_121 rfl ?_
                          refine z_iload C 5 rfl dX6_copy_122 ?_
                          refine z_i2l C ((iI k).toInt64) dX6_copy_124 rfl ?_
                          refine z_ladd C dX6_copy_125 ?_
                          refine z_aload_n C 0 rfl dX6_copy_126 rfl ?_
                          refine y_getR C zCl6 19 flX6_29 rfl rfl rfl dX6_copy_127 ?_
                          refine z_iload_n C 1 rfl dX6_copy_130 rfl ?_
                          refine y_iald C p.toNat (by omega) rfl (by omega) (by decide) dX6_copy_131 ?_
                          refine z_i2l C ((iI (I 65 p.toNat)).toInt64) dX6_copy_132 rfl ?_
                          refine z_lcmp_gt C 155 dX6_copy_133 dX6_copy_134 (by decide) (fun h133 => ?_) (fun h133 => ?_)
                          · have hx := hc1.2.mp h133
                            refine z_aload_n C 0 rfl dX6_copy_155 rfl ?_
                            refine z_bipush C dX6_copy_156 (by decide) ?_
                            refine y_callV1 C oX6_no iX6_no eX6_no lkX6_83 (c_X6_no (by first | assumption | omega)) rfl (by decide) rfl rfl (by decide) (Nat.le_refl _) (Nat.le_refl _) (Nat.le_of_ble_eq_true rfl) dX6_copy_158 ?_
                            exact zZ_iret C hR (Nat.le_refl _) (Nat.le_refl _) dX6_copy_161 rfl (zIs_I (uRc (show fCopy (VI I) p r i j k = -2 by (try simp only [decide_eq_true_eq, decide_eq_false_iff_not, bI] at *); (rw [fCp_V]; first | exact if_pos (by omega) | (rw [if_neg (by omega)]; first | exact if_pos (by omega) | (rw [if_neg (by omega)]; first | exact if_pos (by omega) | (rw [if_neg (by omega)]; first | exact if_pos (by omega) | exact if_neg (by omega)))))) (by decide)).symm (by rw [uKc (show fCopy (VI I) p r i j k = -2 by (try simp only [decide_eq_true_eq, decide_eq_false_iff_not, bI] at *); (rw [fCp_V]; first | exact if_pos (by omega) | (rw [if_neg (by omega)]; first | exact if_pos (by omega) | (rw [if_neg (by omega)]; first | exact if_pos (by omega) | (rw [if_neg (by omega)]; first | exact if_pos (by omega) | exact if_neg (by omega)))))) (by decide), uJc (show fCopy (VI I) p r i j k = -2 by (try simp only [decide_eq_true_eq, decide_eq_false_iff_not, bI] at *); (rw [fCp_V]; first | exact if_pos (by omega) | (rw [if_neg (by omega)]; first | exact if_pos (by omega) | (rw [if_neg (by omega)]; first | exact if_pos (by omega) | (rw [if_neg (by omega)]; first | exact if_pos (by omega) | exact if_neg (by omega)))))) (by decide)]))
                          · refine z_iload C 4 rfl dX6_copy_137 ?_
                            refine z_i2l C ((iI j).toInt64) dX6_copy_139 rfl ?_
                            refine z_iload C 5 rfl dX6_copy_140 ?_
                            refine z_i2l C ((iI k).toInt64) dX6_copy_142 rfl ?_
                            refine z_ladd C dX6_copy_143 ?_
                            refine z_aload_n C 0 rfl dX6_copy_144 rfl ?_
                            refine y_getR C zCl6 19 flX6_29 rfl rfl rfl dX6_copy_145 ?_
                            refine z_iload_n C 2 rfl dX6_copy_148 rfl ?_
                            refine y_iald C r.toNat (by omega) rfl (by omega) (by decide) dX6_copy_149 ?_
                            refine z_i2l C ((iI (I 65 r.toNat)).toInt64) dX6_copy_150 rfl ?_
                            refine z_lcmp_le C 162 dX6_copy_151 dX6_copy_152 (by decide) (fun h151 => ?_) (fun h151 => ?_)
                            · have hx1 : i + k ≤ I 65 p.toNat := Int.not_lt.mp (fun z => h133 (hc1.2.mpr z))
                              have hx2 := hc2.1.mp h151
                              obtain ⟨pn, hpn⟩ : ∃ k : Nat, p = k := ⟨p.toNat, by omega⟩
                              obtain ⟨rn, hrn⟩ : ∃ k : Nat, r = k := ⟨r.toNat, by omega⟩
                              obtain ⟨xi, hxi⟩ : ∃ k : Nat, i = k := ⟨i.toNat, by omega⟩
                              obtain ⟨xj, hxj⟩ : ∃ k : Nat, j = k := ⟨j.toNat, by omega⟩
                              obtain ⟨kn, hkn⟩ : ∃ x : Nat, k = x := ⟨k.toNat, by omega⟩
                              have hpt : p.toNat = pn := by omega
                              have hrt : r.toNat = rn := by omega
                              have hit : i.toNat = xi := by omega
                              have hjt : j.toNat = xj := by omega
                              have hkt : k.toNat = kn := by omega
                              rw [hpn, hrn, hxi, hxj, hkn]
                              refine z_iload_n C 1 rfl dX6_copy_162 rfl ?_
                              refine z_iload_n C 2 rfl dX6_copy_163 rfl ?_
                              refine z_icmp_ne C 222 dX6_copy_164 (by decide) (by omega) (by omega) (fun h164 => ?_) (fun h164 => ?_)
                              · refine z_iconst C dX6_copy_222 ?_
                                refine z_istore C [(6, .int (iI 0)), (0, .ref 58), (1, .int (iI ((pn : Int)))), (2, .int (iI ((rn : Int)))), (3, .int (iI ((xi : Int)))), (4, .int (iI ((xj : Int)))), (5, .int (iI ((kn : Int))))] dX6_copy_223 (by decide) rfl ?_
                                refine zZ_sub [1, 2, 3, 4, 5, 6, 0] rfl ?_
                                refine zZ_cast (σ' := (fun e : Nat => zst I (cpR J (40 * pn + xi) (40 * rn + xj) e) q) 0) (L' := (fun e : Nat => [(0, .ref 58), (1, .int (iI ((pn : Int)))), (2, .int (iI ((rn : Int)))), (3, .int (iI ((xi : Int)))), (4, .int (iI ((xj : Int)))), (5, .int (iI ((kn : Int)))), (6, .int (iI (e : Int)))]) 0) (by refine congrArg (fun J' => zst I J' q) ?_; exact cpR_0.symm) rfl rfl ?_
                                refine zfor (kn) (fun _ => True) (fun e : Nat => zst I (cpR J (40 * pn + xi) (40 * rn + xj) e) q) (fun e : Nat => [(0, .ref 58), (1, .int (iI ((pn : Int)))), (2, .int (iI ((rn : Int)))), (3, .int (iI ((xi : Int)))), (4, .int (iI ((xj : Int)))), (5, .int (iI ((kn : Int)))), (6, .int (iI (e : Int)))]) trivial ?_ ?_
                                · intro e hee hpe kke
                                  have hse : 40 * pn + xi + e < 40 * rn + xj ∨ 40 * rn + xj + e ≤ 40 * pn + xi + e := by omega
                                  refine z_iload C 6 rfl dX6_copy_225 ?_
                                  refine z_iload C 5 rfl dX6_copy_227 ?_
                                  refine z_icmp_ge C 267 dX6_copy_229 (by decide) (by omega) (by omega) (fun h229 => ?_) (fun h229 => ?_)
                                  · omega
                                  · refine z_aload_n C 0 rfl dX6_copy_232 rfl ?_
                                    refine y_getR C zCl6 20 flX6_32 rfl rfl rfl dX6_copy_233 ?_
                                    refine z_bipush C dX6_copy_236 (by decide) ?_
                                    refine z_iload_n C 2 rfl dX6_copy_238 rfl ?_
                                    refine z_imul C dX6_copy_239 ?_
                                    refine z_iload C 4 rfl dX6_copy_240 ?_
                                    refine z_iadd C dX6_copy_242 ?_
                                    refine z_iload C 6 rfl dX6_copy_243 ?_
                                    refine z_iadd C dX6_copy_245 ?_
                                    refine z_aload_n C 0 rfl dX6_copy_246 rfl ?_
                                    refine y_getR C zCl6 20 flX6_32 rfl rfl rfl dX6_copy_247 ?_
                                    refine z_bipush C dX6_copy_250 (by decide) ?_
                                    refine z_iload_n C 1 rfl dX6_copy_252 rfl ?_
                                    refine z_imul C dX6_copy_253 ?_
                                    refine z_iload_n C 3 rfl dX6_copy_254 rfl ?_
                                    refine z_iadd C dX6_copy_255 ?_
                                    refine z_iload C 6 rfl dX6_copy_256 ?_
                                    refine z_iadd C dX6_copy_258 ?_
                                    refine y_lald C (40 * pn + xi + e) (by omega) rfl (by omega) (by decide) dX6_copy_259 ?_
                                    refine y_last C (40 * rn + xj + e) (by omega) rfl (by omega) (by decide) dX6_copy_260 ?_
                                    obtain ⟨v7, ev7⟩ : ∃ y : Int, y = (e : Int) + 1 := ⟨_, rfl⟩
                                    refine z_iinc C 6 v7 [(6, .int (iI v7)), (0, .ref 58), (1, .int (iI ((pn : Int)))), (2, .int (iI ((rn : Int)))), (3, .int (iI ((xi : Int)))), (4, .int (iI ((xj : Int)))), (5, .int (iI ((kn : Int))))] dX6_copy_261 rfl ev7.symm (by decide) rfl ?_
                                    refine z_goto C 225 dX6_copy_264 (by decide) ?_
                                    refine zZ_sub [1, 2, 3, 4, 5, 6, 0] rfl ?_
                                    refine zZ_cast (by refine congrArg (fun J' => zst I J' q) ?_; exact cpR_s hse) (zLk (zLk (zLk (zLk (zLk (zLk (zLc (by omega) rfl))))))) rfl (kke trivial)
                                · intro hpe
                                  refine z_iload C 6 rfl dX6_copy_225 ?_
                                  refine z_iload C 5 rfl dX6_copy_227 ?_
                                  refine z_icmp_ge C 267 dX6_copy_229 (by decide) (by omega) (by omega) (fun h229 => ?_) (fun h229 => ?_)
                                  · refine z_iload C 5 rfl dX6_copy_267 ?_
                                    exact zZ_iret C hR (Nat.le_refl _) (Nat.le_refl _) dX6_copy_269 rfl (zIs_I (by rw [uR0 (show fCopy (VI I) p r i j k = 0 by (try simp only [decide_eq_true_eq, decide_eq_false_iff_not, bI] at *); (rw [fCp_V]; first | exact if_pos (by omega) | (rw [if_neg (by omega)]; first | exact if_pos (by omega) | (rw [if_neg (by omega)]; first | exact if_pos (by omega) | (rw [if_neg (by omega)]; first | exact if_pos (by omega) | exact if_neg (by omega))))))]; omega) (by rw [uK0 (show fCopy (VI I) p r i j k = 0 by (try simp only [decide_eq_true_eq, decide_eq_false_iff_not, bI] at *); (rw [fCp_V]; first | exact if_pos (by omega) | (rw [if_neg (by omega)]; first | exact if_pos (by omega) | (rw [if_neg (by omega)]; first | exact if_pos (by omega) | (rw [if_neg (by omega)]; first | exact if_pos (by omega) | exact if_neg (by omega)))))), uJ0 (show fCopy (VI I) p r i j k = 0 by (try simp only [decide_eq_true_eq, decide_eq_false_iff_not, bI] at *); (rw [fCp_V]; first | exact if_pos (by omega) | (rw [if_neg (by omega)]; first | exact if_pos (by omega) | (rw [if_neg (by omega)]; first | exact if_pos (by omega) | (rw [if_neg (by omega)]; first | exact if_pos (by omega) | exact if_neg (by omega))))))]; (first | done | (rw [hpt, hrt, hit, hjt, hkt]))))
                                  · omega
                              · refine z_iload_n C 3 rfl dX6_copy_167 rfl ?_
                                refine z_iload C 4 rfl dX6_copy_168 ?_
                                refine z_icmp_ge C 222 dX6_copy_170 (by decide) (by omega) (by omega) (fun h170 => ?_) (fun h170 => ?_)
                                · refine z_iconst C dX6_copy_222 ?_
                                  refine z_istore C [(6, .int (iI 0)), (0, .ref 58), (1, .int (iI ((pn : Int)))), (2, .int (iI ((rn : Int)))), (3, .int (iI ((xi : Int)))), (4, .int (iI ((xj : Int)))), (5, .int (iI ((kn : Int))))] dX6_copy_223 (by decide) rfl ?_
                                  refine zZ_sub [1, 2, 3, 4, 5, 6, 0] rfl ?_
                                  refine zZ_cast (σ' := (fun e : Nat => zst I (cpR J (40 * pn + xi) (40 * rn + xj) e) q) 0) (L' := (fun e : Nat => [(0, .ref 58), (1, .int (iI ((pn : Int)))), (2, .int (iI ((rn : Int)))), (3, .int (iI ((xi : Int)))), (4, .int (iI ((xj : Int)))), (5, .int (iI ((kn : Int)))), (6, .int (iI (e : Int)))]) 0) (by refine congrArg (fun J' => zst I J' q) ?_; exact cpR_0.symm) rfl rfl ?_
                                  refine zfor (kn) (fun _ => True) (fun e : Nat => zst I (cpR J (40 * pn + xi) (40 * rn + xj) e) q) (fun e : Nat => [(0, .ref 58), (1, .int (iI ((pn : Int)))), (2, .int (iI ((rn : Int)))), (3, .int (iI ((xi : Int)))), (4, .int (iI ((xj : Int)))), (5, .int (iI ((kn : Int)))), (6, .int (iI (e : Int)))]) trivial ?_ ?_
                                  · intro e hee hpe kke
                                    have hse : 40 * pn + xi + e < 40 * rn + xj ∨ 40 * rn + xj + e ≤ 40 * pn + xi + e := by omega
                                    refine z_iload C 6 rfl dX6_copy_225 ?_
                                    refine z_iload C 5 rfl dX6_copy_227 ?_
                                    refine z_icmp_ge C 267 dX6_copy_229 (by decide) (by omega) (by omega) (fun h229 => ?_) (fun h229 => ?_)
                                    · omega
                                    · refine z_aload_n C 0 rfl dX6_copy_232 rfl ?_
                                      refine y_getR C zCl6 20 flX6_32 rfl rfl rfl dX6_copy_233 ?_
                                      refine z_bipush C dX6_copy_236 (by decide) ?_
                                      refine z_iload_n C 2 rfl dX6_copy_238 rfl ?_
                                      refine z_imul C dX6_copy_239 ?_
                                      refine z_iload C 4 rfl dX6_copy_240 ?_
                                      refine z_iadd C dX6_copy_242 ?_
                                      refine z_iload C 6 rfl dX6_copy_243 ?_
                                      refine z_iadd C dX6_copy_245 ?_
                                      refine z_aload_n C 0 rfl dX6_copy_246 rfl ?_
                                      refine y_getR C zCl6 20 flX6_32 rfl rfl rfl dX6_copy_247 ?_
                                      refine z_bipush C dX6_copy_250 (by decide) ?_
                                      refine z_iload_n C 1 rfl dX6_copy_252 rfl ?_
                                      refine z_imul C dX6_copy_253 ?_
                                      refine z_iload_n C 3 rfl dX6_copy_254 rfl ?_
                                      refine z_iadd C dX6_copy_255 ?_
                                      refine z_iload C 6 rfl dX6_copy_256 ?_
                                      refine z_iadd C dX6_copy_258 ?_
                                      refine y_lald C (40 * pn + xi + e) (by omega) rfl (by omega) (by decide) dX6_copy_259 ?_
                                      refine y_last C (40 * rn + xj + e) (by omega) rfl (by omega) (by decide) dX6_copy_260 ?_
                                      obtain ⟨v8, ev8⟩ : ∃ y : Int, y = (e : Int) + 1 := ⟨_, rfl⟩
                                      refine z_iinc C 6 v8 [(6, .int (iI v8)), (0, .ref 58), (1, .int (iI ((pn : Int)))), (2, .int (iI ((rn : Int)))), (3, .int (iI ((xi : Int)))), (4, .int (iI ((xj : Int)))), (5, .int (iI ((kn : Int))))] dX6_copy_261 rfl ev8.symm (by decide) rfl ?_
                                      refine z_goto C 225 dX6_copy_264 (by decide) ?_
                                      refine zZ_sub [1, 2, 3, 4, 5, 6, 0] rfl ?_
                                      refine zZ_cast (by refine congrArg (fun J' => zst I J' q) ?_; exact cpR_s hse) (zLk (zLk (zLk (zLk (zLk (zLk (zLc (by omega) rfl))))))) rfl (kke trivial)
                                  · intro hpe
                                    refine z_iload C 6 rfl dX6_copy_225 ?_
                                    refine z_iload C 5 rfl dX6_copy_227 ?_
                                    refine z_icmp_ge C 267 dX6_copy_229 (by decide) (by omega) (by omega) (fun h229 => ?_) (fun h229 => ?_)
                                    · refine z_iload C 5 rfl dX6_copy_267 ?_
                                      exact zZ_iret C hR (Nat.le_refl _) (Nat.le_refl _) dX6_copy_269 rfl (zIs_I (by rw [uR0 (show fCopy (VI I) p r i j k = 0 by (try simp only [decide_eq_true_eq, decide_eq_false_iff_not, bI] at *); (rw [fCp_V]; first | exact if_pos (by omega) | (rw [if_neg (by omega)]; first | exact if_pos (by omega) | (rw [if_neg (by omega)]; first | exact if_pos (by omega) | (rw [if_neg (by omega)]; first | exact if_pos (by omega) | exact if_neg (by omega))))))]; omega) (by rw [uK0 (show fCopy (VI I) p r i j k = 0 by (try simp only [decide_eq_true_eq, decide_eq_false_iff_not, bI] at *); (rw [fCp_V]; first | exact if_pos (by omega) | (rw [if_neg (by omega)]; first | exact if_pos (by omega) | (rw [if_neg (by omega)]; first | exact if_pos (by omega) | (rw [if_neg (by omega)]; first | exact if_pos (by omega) | exact if_neg (by omega)))))), uJ0 (show fCopy (VI I) p r i j k = 0 by (try simp only [decide_eq_true_eq, decide_eq_false_iff_not, bI] at *); (rw [fCp_V]; first | exact if_pos (by omega) | (rw [if_neg (by omega)]; first | exact if_pos (by omega) | (rw [if_neg (by omega)]; first | exact if_pos (by omega) | (rw [if_neg (by omega)]; first | exact if_pos (by omega) | exact if_neg (by omega))))))]; (first | done | (rw [hpt, hrt, hit, hjt, hkt]))))
                                    · omega
                                · refine z_iload C 5 rfl dX6_copy_173 ?_
                                  refine z_iconst C dX6_copy_175 ?_
                                  refine z_isub C dX6_copy_176 ?_
                                  refine z_istore C [(6, .int (iI (((kn : Int)) - 1))), (0, .ref 58), (1, .int (iI ((pn : Int)))), (2, .int (iI ((rn : Int)))), (3, .int (iI ((xi : Int)))), (4, .int (iI ((xj : Int)))), (5, .int (iI ((kn : Int))))] dX6_copy_177 (by decide) rfl ?_
                                  refine zZ_sub [1, 2, 3, 4, 5, 6, 0] rfl ?_
                                  refine zZ_cast (σ' := (fun e : Nat => zst I (cpB J (40 * pn + xi) (40 * rn + xj) kn e) q) 0) (L' := (fun e : Nat => [(0, .ref 58), (1, .int (iI ((pn : Int)))), (2, .int (iI ((rn : Int)))), (3, .int (iI ((xi : Int)))), (4, .int (iI ((xj : Int)))), (5, .int (iI ((kn : Int)))), (6, .int (iI ((kn : Int) - 1 - (e : Int))))]) 0) (by refine congrArg (fun J' => zst I J' q) ?_; exact cpB_0.symm) (by exact zLk (zLk (zLk (zLk (zLk (zLk (zLc (by omega) rfl))))))) rfl ?_
                                  refine zfor (kn) (fun _ => True) (fun e : Nat => zst I (cpB J (40 * pn + xi) (40 * rn + xj) kn e) q) (fun e : Nat => [(0, .ref 58), (1, .int (iI ((pn : Int)))), (2, .int (iI ((rn : Int)))), (3, .int (iI ((xi : Int)))), (4, .int (iI ((xj : Int)))), (5, .int (iI ((kn : Int)))), (6, .int (iI ((kn : Int) - 1 - (e : Int))))]) trivial ?_ ?_
                                  · intro e hee hpe kke
                                    refine z_iload C 6 rfl dX6_copy_179 ?_
                                    refine z_if_lt C 219 dX6_copy_181 (by decide) (by omega) (fun h181 => ?_) (fun h181 => ?_)
                                    · omega
                                    · refine z_aload_n C 0 rfl dX6_copy_184 rfl ?_
                                      refine y_getR C zCl6 20 flX6_32 rfl rfl rfl dX6_copy_185 ?_
                                      refine z_bipush C dX6_copy_188 (by decide) ?_
                                      refine z_iload_n C 2 rfl dX6_copy_190 rfl ?_
                                      refine z_imul C dX6_copy_191 ?_
                                      refine z_iload C 4 rfl dX6_copy_192 ?_
                                      refine z_iadd C dX6_copy_194 ?_
                                      refine z_iload C 6 rfl dX6_copy_195 ?_
                                      refine z_iadd C dX6_copy_197 ?_
                                      refine z_aload_n C 0 rfl dX6_copy_198 rfl ?_
                                      refine y_getR C zCl6 20 flX6_32 rfl rfl rfl dX6_copy_199 ?_
                                      refine z_bipush C dX6_copy_202 (by decide) ?_
                                      refine z_iload_n C 1 rfl dX6_copy_204 rfl ?_
                                      refine z_imul C dX6_copy_205 ?_
                                      refine z_iload_n C 3 rfl dX6_copy_206 rfl ?_
                                      refine z_iadd C dX6_copy_207 ?_
                                      refine z_iload C 6 rfl dX6_copy_208 ?_
                                      refine z_iadd C dX6_copy_210 ?_
                                      refine y_lald C (40 * pn + xi + (kn - 1 - e)) (by omega) rfl (by omega) (by decide) dX6_copy_211 ?_
                                      refine y_last C (40 * rn + xj + (kn - 1 - e)) (by omega) rfl (by omega) (by decide) dX6_copy_212 ?_
                                      obtain ⟨v9, ev9⟩ : ∃ y : Int, y = ((kn : Int) - 1 - (e : Int)) + (-1) := ⟨_, rfl⟩
                                      refine z_iinc C 6 v9 [(6, .int (iI v9)), (0, .ref 58), (1, .int (iI ((pn : Int)))), (2, .int (iI ((rn : Int)))), (3, .int (iI ((xi : Int)))), (4, .int (iI ((xj : Int)))), (5, .int (iI ((kn : Int))))] dX6_copy_213 rfl ev9.symm (by decide) rfl ?_
                                      refine z_goto C 179 dX6_copy_216 (by decide) ?_
                                      refine zZ_sub [1, 2, 3, 4, 5, 6, 0] rfl ?_
                                      refine zZ_cast (by refine congrArg (fun J' => zst I J' q) ?_; exact cpB_s (by omega) (by omega)) (zLk (zLk (zLk (zLk (zLk (zLk (zLc (by omega) rfl))))))) rfl (kke trivial)
                                  · intro hpe
                                    rw [cpB_n]
                                    refine z_iload C 6 rfl dX6_copy_179 ?_
                                    refine z_if_lt C 219 dX6_copy_181 (by decide) (by omega) (fun h181 => ?_) (fun h181 => ?_)
                                    · refine z_goto C 267 dX6_copy_219 (by decide) ?_
                                      refine z_iload C 5 rfl dX6_copy_267 ?_
                                      exact zZ_iret C hR (Nat.le_refl _) (Nat.le_refl _) dX6_copy_269 rfl (zIs_I (by rw [uR0 (show fCopy (VI I) p r i j k = 0 by (try simp only [decide_eq_true_eq, decide_eq_false_iff_not, bI] at *); (rw [fCp_V]; first | exact if_pos (by omega) | (rw [if_neg (by omega)]; first | exact if_pos (by omega) | (rw [if_neg (by omega)]; first | exact if_pos (by omega) | (rw [if_neg (by omega)]; first | exact if_pos (by omega) | exact if_neg (by omega))))))]; omega) (by rw [uK0 (show fCopy (VI I) p r i j k = 0 by (try simp only [decide_eq_true_eq, decide_eq_false_iff_not, bI] at *); (rw [fCp_V]; first | exact if_pos (by omega) | (rw [if_neg (by omega)]; first | exact if_pos (by omega) | (rw [if_neg (by omega)]; first | exact if_pos (by omega) | (rw [if_neg (by omega)]; first | exact if_pos (by omega) | exact if_neg (by omega)))))), uJ0 (show fCopy (VI I) p r i j k = 0 by (try simp only [decide_eq_true_eq, decide_eq_false_iff_not, bI] at *); (rw [fCp_V]; first | exact if_pos (by omega) | (rw [if_neg (by omega)]; first | exact if_pos (by omega) | (rw [if_neg (by omega)]; first | exact if_pos (by omega) | (rw [if_neg (by omega)]; first | exact if_pos (by omega) | exact if_neg (by omega))))))]; (first | done | (rw [hpt, hrt, hit, hjt, hkt]))))
                                    · omega
                            · have hx : ¬ (j + k ≤ I 65 r.toNat) := fun z => h151 (hc2.1.mpr z)
                              refine z_aload_n C 0 rfl dX6_copy_155 rfl ?_
                              refine z_bipush C dX6_copy_156 (by decide) ?_
                              refine y_callV1 C oX6_no iX6_no eX6_no lkX6_83 (c_X6_no (by first | assumption | omega)) rfl (by decide) rfl rfl (by decide) (Nat.le_refl _) (Nat.le_refl _) (Nat.le_of_ble_eq_true rfl) dX6_copy_158 ?_
                              exact zZ_iret C hR (Nat.le_refl _) (Nat.le_refl _) dX6_copy_161 rfl (zIs_I (uRc (show fCopy (VI I) p r i j k = -2 by (try simp only [decide_eq_true_eq, decide_eq_false_iff_not, bI] at *); (rw [fCp_V]; first | exact if_pos (by omega) | (rw [if_neg (by omega)]; first | exact if_pos (by omega) | (rw [if_neg (by omega)]; first | exact if_pos (by omega) | (rw [if_neg (by omega)]; first | exact if_pos (by omega) | exact if_neg (by omega)))))) (by decide)).symm (by rw [uKc (show fCopy (VI I) p r i j k = -2 by (try simp only [decide_eq_true_eq, decide_eq_false_iff_not, bI] at *); (rw [fCp_V]; first | exact if_pos (by omega) | (rw [if_neg (by omega)]; first | exact if_pos (by omega) | (rw [if_neg (by omega)]; first | exact if_pos (by omega) | (rw [if_neg (by omega)]; first | exact if_pos (by omega) | exact if_neg (by omega)))))) (by decide), uJc (show fCopy (VI I) p r i j k = -2 by (try simp only [decide_eq_true_eq, decide_eq_false_iff_not, bI] at *); (rw [fCp_V]; first | exact if_pos (by omega) | (rw [if_neg (by omega)]; first | exact if_pos (by omega) | (rw [if_neg (by omega)]; first | exact if_pos (by omega) | (rw [if_neg (by omega)]; first | exact if_pos (by omega) | exact if_neg (by omega)))))) (by decide)]))
                  · refine z_aload_n C 0 rfl dX6_copy_99 rfl ?_
                    refine z_bipush C dX6_copy_100 (by decide) ?_
                    refine y_callV1 C oX6_no iX6_no eX6_no lkX6_83 (c_X6_no (by first | assumption | omega)) rfl (by decide) rfl rfl (by decide) (Nat.le_refl _) (Nat.le_refl _) (Nat.le_of_ble_eq_true rfl) dX6_copy_102 ?_
                    exact zZ_iret C hR (Nat.le_refl _) (Nat.le_refl _) dX6_copy_105 rfl (zIs_I (uRc (show fCopy (VI I) p r i j k = -4 by (try simp only [decide_eq_true_eq, decide_eq_false_iff_not, bI] at *); (rw [fCp_V]; first | exact if_pos (by omega) | (rw [if_neg (by omega)]; first | exact if_pos (by omega) | (rw [if_neg (by omega)]; first | exact if_pos (by omega) | (rw [if_neg (by omega)]; first | exact if_pos (by omega) | exact if_neg (by omega)))))) (by decide)).symm (by rw [uKc (show fCopy (VI I) p r i j k = -4 by (try simp only [decide_eq_true_eq, decide_eq_false_iff_not, bI] at *); (rw [fCp_V]; first | exact if_pos (by omega) | (rw [if_neg (by omega)]; first | exact if_pos (by omega) | (rw [if_neg (by omega)]; first | exact if_pos (by omega) | (rw [if_neg (by omega)]; first | exact if_pos (by omega) | exact if_neg (by omega)))))) (by decide), uJc (show fCopy (VI I) p r i j k = -4 by (try simp only [decide_eq_true_eq, decide_eq_false_iff_not, bI] at *); (rw [fCp_V]; first | exact if_pos (by omega) | (rw [if_neg (by omega)]; first | exact if_pos (by omega) | (rw [if_neg (by omega)]; first | exact if_pos (by omega) | (rw [if_neg (by omega)]; first | exact if_pos (by omega) | exact if_neg (by omega)))))) (by decide)]))
              · refine z_aload_n C 0 rfl dX6_copy_74 rfl ?_
                refine z_bipush C dX6_copy_75 (by decide) ?_
                refine y_callV1 C oX6_no iX6_no eX6_no lkX6_83 (c_X6_no (by first | assumption | omega)) rfl (by decide) rfl rfl (by decide) (Nat.le_refl _) (Nat.le_refl _) (Nat.le_of_ble_eq_true rfl) dX6_copy_77 ?_
                exact zZ_iret C hR (Nat.le_refl _) (Nat.le_refl _) dX6_copy_80 rfl (zIs_I (uRc (show fCopy (VI I) p r i j k = -3 by (try simp only [decide_eq_true_eq, decide_eq_false_iff_not, bI] at *); (rw [fCp_V]; first | exact if_pos (by omega) | (rw [if_neg (by omega)]; first | exact if_pos (by omega) | (rw [if_neg (by omega)]; first | exact if_pos (by omega) | (rw [if_neg (by omega)]; first | exact if_pos (by omega) | exact if_neg (by omega)))))) (by decide)).symm (by rw [uKc (show fCopy (VI I) p r i j k = -3 by (try simp only [decide_eq_true_eq, decide_eq_false_iff_not, bI] at *); (rw [fCp_V]; first | exact if_pos (by omega) | (rw [if_neg (by omega)]; first | exact if_pos (by omega) | (rw [if_neg (by omega)]; first | exact if_pos (by omega) | (rw [if_neg (by omega)]; first | exact if_pos (by omega) | exact if_neg (by omega)))))) (by decide), uJc (show fCopy (VI I) p r i j k = -3 by (try simp only [decide_eq_true_eq, decide_eq_false_iff_not, bI] at *); (rw [fCp_V]; first | exact if_pos (by omega) | (rw [if_neg (by omega)]; first | exact if_pos (by omega) | (rw [if_neg (by omega)]; first | exact if_pos (by omega) | (rw [if_neg (by omega)]; first | exact if_pos (by omega) | exact if_neg (by omega)))))) (by decide)]))
    · refine z_aload_n C 0 rfl dX6_copy_14 rfl ?_
      refine z_bipush C dX6_copy_15 (by decide) ?_
      refine y_callV1 C oX6_no iX6_no eX6_no lkX6_83 (c_X6_no (by first | assumption | omega)) rfl (by decide) rfl rfl (by decide) (Nat.le_refl _) (Nat.le_refl _) (Nat.le_of_ble_eq_true rfl) dX6_copy_17 ?_
      exact zZ_iret C hR (Nat.le_refl _) (Nat.le_refl _) dX6_copy_20 rfl (zIs_I (uRc (show fCopy (VI I) p r i j k = -2 by (try simp only [decide_eq_true_eq, decide_eq_false_iff_not, bI] at *); (rw [fCp_V]; first | exact if_pos (by omega) | (rw [if_neg (by omega)]; first | exact if_pos (by omega) | (rw [if_neg (by omega)]; first | exact if_pos (by omega) | (rw [if_neg (by omega)]; first | exact if_pos (by omega) | exact if_neg (by omega)))))) (by decide)).symm (by rw [uKc (show fCopy (VI I) p r i j k = -2 by (try simp only [decide_eq_true_eq, decide_eq_false_iff_not, bI] at *); (rw [fCp_V]; first | exact if_pos (by omega) | (rw [if_neg (by omega)]; first | exact if_pos (by omega) | (rw [if_neg (by omega)]; first | exact if_pos (by omega) | (rw [if_neg (by omega)]; first | exact if_pos (by omega) | exact if_neg (by omega)))))) (by decide), uJc (show fCopy (VI I) p r i j k = -2 by (try simp only [decide_eq_true_eq, decide_eq_false_iff_not, bI] at *); (rw [fCp_V]; first | exact if_pos (by omega) | (rw [if_neg (by omega)]; first | exact if_pos (by omega) | (rw [if_neg (by omega)]; first | exact if_pos (by omega) | (rw [if_neg (by omega)]; first | exact if_pos (by omega) | exact if_neg (by omega)))))) (by decide)]))
