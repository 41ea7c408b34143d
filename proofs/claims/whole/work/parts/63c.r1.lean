set_option maxHeartbeats 4000000 in
set_option maxRecDepth 100000 in
theorem c_X6_beside {g : zG} {I : Nat → Nat → Int} {J : Nat → Nat → Int64} {q : Nat × Nat} {c : Int} {k : Nat} (hgr : gR I) (hc : gC7 c) (hk : k < 5) : zRun g mX6_beside 1 [.ref 58, .int (iI c), .int (iI ((k : Int)))] (zst I J q) (some (.int (iI (bsN (I 58 0) (maskW (I 59)) c k)))) (zst I J q) := by
  obtain ⟨b1, b2, b3, b4, b5, b6, b7⟩ := id hgr
  have c' := hc.1
  have c'' := hc.2
  refine zRuns_intro rfl (Nat.le_of_ble_eq_true rfl) (fun X C hR => ?_)
  show zZ g X 0 0 _ 0 [(0, .ref 58), (1, .int (iI c)), (2, .int (iI ((k : Int))))] []
  refine z_iload_n C 1 rfl dX6_beside_0 rfl ?_
  refine z_bipush C dX6_beside_1 (by decide) ?_
  refine z_idiv C dX6_beside_3 (by omega) (by omega) ?_
  refine z_iload_n C 2 rfl dX6_beside_4 rfl ?_
  refine z_iconst C dX6_beside_5 ?_
  refine z_icmp_ne C 13 dX6_beside_6 (by decide) (by omega) (by omega) (fun h6 => ?_) (fun h6 => ?_)
  · refine z_iload_n C 2 rfl dX6_beside_13 rfl ?_
    refine z_iconst C dX6_beside_14 ?_
    refine z_icmp_ne C 22 dX6_beside_15 (by decide) (by omega) (by omega) (fun h15 => ?_) (fun h15 => ?_)
    · refine z_iconst C dX6_beside_22 ?_
      refine z_iadd C dX6_beside_23 ?_
      refine z_topI C (fun rr err => ?_)
      refine z_istore_n C [(3, .int (iI rr)), (0, .ref 58), (1, .int (iI c)), (2, .int (iI ((k : Int))))] dX6_beside_24 rfl (by decide) rfl ?_
      refine z_iload_n C 2 rfl dX6_beside_25 rfl ?_
      refine z_bipush C dX6_beside_26 (by decide) ?_
      refine z_irem C dX6_beside_28 (by omega) (by omega) ?_
      refine z_iload_n C 3 rfl dX6_beside_29 rfl ?_
      refine z_iconst C dX6_beside_30 ?_
      refine z_icmp_ne C 38 dX6_beside_31 (by decide) (by omega) (by omega) (fun h31 => ?_) (fun h31 => ?_)
      · refine z_iload_n C 3 rfl dX6_beside_38 rfl ?_
        refine z_iconst C dX6_beside_39 ?_
        refine z_icmp_ne C 47 dX6_beside_40 (by decide) (by omega) (by omega) (fun h40 => ?_) (fun h40 => ?_)
        · refine z_iconst C dX6_beside_47 ?_
          refine z_iadd C dX6_beside_48 ?_
          refine z_topI C (fun cl ecl => ?_)
          refine z_istore C [(4, .int (iI cl)), (3, .int (iI rr)), (0, .ref 58), (1, .int (iI c)), (2, .int (iI ((k : Int))))] dX6_beside_49 (by decide) rfl ?_
          have hbe := beside_eq (n := I 58 0) (f := I 59) (k := k) (rw := rr) (cl := cl) b1 hc hk (by rw [err]; (repeat' split) <;> omega) (by rw [ecl]; (repeat' split) <;> omega)
          have hrr : -1 ≤ rr ∧ rr ≤ 7 := by omega
          have hcc : -1 ≤ cl ∧ cl ≤ 7 := by omega
          refine z_iload_n C 1 rfl dX6_beside_51 rfl ?_
          refine z_iconst C dX6_beside_52 ?_
          refine z_aload_n C 2 rfl dX6_beside_53 rfl ?_
          refine y_getI C zCl6 0 flX6_57 rfl rfl dX6_beside_54 ?_
          refine z_iconst C dX6_beside_57 ?_
          refine z_isub C dX6_beside_58 ?_
          refine y_callS3 C oX6_within sX6_within lkX6_75 (c_X6_within (by first | assumption | omega) (by first | assumption | omega) (by first | assumption | omega)) (by decide) (Nat.le_refl _) (Nat.le_refl _) (Nat.le_of_ble_eq_true rfl) dX6_beside_59 ?_
          refine y_if_eqB C 95 dX6_beside_62 (by decide) (fun h62 => ?_) (fun h62 => ?_)
          · refine z_iconst C dX6_beside_95 ?_
            exact zZ_iret C hR (Nat.le_refl _) (Nat.le_refl _) dX6_beside_96 rfl (zIs_I (by unfold bsN openN; rw [hbe.2 (fun z => by simp at h62; omega)]; rfl) rfl)
          · have h62 : 0 ≤ rr ∧ rr ≤ I 58 0 - 1 := by simpa using h62
            refine z_iload C 0 rfl dX6_beside_65 ?_
            refine z_iconst C dX6_beside_67 ?_
            refine z_aload_n C 2 rfl dX6_beside_68 rfl ?_
            refine y_getI C zCl6 0 flX6_57 rfl rfl dX6_beside_69 ?_
            refine z_iconst C dX6_beside_72 ?_
            refine z_isub C dX6_beside_73 ?_
            refine y_callS3 C oX6_within sX6_within lkX6_75 (c_X6_within (by first | assumption | omega) (by first | assumption | omega) (by first | assumption | omega)) (by decide) (Nat.le_refl _) (Nat.le_refl _) (Nat.le_of_ble_eq_true rfl) dX6_beside_74 ?_
            refine y_if_eqB C 95 dX6_beside_77 (by decide) (fun h77 => ?_) (fun h77 => ?_)
            · refine z_iconst C dX6_beside_95 ?_
              exact zZ_iret C hR (Nat.le_refl _) (Nat.le_refl _) dX6_beside_96 rfl (zIs_I (by unfold bsN openN; rw [hbe.2 (fun z => by simp at h77; omega)]; rfl) rfl)
            · have h77 : 0 ≤ cl ∧ cl ≤ I 58 0 - 1 := by simpa using h77
              have hbe2 := hbe.1 ⟨h62, h77⟩
              have hw7 := b7 (10 * rr + cl).toNat (by omega)
              have hwm : wallL (maskW (I 59)) (c + shN k) = decide (I 59 (10 * rr + cl).toNat = 1) := by
                rw [show c + shN k = ((10 * rr + cl).toNat : Int) by omega]
                exact wallM (by omega) (by omega)
              refine z_aload_n C 2 rfl dX6_beside_80 rfl ?_
              refine y_getR C zCl6 1 flX6_7 rfl rfl rfl dX6_beside_81 ?_
              refine z_bipush C dX6_beside_84 (by decide) ?_
              refine z_iload_n C 1 rfl dX6_beside_86 rfl ?_
              refine z_imul C dX6_beside_87 ?_
              refine z_iload C 0 rfl dX6_beside_88 ?_
              refine z_iadd C dX6_beside_90 ?_
              refine y_zald C (10 * rr + cl).toNat (by omega) rfl (by omega) (by decide) dX6_beside_91 ?_
              refine z_top C (I 59 (10 * rr + cl).toNat) rfl ?_
              refine z_if_eq C 97 dX6_beside_92 (by decide) (by omega) (fun h92 => ?_) (fun h92 => ?_)
              · refine z_bipush C dX6_beside_97 (by decide) ?_
                refine z_iload_n C 1 rfl dX6_beside_99 rfl ?_
                refine z_imul C dX6_beside_100 ?_
                refine z_iload C 0 rfl dX6_beside_101 ?_
                refine z_iadd C dX6_beside_103 ?_
                exact zZ_iret C hR (Nat.le_refl _) (Nat.le_refl _) dX6_beside_104 rfl (zIs_I (by unfold bsN openN; rw [hbe2.2, hwm, decide_eq_false (by omega), if_pos (by decide)]; exact hbe2.1.symm) rfl)
              · refine z_iconst C dX6_beside_95 ?_
                exact zZ_iret C hR (Nat.le_refl _) (Nat.le_refl _) dX6_beside_96 rfl (zIs_I (by unfold bsN openN; rw [hbe2.2, hwm, decide_eq_true (by omega)]; rfl) rfl)
        · refine z_iconst C dX6_beside_43 ?_
          refine z_goto C 48 dX6_beside_44 (by decide) ?_
          refine z_iadd C dX6_beside_48 ?_
          refine z_topI C (fun cl ecl => ?_)
          refine z_istore C [(4, .int (iI cl)), (3, .int (iI rr)), (0, .ref 58), (1, .int (iI c)), (2, .int (iI ((k : Int))))] dX6_beside_49 (by decide) rfl ?_
          have hbe := beside_eq (n := I 58 0) (f := I 59) (k := k) (rw := rr) (cl := cl) b1 hc hk (by rw [err]; (repeat' split) <;> omega) (by rw [ecl]; (repeat' split) <;> omega)
          have hrr : -1 ≤ rr ∧ rr ≤ 7 := by omega
          have hcc : -1 ≤ cl ∧ cl ≤ 7 := by omega
          refine z_iload_n C 1 rfl dX6_beside_51 rfl ?_
          refine z_iconst C dX6_beside_52 ?_
          refine z_aload_n C 2 rfl dX6_beside_53 rfl ?_
          refine y_getI C zCl6 0 flX6_57 rfl rfl dX6_beside_54 ?_
          refine z_iconst C dX6_beside_57 ?_
          refine z_isub C dX6_beside_58 ?_
          refine y_callS3 C oX6_within sX6_within lkX6_75 (c_X6_within (by first | assumption | omega) (by first | assumption | omega) (by first | assumption | omega)) (by decide) (Nat.le_refl _) (Nat.le_refl _) (Nat.le_of_ble_eq_true rfl) dX6_beside_59 ?_
          refine y_if_eqB C 95 dX6_beside_62 (by decide) (fun h62 => ?_) (fun h62 => ?_)
          · refine z_iconst C dX6_beside_95 ?_
            exact zZ_iret C hR (Nat.le_refl _) (Nat.le_refl _) dX6_beside_96 rfl (zIs_I (by unfold bsN openN; rw [hbe.2 (fun z => by simp at h62; omega)]; rfl) rfl)
          · have h62 : 0 ≤ rr ∧ rr ≤ I 58 0 - 1 := by simpa using h62
            refine z_iload C 0 rfl dX6_beside_65 ?_
            refine z_iconst C dX6_beside_67 ?_
            refine z_aload_n C 2 rfl dX6_beside_68 rfl ?_
            refine y_getI C zCl6 0 flX6_57 rfl rfl dX6_beside_69 ?_
            refine z_iconst C dX6_beside_72 ?_
            refine z_isub C dX6_beside_73 ?_
            refine y_callS3 C oX6_within sX6_within lkX6_75 (c_X6_within (by first | assumption | omega) (by first | assumption | omega) (by first | assumption | omega)) (by decide) (Nat.le_refl _) (Nat.le_refl _) (Nat.le_of_ble_eq_true rfl) dX6_beside_74 ?_
            refine y_if_eqB C 95 dX6_beside_77 (by decide) (fun h77 => ?_) (fun h77 => ?_)
            · refine z_iconst C dX6_beside_95 ?_
              exact zZ_iret C hR (Nat.le_refl _) (Nat.le_refl _) dX6_beside_96 rfl (zIs_I (by unfold bsN openN; rw [hbe.2 (fun z => by simp at h77; omega)]; rfl) rfl)
            · have h77 : 0 ≤ cl ∧ cl ≤ I 58 0 - 1 := by simpa using h77
              have hbe2 := hbe.1 ⟨h62, h77⟩
              have hw7 := b7 (10 * rr + cl).toNat (by omega)
              have hwm : wallL (maskW (I 59)) (c + shN k) = decide (I 59 (10 * rr + cl).toNat = 1) := by
                rw [show c + shN k = ((10 * rr + cl).toNat : Int) by omega]
                exact wallM (by omega) (by omega)
              refine z_aload_n C 2 rfl dX6_beside_80 rfl ?_
              refine y_getR C zCl6 1 flX6_7 rfl rfl rfl dX6_beside_81 ?_
              refine z_bipush C dX6_beside_84 (by decide) ?_
              refine z_iload_n C 1 rfl dX6_beside_86 rfl ?_
              refine z_imul C dX6_beside_87 ?_
              refine z_iload C 0 rfl dX6_beside_88 ?_
              refine z_iadd C dX6_beside_90 ?_
              refine y_zald C (10 * rr + cl).toNat (by omega) rfl (by omega) (by decide) dX6_beside_91 ?_
              refine z_top C (I 59 (10 * rr + cl).toNat) rfl ?_
              refine z_if_eq C 97 dX6_beside_92 (by decide) (by omega) (fun h92 => ?_) (fun h92 => ?_)
              · refine z_bipush C dX6_beside_97 (by decide) ?_
                refine z_iload_n C 1 rfl dX6_beside_99 rfl ?_
                refine z_imul C dX6_beside_100 ?_
                refine z_iload C 0 rfl dX6_beside_101 ?_
                refine z_iadd C dX6_beside_103 ?_
                exact zZ_iret C hR (Nat.le_refl _) (Nat.le_refl _) dX6_beside_104 rfl (zIs_I (by unfold bsN openN; rw [hbe2.2, hwm, decide_eq_false (by omega), if_pos (by decide)]; exact hbe2.1.symm) rfl)
              · refine z_iconst C dX6_beside_95 ?_
                exact zZ_iret C hR (Nat.le_refl _) (Nat.le_refl _) dX6_beside_96 rfl (zIs_I (by unfold bsN openN; rw [hbe2.2, hwm, decide_eq_true (by omega)]; rfl) rfl)
      · refine z_iconst C dX6_beside_34 ?_
        refine z_goto C 48 dX6_beside_35 (by decide) ?_
        refine z_iadd C dX6_beside_48 ?_
        refine z_topI C (fun cl ecl => ?_)
        refine z_istore C [(4, .int (iI cl)), (3, .int (iI rr)), (0, .ref 58), (1, .int (iI c)), (2, .int (iI ((k : Int))))] dX6_beside_49 (by decide) rfl ?_
        have hbe := beside_eq (n := I 58 0) (f := I 59) (k := k) (rw := rr) (cl := cl) b1 hc hk (by rw [err]; (repeat' split) <;> omega) (by rw [ecl]; (repeat' split) <;> omega)
        have hrr : -1 ≤ rr ∧ rr ≤ 7 := by omega
        have hcc : -1 ≤ cl ∧ cl ≤ 7 := by omega
        refine z_iload_n C 1 rfl dX6_beside_51 rfl ?_
        refine z_iconst C dX6_beside_52 ?_
        refine z_aload_n C 2 rfl dX6_beside_53 rfl ?_
        refine y_getI C zCl6 0 flX6_57 rfl rfl dX6_beside_54 ?_
        refine z_iconst C dX6_beside_57 ?_
        refine z_isub C dX6_beside_58 ?_
        refine y_callS3 C oX6_within sX6_within lkX6_75 (c_X6_within (by first | assumption | omega) (by first | assumption | omega) (by first | assumption | omega)) (by decide) (Nat.le_refl _) (Nat.le_refl _) (Nat.le_of_ble_eq_true rfl) dX6_beside_59 ?_
        refine y_if_eqB C 95 dX6_beside_62 (by decide) (fun h62 => ?_) (fun h62 => ?_)
        · refine z_iconst C dX6_beside_95 ?_
          exact zZ_iret C hR (Nat.le_refl _) (Nat.le_refl _) dX6_beside_96 rfl (zIs_I (by unfold bsN openN; rw [hbe.2 (fun z => by simp at h62; omega)]; rfl) rfl)
        · have h62 : 0 ≤ rr ∧ rr ≤ I 58 0 - 1 := by simpa using h62
          refine z_iload C 0 rfl dX6_beside_65 ?_
          refine z_iconst C dX6_beside_67 ?_
          refine z_aload_n C 2 rfl dX6_beside_68 rfl ?_
          refine y_getI C zCl6 0 flX6_57 rfl rfl dX6_beside_69 ?_
          refine z_iconst C dX6_beside_72 ?_
          refine z_isub C dX6_beside_73 ?_
          refine y_callS3 C oX6_within sX6_within lkX6_75 (c_X6_within (by first | assumption | omega) (by first | assumption | omega) (by first | assumption | omega)) (by decide) (Nat.le_refl _) (Nat.le_refl _) (Nat.le_of_ble_eq_true rfl) dX6_beside_74 ?_
          refine y_if_eqB C 95 dX6_beside_77 (by decide) (fun h77 => ?_) (fun h77 => ?_)
          · refine z_iconst C dX6_beside_95 ?_
            exact zZ_iret C hR (Nat.le_refl _) (Nat.le_refl _) dX6_beside_96 rfl (zIs_I (by unfold bsN openN; rw [hbe.2 (fun z => by simp at h77; omega)]; rfl) rfl)
          · have h77 : 0 ≤ cl ∧ cl ≤ I 58 0 - 1 := by simpa using h77
            have hbe2 := hbe.1 ⟨h62, h77⟩
            have hw7 := b7 (10 * rr + cl).toNat (by omega)
            have hwm : wallL (maskW (I 59)) (c + shN k) = decide (I 59 (10 * rr + cl).toNat = 1) := by
              rw [show c + shN k = ((10 * rr + cl).toNat : Int) by omega]
              exact wallM (by omega) (by omega)
            refine z_aload_n C 2 rfl dX6_beside_80 rfl ?_
            refine y_getR C zCl6 1 flX6_7 rfl rfl rfl dX6_beside_81 ?_
            refine z_bipush C dX6_beside_84 (by decide) ?_
            refine z_iload_n C 1 rfl dX6_beside_86 rfl ?_
            refine z_imul C dX6_beside_87 ?_
            refine z_iload C 0 rfl dX6_beside_88 ?_
            refine z_iadd C dX6_beside_90 ?_
            refine y_zald C (10 * rr + cl).toNat (by omega) rfl (by omega) (by decide) dX6_beside_91 ?_
            refine z_top C (I 59 (10 * rr + cl).toNat) rfl ?_
            refine z_if_eq C 97 dX6_beside_92 (by decide) (by omega) (fun h92 => ?_) (fun h92 => ?_)
            · refine z_bipush C dX6_beside_97 (by decide) ?_
              refine z_iload_n C 1 rfl dX6_beside_99 rfl ?_
              refine z_imul C dX6_beside_100 ?_
              refine z_iload C 0 rfl dX6_beside_101 ?_
              refine z_iadd C dX6_beside_103 ?_
              exact zZ_iret C hR (Nat.le_refl _) (Nat.le_refl _) dX6_beside_104 rfl (zIs_I (by unfold bsN openN; rw [hbe2.2, hwm, decide_eq_false (by omega), if_pos (by decide)]; exact hbe2.1.symm) rfl)
            · refine z_iconst C dX6_beside_95 ?_
              exact zZ_iret C hR (Nat.le_refl _) (Nat.le_refl _) dX6_beside_96 rfl (zIs_I (by unfold bsN openN; rw [hbe2.2, hwm, decide_eq_true (by omega)]; rfl) rfl)
    · refine z_iconst C dX6_beside_18 ?_
      refine z_goto C 23 dX6_beside_19 (by decide) ?_
      refine z_iadd C dX6_beside_23 ?_
      refine z_topI C (fun rr err => ?_)
      refine z_istore_n C [(3, .int (iI rr)), (0, .ref 58), (1, .int (iI c)), (2, .int (iI ((k : Int))))] dX6_beside_24 rfl (by decide) rfl ?_
      refine z_iload_n C 2 rfl dX6_beside_25 rfl ?_
      refine z_bipush C dX6_beside_26 (by decide) ?_
      refine z_irem C dX6_beside_28 (by omega) (by omega) ?_
      refine z_iload_n C 3 rfl dX6_beside_29 rfl ?_
      refine z_iconst C dX6_beside_30 ?_
      refine z_icmp_ne C 38 dX6_beside_31 (by decide) (by omega) (by omega) (fun h31 => ?_) (fun h31 => ?_)
      · refine z_iload_n C 3 rfl dX6_beside_38 rfl ?_
        refine z_iconst C dX6_beside_39 ?_
        refine z_icmp_ne C 47 dX6_beside_40 (by decide) (by omega) (by omega) (fun h40 => ?_) (fun h40 => ?_)
        · refine z_iconst C dX6_beside_47 ?_
          refine z_iadd C dX6_beside_48 ?_
          refine z_topI C (fun cl ecl => ?_)
          refine z_istore C [(4, .int (iI cl)), (3, .int (iI rr)), (0, .ref 58), (1, .int (iI c)), (2, .int (iI ((k : Int))))] dX6_beside_49 (by decide) rfl ?_
          have hbe := beside_eq (n := I 58 0) (f := I 59) (k := k) (rw := rr) (cl := cl) b1 hc hk (by rw [err]; (repeat' split) <;> omega) (by rw [ecl]; (repeat' split) <;> omega)
          have hrr : -1 ≤ rr ∧ rr ≤ 7 := by omega
          have hcc : -1 ≤ cl ∧ cl ≤ 7 := by omega
          refine z_iload_n C 1 rfl dX6_beside_51 rfl ?_
          refine z_iconst C dX6_beside_52 ?_
          refine z_aload_n C 2 rfl dX6_beside_53 rfl ?_
          refine y_getI C zCl6 0 flX6_57 rfl rfl dX6_beside_54 ?_
          refine z_iconst C dX6_beside_57 ?_
          refine z_isub C dX6_beside_58 ?_
          refine y_callS3 C oX6_within sX6_within lkX6_75 (c_X6_within (by first | assumption | omega) (by first | assumption | omega) (by first | assumption | omega)) (by decide) (Nat.le_refl _) (Nat.le_refl _) (Nat.le_of_ble_eq_true rfl) dX6_beside_59 ?_
          refine y_if_eqB C 95 dX6_beside_62 (by decide) (fun h62 => ?_) (fun h62 => ?_)
          · refine z_iconst C dX6_beside_95 ?_
            exact zZ_iret C hR (Nat.le_refl _) (Nat.le_refl _) dX6_beside_96 rfl (zIs_I (by unfold bsN openN; rw [hbe.2 (fun z => by simp at h62; omega)]; rfl) rfl)
          · have h62 : 0 ≤ rr ∧ rr ≤ I 58 0 - 1 := by simpa using h62
            refine z_iload C 0 rfl dX6_beside_65 ?_
            refine z_iconst C dX6_beside_67 ?_
            refine z_aload_n C 2 rfl dX6_beside_68 rfl ?_
            refine y_getI C zCl6 0 flX6_57 rfl rfl dX6_beside_69 ?_
            refine z_iconst C dX6_beside_72 ?_
            refine z_isub C dX6_beside_73 ?_
            refine y_callS3 C oX6_within sX6_within lkX6_75 (c_X6_within (by first | assumption | omega) (by first | assumption | omega) (by first | assumption | omega)) (by decide) (Nat.le_refl _) (Nat.le_refl _) (Nat.le_of_ble_eq_true rfl) dX6_beside_74 ?_
            refine y_if_eqB C 95 dX6_beside_77 (by decide) (fun h77 => ?_) (fun h77 => ?_)
            · refine z_iconst C dX6_beside_95 ?_
              exact zZ_iret C hR (Nat.le_refl _) (Nat.le_refl _) dX6_beside_96 rfl (zIs_I (by unfold bsN openN; rw [hbe.2 (fun z => by simp at h77; omega)]; rfl) rfl)
            · have h77 : 0 ≤ cl ∧ cl ≤ I 58 0 - 1 := by simpa using h77
              have hbe2 := hbe.1 ⟨h62, h77⟩
              have hw7 := b7 (10 * rr + cl).toNat (by omega)
              have hwm : wallL (maskW (I 59)) (c + shN k) = decide (I 59 (10 * rr + cl).toNat = 1) := by
                rw [show c + shN k = ((10 * rr + cl).toNat : Int) by omega]
                exact wallM (by omega) (by omega)
              refine z_aload_n C 2 rfl dX6_beside_80 rfl ?_
              refine y_getR C zCl6 1 flX6_7 rfl rfl rfl dX6_beside_81 ?_
              refine z_bipush C dX6_beside_84 (by decide) ?_
              refine z_iload_n C 1 rfl dX6_beside_86 rfl ?_
              refine z_imul C dX6_beside_87 ?_
              refine z_iload C 0 rfl dX6_beside_88 ?_
              refine z_iadd C dX6_beside_90 ?_
              refine y_zald C (10 * rr + cl).toNat (by omega) rfl (by omega) (by decide) dX6_beside_91 ?_
              refine z_top C (I 59 (10 * rr + cl).toNat) rfl ?_
              refine z_if_eq C 97 dX6_beside_92 (by decide) (by omega) (fun h92 => ?_) (fun h92 => ?_)
              · refine z_bipush C dX6_beside_97 (by decide) ?_
                refine z_iload_n C 1 rfl dX6_beside_99 rfl ?_
                refine z_imul C dX6_beside_100 ?_
                refine z_iload C 0 rfl dX6_beside_101 ?_
                refine z_iadd C dX6_beside_103 ?_
                exact zZ_iret C hR (Nat.le_refl _) (Nat.le_refl _) dX6_beside_104 rfl (zIs_I (by unfold bsN openN; rw [hbe2.2, hwm, decide_eq_false (by omega), if_pos (by decide)]; exact hbe2.1.symm) rfl)
              · refine z_iconst C dX6_beside_95 ?_
                exact zZ_iret C hR (Nat.le_refl _) (Nat.le_refl _) dX6_beside_96 rfl (zIs_I (by unfold bsN openN; rw [hbe2.2, hwm, decide_eq_true (by omega)]; rfl) rfl)
        · refine z_iconst C dX6_beside_43 ?_
          refine z_goto C 48 dX6_beside_44 (by decide) ?_
          refine z_iadd C dX6_beside_48 ?_
          refine z_topI C (fun cl ecl => ?_)
          refine z_istore C [(4, .int (iI cl)), (3, .int (iI rr)), (0, .ref 58), (1, .int (iI c)), (2, .int (iI ((k : Int))))] dX6_beside_49 (by decide) rfl ?_
          have hbe := beside_eq (n := I 58 0) (f := I 59) (k := k) (rw := rr) (cl := cl) b1 hc hk (by rw [err]; (repeat' split) <;> omega) (by rw [ecl]; (repeat' split) <;> omega)
          have hrr : -1 ≤ rr ∧ rr ≤ 7 := by omega
          have hcc : -1 ≤ cl ∧ cl ≤ 7 := by omega
          refine z_iload_n C 1 rfl dX6_beside_51 rfl ?_
          refine z_iconst C dX6_beside_52 ?_
          refine z_aload_n C 2 rfl dX6_beside_53 rfl ?_
          refine y_getI C zCl6 0 flX6_57 rfl rfl dX6_beside_54 ?_
          refine z_iconst C dX6_beside_57 ?_
          refine z_isub C dX6_beside_58 ?_
          refine y_callS3 C oX6_within sX6_within lkX6_75 (c_X6_within (by first | assumption | omega) (by first | assumption | omega) (by first | assumption | omega)) (by decide) (Nat.le_refl _) (Nat.le_refl _) (Nat.le_of_ble_eq_true rfl) dX6_beside_59 ?_
          refine y_if_eqB C 95 dX6_beside_62 (by decide) (fun h62 => ?_) (fun h62 => ?_)
          · refine z_iconst C dX6_beside_95 ?_
            exact zZ_iret C hR (Nat.le_refl _) (Nat.le_refl _) dX6_beside_96 rfl (zIs_I (by unfold bsN openN; rw [hbe.2 (fun z => by simp at h62; omega)]; rfl) rfl)
          · have h62 : 0 ≤ rr ∧ rr ≤ I 58 0 - 1 := by simpa using h62
            refine z_iload C 0 rfl dX6_beside_65 ?_
            refine z_iconst C dX6_beside_67 ?_
            refine z_aload_n C 2 rfl dX6_beside_68 rfl ?_
            refine y_getI C zCl6 0 flX6_57 rfl rfl dX6_beside_69 ?_
            refine z_iconst C dX6_beside_72 ?_
            refine z_isub C dX6_beside_73 ?_
            refine y_callS3 C oX6_within sX6_within lkX6_75 (c_X6_within (by first | assumption | omega) (by first | assumption | omega) (by first | assumption | omega)) (by decide) (Nat.le_refl _) (Nat.le_refl _) (Nat.le_of_ble_eq_true rfl) dX6_beside_74 ?_
            refine y_if_eqB C 95 dX6_beside_77 (by decide) (fun h77 => ?_) (fun h77 => ?_)
            · refine z_iconst C dX6_beside_95 ?_
              exact zZ_iret C hR (Nat.le_refl _) (Nat.le_refl _) dX6_beside_96 rfl (zIs_I (by unfold bsN openN; rw [hbe.2 (fun z => by simp at h77; omega)]; rfl) rfl)
            · have h77 : 0 ≤ cl ∧ cl ≤ I 58 0 - 1 := by simpa using h77
              have hbe2 := hbe.1 ⟨h62, h77⟩
              have hw7 := b7 (10 * rr + cl).toNat (by omega)
              have hwm : wallL (maskW (I 59)) (c + shN k) = decide (I 59 (10 * rr + cl).toNat = 1) := by
                rw [show c + shN k = ((10 * rr + cl).toNat : Int) by omega]
                exact wallM (by omega) (by omega)
              refine z_aload_n C 2 rfl dX6_beside_80 rfl ?_
              refine y_getR C zCl6 1 flX6_7 rfl rfl rfl dX6_beside_81 ?_
              refine z_bipush C dX6_beside_84 (by decide) ?_
              refine z_iload_n C 1 rfl dX6_beside_86 rfl ?_
              refine z_imul C dX6_beside_87 ?_
              refine z_iload C 0 rfl dX6_beside_88 ?_
              refine z_iadd C dX6_beside_90 ?_
              refine y_zald C (10 * rr + cl).toNat (by omega) rfl (by omega) (by decide) dX6_beside_91 ?_
              refine z_top C (I 59 (10 * rr + cl).toNat) rfl ?_
              refine z_if_eq C 97 dX6_beside_92 (by decide) (by omega) (fun h92 => ?_) (fun h92 => ?_)
              · refine z_bipush C dX6_beside_97 (by decide) ?_
                refine z_iload_n C 1 rfl dX6_beside_99 rfl ?_
                refine z_imul C dX6_beside_100 ?_
                refine z_iload C 0 rfl dX6_beside_101 ?_
                refine z_iadd C dX6_beside_103 ?_
                exact zZ_iret C hR (Nat.le_refl _) (Nat.le_refl _) dX6_beside_104 rfl (zIs_I (by unfold bsN openN; rw [hbe2.2, hwm, decide_eq_false (by omega), if_pos (by decide)]; exact hbe2.1.symm) rfl)
              · refine z_iconst C dX6_beside_95 ?_
                exact zZ_iret C hR (Nat.le_refl _) (Nat.le_refl _) dX6_beside_96 rfl (zIs_I (by unfold bsN openN; rw [hbe2.2, hwm, decide_eq_true (by omega)]; rfl) rfl)
      · refine z_iconst C dX6_beside_34 ?_
        refine z_goto C 48 dX6_beside_35 (by decide) ?_
        refine z_iadd C dX6_beside_48 ?_
        refine z_topI C (fun cl ecl => ?_)
        refine z_istore C [(4, .int (iI cl)), (3, .int (iI rr)), (0, .ref 58), (1, .int (iI c)), (2, .int (iI ((k : Int))))] dX6_beside_49 (by decide) rfl ?_
        have hbe := beside_eq (n := I 58 0) (f := I 59) (k := k) (rw := rr) (cl := cl) b1 hc hk (by rw [err]; (repeat' split) <;> omega) (by rw [ecl]; (repeat' split) <;> omega)
        have hrr : -1 ≤ rr ∧ rr ≤ 7 := by omega
        have hcc : -1 ≤ cl ∧ cl ≤ 7 := by omega
        refine z_iload_n C 1 rfl dX6_beside_51 rfl ?_
        refine z_iconst C dX6_beside_52 ?_
        refine z_aload_n C 2 rfl dX6_beside_53 rfl ?_
        refine y_getI C zCl6 0 flX6_57 rfl rfl dX6_beside_54 ?_
        refine z_iconst C dX6_beside_57 ?_
        refine z_isub C dX6_beside_58 ?_
        refine y_callS3 C oX6_within sX6_within lkX6_75 (c_X6_within (by first | assumption | omega) (by first | assumption | omega) (by first | assumption | omega)) (by decide) (Nat.le_refl _) (Nat.le_refl _) (Nat.le_of_ble_eq_true rfl) dX6_beside_59 ?_
        refine y_if_eqB C 95 dX6_beside_62 (by decide) (fun h62 => ?_) (fun h62 => ?_)
        · refine z_iconst C dX6_beside_95 ?_
          exact zZ_iret C hR (Nat.le_refl _) (Nat.le_refl _) dX6_beside_96 rfl (zIs_I (by unfold bsN openN; rw [hbe.2 (fun z => by simp at h62; omega)]; rfl) rfl)
        · have h62 : 0 ≤ rr ∧ rr ≤ I 58 0 - 1 := by simpa using h62
          refine z_iload C 0 rfl dX6_beside_65 ?_
          refine z_iconst C dX6_beside_67 ?_
          refine z_aload_n C 2 rfl dX6_beside_68 rfl ?_
          refine y_getI C zCl6 0 flX6_57 rfl rfl dX6_beside_69 ?_
          refine z_iconst C dX6_beside_72 ?_
          refine z_isub C dX6_beside_73 ?_
          refine y_callS3 C oX6_within sX6_within lkX6_75 (c_X6_within (by first | assumption | omega) (by first | assumption | omega) (by first | assumption | omega)) (by decide) (Nat.le_refl _) (Nat.le_refl _) (Nat.le_of_ble_eq_true rfl) dX6_beside_74 ?_
          refine y_if_eqB C 95 dX6_beside_77 (by decide) (fun h77 => ?_) (fun h77 => ?_)
          · refine z_iconst C dX6_beside_95 ?_
            exact zZ_iret C hR (Nat.le_refl _) (Nat.le_refl _) dX6_beside_96 rfl (zIs_I (by unfold bsN openN; rw [hbe.2 (fun z => by simp at h77; omega)]; rfl) rfl)
          · have h77 : 0 ≤ cl ∧ cl ≤ I 58 0 - 1 := by simpa using h77
            have hbe2 := hbe.1 ⟨h62, h77⟩
            have hw7 := b7 (10 * rr + cl).toNat (by omega)
            have hwm : wallL (maskW (I 59)) (c + shN k) = decide (I 59 (10 * rr + cl).toNat = 1) := by
              rw [show c + shN k = ((10 * rr + cl).toNat : Int) by omega]
              exact wallM (by omega) (by omega)
            refine z_aload_n C 2 rfl dX6_beside_80 rfl ?_
            refine y_getR C zCl6 1 flX6_7 rfl rfl rfl dX6_beside_81 ?_
            refine z_bipush C dX6_beside_84 (by decide) ?_
            refine z_iload_n C 1 rfl dX6_beside_86 rfl ?_
            refine z_imul C dX6_beside_87 ?_
            refine z_iload C 0 rfl dX6_beside_88 ?_
            refine z_iadd C dX6_beside_90 ?_
            refine y_zald C (10 * rr + cl).toNat (by omega) rfl (by omega) (by decide) dX6_beside_91 ?_
            refine z_top C (I 59 (10 * rr + cl).toNat) rfl ?_
            refine z_if_eq C 97 dX6_beside_92 (by decide) (by omega) (fun h92 => ?_) (fun h92 => ?_)
            · refine z_bipush C dX6_beside_97 (by decide) ?_
              refine z_iload_n C 1 rfl dX6_beside_99 rfl ?_
              refine z_imul C dX6_beside_100 ?_
              refine z_iload C 0 rfl dX6_beside_101 ?_
              refine z_iadd C dX6_beside_103 ?_
              exact zZ_iret C hR (Nat.le_refl _) (Nat.le_refl _) dX6_beside_104 rfl (zIs_I (by unfold bsN openN; rw [hbe2.2, hwm, decide_eq_false (by omega), if_pos (by decide)]; exact hbe2.1.symm) rfl)
            · refine z_iconst C dX6_beside_95 ?_
              exact zZ_iret C hR (Nat.le_refl _) (Nat.le_refl _) dX6_beside_96 rfl (zIs_I (by unfold bsN openN; rw [hbe2.2, hwm, decide_eq_true (by omega)]; rfl) rfl)
  · refine z_iconst C dX6_beside_9 ?_
    refine z_goto C 23 dX6_beside_10 (by decide) ?_
    refine z_iadd C dX6_beside_23 ?_
    refine z_topI C (fun rr err => ?_)
    refine z_istore_n C [(3, .int (iI rr)), (0, .ref 58), (1, .int (iI c)), (2, .int (iI ((k : Int))))] dX6_beside_24 rfl (by decide) rfl ?_
    refine z_iload_n C 2 rfl dX6_beside_25 rfl ?_
    refine z_bipush C dX6_beside_26 (by decide) ?_
    refine z_irem C dX6_beside_28 (by omega) (by omega) ?_
    refine z_iload_n C 3 rfl dX6_beside_29 rfl ?_
    refine z_iconst C dX6_beside_30 ?_
    refine z_icmp_ne C 38 dX6_beside_31 (by decide) (by omega) (by omega) (fun h31 => ?_) (fun h31 => ?_)
    · refine z_iload_n C 3 rfl dX6_beside_38 rfl ?_
      refine z_iconst C dX6_beside_39 ?_
      refine z_icmp_ne C 47 dX6_beside_40 (by decide) (by omega) (by omega) (fun h40 => ?_) (fun h40 => ?_)
      · refine z_iconst C dX6_beside_47 ?_
        refine z_iadd C dX6_beside_48 ?_
        refine z_topI C (fun cl ecl => ?_)
        refine z_istore C [(4, .int (iI cl)), (3, .int (iI rr)), (0, .ref 58), (1, .int (iI c)), (2, .int (iI ((k : Int))))] dX6_beside_49 (by decide) rfl ?_
        have hbe := beside_eq (n := I 58 0) (f := I 59) (k := k) (rw := rr) (cl := cl) b1 hc hk (by rw [err]; (repeat' split) <;> omega) (by rw [ecl]; (repeat' split) <;> omega)
        have hrr : -1 ≤ rr ∧ rr ≤ 7 := by omega
        have hcc : -1 ≤ cl ∧ cl ≤ 7 := by omega
        refine z_iload_n C 1 rfl dX6_beside_51 rfl ?_
        refine z_iconst C dX6_beside_52 ?_
        refine z_aload_n C 2 rfl dX6_beside_53 rfl ?_
        refine y_getI C zCl6 0 flX6_57 rfl rfl dX6_beside_54 ?_
        refine z_iconst C dX6_beside_57 ?_
        refine z_isub C dX6_beside_58 ?_
        refine y_callS3 C oX6_within sX6_within lkX6_75 (c_X6_within (by first | assumption | omega) (by first | assumption | omega) (by first | assumption | omega)) (by decide) (Nat.le_refl _) (Nat.le_refl _) (Nat.le_of_ble_eq_true rfl) dX6_beside_59 ?_
        refine y_if_eqB C 95 dX6_beside_62 (by decide) (fun h62 => ?_) (fun h62 => ?_)
        · refine z_iconst C dX6_beside_95 ?_
          exact zZ_iret C hR (Nat.le_refl _) (Nat.le_refl _) dX6_beside_96 rfl (zIs_I (by unfold bsN openN; rw [hbe.2 (fun z => by simp at h62; omega)]; rfl) rfl)
        · have h62 : 0 ≤ rr ∧ rr ≤ I 58 0 - 1 := by simpa using h62
          refine z_iload C 0 rfl dX6_beside_65 ?_
          refine z_iconst C dX6_beside_67 ?_
          refine z_aload_n C 2 rfl dX6_beside_68 rfl ?_
          refine y_getI C zCl6 0 flX6_57 rfl rfl dX6_beside_69 ?_
          refine z_iconst C dX6_beside_72 ?_
          refine z_isub C dX6_beside_73 ?_
          refine y_callS3 C oX6_within sX6_within lkX6_75 (c_X6_within (by first | assumption | omega) (by first | assumption | omega) (by first | assumption | omega)) (by decide) (Nat.le_refl _) (Nat.le_refl _) (Nat.le_of_ble_eq_true rfl) dX6_beside_74 ?_
          refine y_if_eqB C 95 dX6_beside_77 (by decide) (fun h77 => ?_) (fun h77 => ?_)
          · refine z_iconst C dX6_beside_95 ?_
            exact zZ_iret C hR (Nat.le_refl _) (Nat.le_refl _) dX6_beside_96 rfl (zIs_I (by unfold bsN openN; rw [hbe.2 (fun z => by simp at h77; omega)]; rfl) rfl)
          · have h77 : 0 ≤ cl ∧ cl ≤ I 58 0 - 1 := by simpa using h77
            have hbe2 := hbe.1 ⟨h62, h77⟩
            have hw7 := b7 (10 * rr + cl).toNat (by omega)
            have hwm : wallL (maskW (I 59)) (c + shN k) = decide (I 59 (10 * rr + cl).toNat = 1) := by
              rw [show c + shN k = ((10 * rr + cl).toNat : Int) by omega]
              exact wallM (by omega) (by omega)
            refine z_aload_n C 2 rfl dX6_beside_80 rfl ?_
            refine y_getR C zCl6 1 flX6_7 rfl rfl rfl dX6_beside_81 ?_
            refine z_bipush C dX6_beside_84 (by decide) ?_
            refine z_iload_n C 1 rfl dX6_beside_86 rfl ?_
            refine z_imul C dX6_beside_87 ?_
            refine z_iload C 0 rfl dX6_beside_88 ?_
            refine z_iadd C dX6_beside_90 ?_
            refine y_zald C (10 * rr + cl).toNat (by omega) rfl (by omega) (by decide) dX6_beside_91 ?_
            refine z_top C (I 59 (10 * rr + cl).toNat) rfl ?_
            refine z_if_eq C 97 dX6_beside_92 (by decide) (by omega) (fun h92 => ?_) (fun h92 => ?_)
            · refine z_bipush C dX6_beside_97 (by decide) ?_
              refine z_iload_n C 1 rfl dX6_beside_99 rfl ?_
              refine z_imul C dX6_beside_100 ?_
              refine z_iload C 0 rfl dX6_beside_101 ?_
              refine z_iadd C dX6_beside_103 ?_
              exact zZ_iret C hR (Nat.le_refl _) (Nat.le_refl _) dX6_beside_104 rfl (zIs_I (by unfold bsN openN; rw [hbe2.2, hwm, decide_eq_false (by omega), if_pos (by decide)]; exact hbe2.1.symm) rfl)
            · refine z_iconst C dX6_beside_95 ?_
              exact zZ_iret C hR (Nat.le_refl _) (Nat.le_refl _) dX6_beside_96 rfl (zIs_I (by unfold bsN openN; rw [hbe2.2, hwm, decide_eq_true (by omega)]; rfl) rfl)
      · refine z_iconst C dX6_beside_43 ?_
        refine z_goto C 48 dX6_beside_44 (by decide) ?_
        refine z_iadd C dX6_beside_48 ?_
        refine z_topI C (fun cl ecl => ?_)
        refine z_istore C [(4, .int (iI cl)), (3, .int (iI rr)), (0, .ref 58), (1, .int (iI c)), (2, .int (iI ((k : Int))))] dX6_beside_49 (by decide) rfl ?_
        have hbe := beside_eq (n := I 58 0) (f := I 59) (k := k) (rw := rr) (cl := cl) b1 hc hk (by rw [err]; (repeat' split) <;> omega) (by rw [ecl]; (repeat' split) <;> omega)
        have hrr : -1 ≤ rr ∧ rr ≤ 7 := by omega
        have hcc : -1 ≤ cl ∧ cl ≤ 7 := by omega
        refine z_iload_n C 1 rfl dX6_beside_51 rfl ?_
        refine z_iconst C dX6_beside_52 ?_
        refine z_aload_n C 2 rfl dX6_beside_53 rfl ?_
        refine y_getI C zCl6 0 flX6_57 rfl rfl dX6_beside_54 ?_
        refine z_iconst C dX6_beside_57 ?_
        refine z_isub C dX6_beside_58 ?_
        refine y_callS3 C oX6_within sX6_within lkX6_75 (c_X6_within (by first | assumption | omega) (by first | assumption | omega) (by first | assumption | omega)) (by decide) (Nat.le_refl _) (Nat.le_refl _) (Nat.le_of_ble_eq_true rfl) dX6_beside_59 ?_
        refine y_if_eqB C 95 dX6_beside_62 (by decide) (fun h62 => ?_) (fun h62 => ?_)
        · refine z_iconst C dX6_beside_95 ?_
          exact zZ_iret C hR (Nat.le_refl _) (Nat.le_refl _) dX6_beside_96 rfl (zIs_I (by unfold bsN openN; rw [hbe.2 (fun z => by simp at h62; omega)]; rfl) rfl)
        · have h62 : 0 ≤ rr ∧ rr ≤ I 58 0 - 1 := by simpa using h62
          refine z_iload C 0 rfl dX6_beside_65 ?_
          refine z_iconst C dX6_beside_67 ?_
          refine z_aload_n C 2 rfl dX6_beside_68 rfl ?_
          refine y_getI C zCl6 0 flX6_57 rfl rfl dX6_beside_69 ?_
          refine z_iconst C dX6_beside_72 ?_
          refine z_isub C dX6_beside_73 ?_
          refine y_callS3 C oX6_within sX6_within lkX6_75 (c_X6_within (by first | assumption | omega) (by first | assumption | omega) (by first | assumption | omega)) (by decide) (Nat.le_refl _) (Nat.le_refl _) (Nat.le_of_ble_eq_true rfl) dX6_beside_74 ?_
          refine y_if_eqB C 95 dX6_beside_77 (by decide) (fun h77 => ?_) (fun h77 => ?_)
          · refine z_iconst C dX6_beside_95 ?_
            exact zZ_iret C hR (Nat.le_refl _) (Nat.le_refl _) dX6_beside_96 rfl (zIs_I (by unfold bsN openN; rw [hbe.2 (fun z => by simp at h77; omega)]; rfl) rfl)
          · have h77 : 0 ≤ cl ∧ cl ≤ I 58 0 - 1 := by simpa using h77
            have hbe2 := hbe.1 ⟨h62, h77⟩
            have hw7 := b7 (10 * rr + cl).toNat (by omega)
            have hwm : wallL (maskW (I 59)) (c + shN k) = decide (I 59 (10 * rr + cl).toNat = 1) := by
              rw [show c + shN k = ((10 * rr + cl).toNat : Int) by omega]
              exact wallM (by omega) (by omega)
            refine z_aload_n C 2 rfl dX6_beside_80 rfl ?_
            refine y_getR C zCl6 1 flX6_7 rfl rfl rfl dX6_beside_81 ?_
            refine z_bipush C dX6_beside_84 (by decide) ?_
            refine z_iload_n C 1 rfl dX6_beside_86 rfl ?_
            refine z_imul C dX6_beside_87 ?_
            refine z_iload C 0 rfl dX6_beside_88 ?_
            refine z_iadd C dX6_beside_90 ?_
            refine y_zald C (10 * rr + cl).toNat (by omega) rfl (by omega) (by decide) dX6_beside_91 ?_
            refine z_top C (I 59 (10 * rr + cl).toNat) rfl ?_
            refine z_if_eq C 97 dX6_beside_92 (by decide) (by omega) (fun h92 => ?_) (fun h92 => ?_)
            · refine z_bipush C dX6_beside_97 (by decide) ?_
              refine z_iload_n C 1 rfl dX6_beside_99 rfl ?_
              refine z_imul C dX6_beside_100 ?_
              refine z_iload C 0 rfl dX6_beside_101 ?_
              refine z_iadd C dX6_beside_103 ?_
              exact zZ_iret C hR (Nat.le_refl _) (Nat.le_refl _) dX6_beside_104 rfl (zIs_I (by unfold bsN openN; rw [hbe2.2, hwm, decide_eq_false (by omega), if_pos (by decide)]; exact hbe2.1.symm) rfl)
            · refine z_iconst C dX6_beside_95 ?_
              exact zZ_iret C hR (Nat.le_refl _) (Nat.le_refl _) dX6_beside_96 rfl (zIs_I (by unfold bsN openN; rw [hbe2.2, hwm, decide_eq_true (by omega)]; rfl) rfl)
    · refine z_iconst C dX6_beside_34 ?_
      refine z_goto C 48 dX6_beside_35 (by decide) ?_
      refine z_iadd C dX6_beside_48 ?_
      refine z_topI C (fun cl ecl => ?_)
      refine z_istore C [(4, .int (iI cl)), (3, .int (iI rr)), (0, .ref 58), (1, .int (iI c)), (2, .int (iI ((k : Int))))] dX6_beside_49 (by decide) rfl ?_
      have hbe := beside_eq (n := I 58 0) (f := I 59) (k := k) (rw := rr) (cl := cl) b1 hc hk (by rw [err]; (repeat' split) <;> omega) (by rw [ecl]; (repeat' split) <;> omega)
      have hrr : -1 ≤ rr ∧ rr ≤ 7 := by omega
      have hcc : -1 ≤ cl ∧ cl ≤ 7 := by omega
      refine z_iload_n C 1 rfl dX6_beside_51 rfl ?_
      refine z_iconst C dX6_beside_52 ?_
      refine z_aload_n C 2 rfl dX6_beside_53 rfl ?_
      refine y_getI C zCl6 0 flX6_57 rfl rfl dX6_beside_54 ?_
      refine z_iconst C dX6_beside_57 ?_
      refine z_isub C dX6_beside_58 ?_
      refine y_callS3 C oX6_within sX6_within lkX6_75 (c_X6_within (by first | assumption | omega) (by first | assumption | omega) (by first | assumption | omega)) (by decide) (Nat.le_refl _) (Nat.le_refl _) (Nat.le_of_ble_eq_true rfl) dX6_beside_59 ?_
      refine y_if_eqB C 95 dX6_beside_62 (by decide) (fun h62 => ?_) (fun h62 => ?_)
      · refine z_iconst C dX6_beside_95 ?_
        exact zZ_iret C hR (Nat.le_refl _) (Nat.le_refl _) dX6_beside_96 rfl (zIs_I (by unfold bsN openN; rw [hbe.2 (fun z => by simp at h62; omega)]; rfl) rfl)
      · have h62 : 0 ≤ rr ∧ rr ≤ I 58 0 - 1 := by simpa using h62
        refine z_iload C 0 rfl dX6_beside_65 ?_
        refine z_iconst C dX6_beside_67 ?_
        refine z_aload_n C 2 rfl dX6_beside_68 rfl ?_
        refine y_getI C zCl6 0 flX6_57 rfl rfl dX6_beside_69 ?_
        refine z_iconst C dX6_beside_72 ?_
        refine z_isub C dX6_beside_73 ?_
        refine y_callS3 C oX6_within sX6_within lkX6_75 (c_X6_within (by first | assumption | omega) (by first | assumption | omega) (by first | assumption | omega)) (by decide) (Nat.le_refl _) (Nat.le_refl _) (Nat.le_of_ble_eq_true rfl) dX6_beside_74 ?_
        refine y_if_eqB C 95 dX6_beside_77 (by decide) (fun h77 => ?_) (fun h77 => ?_)
        · refine z_iconst C dX6_beside_95 ?_
          exact zZ_iret C hR (Nat.le_refl _) (Nat.le_refl _) dX6_beside_96 rfl (zIs_I (by unfold bsN openN; rw [hbe.2 (fun z => by simp at h77; omega)]; rfl) rfl)
        · have h77 : 0 ≤ cl ∧ cl ≤ I 58 0 - 1 := by simpa using h77
          have hbe2 := hbe.1 ⟨h62, h77⟩
          have hw7 := b7 (10 * rr + cl).toNat (by omega)
          have hwm : wallL (maskW (I 59)) (c + shN k) = decide (I 59 (10 * rr + cl).toNat = 1) := by
            rw [show c + shN k = ((10 * rr + cl).toNat : Int) by omega]
            exact wallM (by omega) (by omega)
          refine z_aload_n C 2 rfl dX6_beside_80 rfl ?_
          refine y_getR C zCl6 1 flX6_7 rfl rfl rfl dX6_beside_81 ?_
          refine z_bipush C dX6_beside_84 (by decide) ?_
          refine z_iload_n C 1 rfl dX6_beside_86 rfl ?_
          refine z_imul C dX6_beside_87 ?_
          refine z_iload C 0 rfl dX6_beside_88 ?_
          refine z_iadd C dX6_beside_90 ?_
          refine y_zald C (10 * rr + cl).toNat (by omega) rfl (by omega) (by decide) dX6_beside_91 ?_
          refine z_top C (I 59 (10 * rr + cl).toNat) rfl ?_
          refine z_if_eq C 97 dX6_beside_92 (by decide) (by omega) (fun h92 => ?_) (fun h92 => ?_)
          · refine z_bipush C dX6_beside_97 (by decide) ?_
            refine z_iload_n C 1 rfl dX6_beside_99 rfl ?_
            refine z_imul C dX6_beside_100 ?_
            refine z_iload C 0 rfl dX6_beside_101 ?_
            refine z_iadd C dX6_beside_103 ?_
            exact zZ_iret C hR (Nat.le_refl _) (Nat.le_refl _) dX6_beside_104 rfl (zIs_I (by unfold bsN openN; rw [hbe2.2, hwm, decide_eq_false (by omega), if_pos (by decide)]; exact hbe2.1.symm) rfl)
          · refine z_iconst C dX6_beside_95 ?_
            exact zZ_iret C hR (Nat.le_refl _) (Nat.le_refl _) dX6_beside_96 rfl (zIs_I (by unfold bsN openN; rw [hbe2.2, hwm, decide_eq_true (by omega)]; rfl) rfl)
