set_option maxHeartbeats 4000000 in
set_option maxRecDepth 100000 in
theorem c_X6_late {g : zG} {I : Nat → Nat → Int} {J : Nat → Nat → Int64} {q : Nat × Nat} {s n l : Int} (hgr : gR I) (hrs : gRS (spR I)) (hrl : gRL I) (hdo : openN (I 58 0) (maskW (I 59)) (I 58 3) = true) (hs : -2147483648 ≤ s ∧ s ≤ 2147483647) (hn : -2147483648 ≤ n ∧ n ≤ 2147483647) (hl : -2147483648 ≤ l ∧ l ≤ 2147483647) : zRuns g mX6_late 7 0 0 [.ref 58, .int (iI s), .int (iI n), .int (iI l)] (zst I J q) (zEx (some (.int (iI (uR (fLate (VI I) (VJ I J) s n l) (inN (hvR I) (runS (hvR I) (spR I) (latF J s.toNat l.toNat) (n.toNat + l.toNat)).2.2))))) (fun I2 : {I2 // frR I I2} => zst (uK I2.1 (fLate (VI I) (VJ I J) s n l) I2.1) J q)) := by
  obtain ⟨b1, b2, b3, b4, b5, b6, b7⟩ := id hgr
  obtain ⟨k1, k2, k3⟩ := id hrs
  have k1 : gC7 (I 58 3) := k1
  have k2 : 0 ≤ I 58 4 ∧ I 58 4 ≤ 4 := k2
  have k3 : ∀ e, e < 5 → gC7 (I 62 e) := k3
  have k1' := k1.1
  have b2' := b2.1
  have v10 : VI I 1 0 = I 58 0 := congrArg (fun x => x) rfl
  have v11 : VI I 1 1 = I 58 2 := congrArg (fun x => x) rfl
  have v12 : VI I 1 2 = I 58 9 := congrArg (fun x => x) rfl
  have v16 : VI I 1 6 = I 58 5 := congrArg (fun x => x) rfl
  have v40 : VI I 4 0 = I 58 3 := congrArg (fun x => x) rfl
  have v41 : VI I 4 1 = I 58 4 := congrArg (fun x => x) rfl
  have v111 : VI I 11 1 = I 58 12 := congrArg (fun x => x) rfl
  have v13 : VI I 1 3 = I 58 10 := congrArg (fun x => x) rfl
  have v14 : VI I 1 4 = I 58 11 := congrArg (fun x => x) rfl
  refine zRuns_intro rfl (Nat.le_of_ble_eq_true rfl) (fun X C hR => ?_)
  show zZ g X 0 0 _ 0 [(0, .ref 58), (1, .int (iI s)), (2, .int (iI n)), (3, .int (iI l))] []
  refine z_iload_n C 1 rfl dX6_late_0 rfl ?_
  refine y_callS1 C oX6_isShelf sX6_isShelf lkX6_79 (c_X6_isShelf (by first | assumption | omega)) (by decide) (Nat.le_refl _) (Nat.le_refl _) (Nat.le_of_ble_eq_true rfl) dX6_late_1 ?_
  refine y_if_eqB C 26 dX6_late_4 (by decide) (fun h4 => ?_) (fun h4 => ?_)
  · refine z_aload_n C 0 rfl dX6_late_26 rfl ?_
    refine z_bipush C dX6_late_27 (by decide) ?_
    refine y_callV1 C oX6_no iX6_no eX6_no lkX6_83 (c_X6_no (by first | assumption | omega)) rfl (by decide) rfl rfl (by decide) (Nat.le_refl _) (Nat.le_refl _) (Nat.le_of_ble_eq_true rfl) dX6_late_29 ?_
    exact zZ_iret C hR (Nat.le_refl _) (Nat.le_refl _) dX6_late_32 rfl (zEx_I (uRc (show fLate (VI I) (VJ I J) s n l = -2 by (try simp only [decide_eq_true_eq, decide_eq_false_iff_not, bI] at *); (unfold fLate; by_cases hq : 0 ≤ l ∧ l ≤ 3; (first | exact absurd hq (by omega) | (rw [if_pos hq, fcom_B (by omega)])); rw [if_neg hq])) (by decide)).symm ⟨I, frR_rf⟩ (by rw [uKc (show fLate (VI I) (VJ I J) s n l = -2 by (try simp only [decide_eq_true_eq, decide_eq_false_iff_not, bI] at *); (unfold fLate; by_cases hq : 0 ≤ l ∧ l ≤ 3; (first | exact absurd hq (by omega) | (rw [if_pos hq, fcom_B (by omega)])); rw [if_neg hq])) (by decide)]))
  · refine z_iload_n C 2 rfl dX6_late_7 rfl ?_
    refine z_iconst C dX6_late_8 ?_
    refine z_bipush C dX6_late_9 (by decide) ?_
    refine y_callS3 C oX6_within sX6_within lkX6_75 (c_X6_within (by first | assumption | omega) (by first | assumption | omega) (by first | assumption | omega)) (by decide) (Nat.le_refl _) (Nat.le_refl _) (Nat.le_of_ble_eq_true rfl) dX6_late_11 ?_
    refine y_if_eqB C 26 dX6_late_14 (by decide) (fun h14 => ?_) (fun h14 => ?_)
    · refine z_aload_n C 0 rfl dX6_late_26 rfl ?_
      refine z_bipush C dX6_late_27 (by decide) ?_
      refine y_callV1 C oX6_no iX6_no eX6_no lkX6_83 (c_X6_no (by first | assumption | omega)) rfl (by decide) rfl rfl (by decide) (Nat.le_refl _) (Nat.le_refl _) (Nat.le_of_ble_eq_true rfl) dX6_late_29 ?_
      exact zZ_iret C hR (Nat.le_refl _) (Nat.le_refl _) dX6_late_32 rfl (zEx_I (uRc (show fLate (VI I) (VJ I J) s n l = -2 by (try simp only [decide_eq_true_eq, decide_eq_false_iff_not, bI] at *); (unfold fLate; by_cases hq : 0 ≤ l ∧ l ≤ 3; (first | exact absurd hq (by omega) | (rw [if_pos hq, fcom_B (by omega)])); rw [if_neg hq])) (by decide)).symm ⟨I, frR_rf⟩ (by rw [uKc (show fLate (VI I) (VJ I J) s n l = -2 by (try simp only [decide_eq_true_eq, decide_eq_false_iff_not, bI] at *); (unfold fLate; by_cases hq : 0 ≤ l ∧ l ≤ 3; (first | exact absurd hq (by omega) | (rw [if_pos hq, fcom_B (by omega)])); rw [if_neg hq])) (by decide)]))
    · refine z_iload_n C 3 rfl dX6_late_17 rfl ?_
      refine z_iconst C dX6_late_18 ?_
      refine z_iconst C dX6_late_19 ?_
      refine y_callS3 C oX6_within sX6_within lkX6_75 (c_X6_within (by first | assumption | omega) (by first | assumption | omega) (by first | assumption | omega)) (by decide) (Nat.le_refl _) (Nat.le_refl _) (Nat.le_of_ble_eq_true rfl) dX6_late_20 ?_
      refine y_if_neB C 33 dX6_late_23 (by decide) (fun h23 => ?_) (fun h23 => ?_)
      · have hs8 : 0 ≤ s ∧ s < 8 := by simpa using h4
        have hn4 : 0 ≤ n ∧ n ≤ 40 := by simpa using h14
        have hnr := ntN_r hrl (s := s.toNat) (by omega) n
        obtain ⟨sn, hsn⟩ : ∃ k : Nat, s = k := ⟨s.toNat, by omega⟩
        obtain ⟨nn, hnn⟩ : ∃ k : Nat, n = k := ⟨n.toNat, by omega⟩
        have hst : s.toNat = sn := by omega
        have hnt : n.toNat = nn := by omega
        have hl3 : 0 ≤ l ∧ l ≤ 3 := by simpa using h23
        obtain ⟨ln, hln⟩ : ∃ k : Nat, l = k := ⟨l.toNat, by omega⟩
        have hlt : l.toNat = ln := by omega
        refine z_aload_n C 0 rfl dX6_late_33 rfl ?_
        refine z_iload_n C 1 rfl dX6_late_34 rfl ?_
        refine z_iload_n C 2 rfl dX6_late_35 rfl ?_
        refine y_callV2 C oX6_noTold iX6_noTold eX6_noTold lkX6_253 (c_X6_noTold hrl (by first | assumption | omega) (by first | assumption | omega)) rfl (by decide) rfl rfl (by decide) (Nat.le_refl _) (Nat.le_refl _) (Nat.le_of_ble_eq_true rfl) dX6_late_36 ?_
        refine z_topI C (fun ft eft => ?_)
        have eft : ft = ntN I s.toNat n := eft
        refine z_istore C [(4, .int (iI ft)), (0, .ref 58), (1, .int (iI s)), (2, .int (iI n)), (3, .int (iI l))] dX6_late_39 (by decide) rfl ?_
        refine z_iload C 0 rfl dX6_late_41 ?_
        refine z_if_ge C 53 dX6_late_43 (by decide) (by omega) (fun h43 => ?_) (fun h43 => ?_)
        · rw [hsn, hnn, hln]
          refine z_iconst C dX6_late_53 ?_
          refine z_istore C [(5, .int (iI 0)), (4, .int (iI ft)), (0, .ref 58), (1, .int (iI ((sn : Int)))), (2, .int (iI ((nn : Int)))), (3, .int (iI ((ln : Int))))] dX6_late_54 (by decide) rfl ?_
          refine zZ_sub [2, 3, 4, 5, 0] rfl ?_
          refine zZ_cast (σ' := (fun _ : Nat => zst I J q) 0) (L' := (fun e : Nat => [(0, .ref 58), (1, .int (iI ((sn : Int)))), (2, .int (iI ((nn : Int)))), (3, .int (iI ((ln : Int)))), (5, .int (iI (e : Int)))]) 0) rfl rfl rfl ?_
          refine zfor (nn) (fun e => firstN (cmP J sn) e = none) (fun _ : Nat => zst I J q) (fun e : Nat => [(0, .ref 58), (1, .int (iI ((sn : Int)))), (2, .int (iI ((nn : Int)))), (3, .int (iI ((ln : Int)))), (5, .int (iI (e : Int)))]) rfl ?_ ?_
          · intro e hee hpe kke
            refine z_iload C 4 rfl dX6_late_56 ?_
            refine z_iload_n C 2 rfl dX6_late_58 rfl ?_
            refine z_icmp_ge C 101 dX6_late_59 (by decide) (by omega) (by omega) (fun h59 => ?_) (fun h59 => ?_)
            · omega
            · refine z_aload_n C 0 rfl dX6_late_62 rfl ?_
              refine z_iload_n C 1 rfl dX6_late_63 rfl ?_
              refine z_iload C 4 rfl dX6_late_64 ?_
              refine y_callV2 C oX6_toldAt iX6_toldAt eX6_toldAt lkX6_256 (c_X6_toldAt (by first | assumption | omega) (by first | assumption | omega)) rfl (by decide) rfl rfl (by decide) (Nat.le_refl _) (Nat.le_refl _) (Nat.le_of_ble_eq_true rfl) dX6_late_66 ?_
              refine z_lconst C 0 dX6_late_69 rfl ?_
              refine z_lcmp_lt C 88 dX6_late_70 dX6_late_71 (by decide) (fun h70 => ?_) (fun h70 => ?_)
              · refine z_aload_n C 0 rfl dX6_late_88 rfl ?_
                refine z_bipush C dX6_late_89 (by decide) ?_
                refine y_callV1 C oX6_no iX6_no eX6_no lkX6_83 (c_X6_no (by first | assumption | omega)) rfl (by decide) rfl rfl (by decide) (Nat.le_refl _) (Nat.le_refl _) (Nat.le_of_ble_eq_true rfl) dX6_late_91 ?_
                exact zZ_iret C hR (Nat.le_refl _) (Nat.le_refl _) dX6_late_94 rfl (zEx_I (uRc (show fLate (VI I) (VJ I J) s n l = -5 by (unfold fLate; rw [if_pos hl3, fcom_V hrl hs8 hn4, if_neg (by omega), hst, hnt, if_neg (by rw [firstN_some hee hpe (by unfold cmP isCmd; have hh := h70; rw [i64lt] at hh; have hh : (J 66 (40 * sn + e)).toInt < 0 := hh; rw [decide_eq_false (show ¬ (0 ≤ (J 66 (40 * sn + e)).toInt ∧ (J 66 (40 * sn + e)).toInt < 5) by omega)]; rfl)]; exact fun z => by cases z)])) (by decide)).symm ⟨I, frR_rf⟩ (by rw [uKc (show fLate (VI I) (VJ I J) s n l = -5 by (unfold fLate; rw [if_pos hl3, fcom_V hrl hs8 hn4, if_neg (by omega), hst, hnt, if_neg (by rw [firstN_some hee hpe (by unfold cmP isCmd; have hh := h70; rw [i64lt] at hh; have hh : (J 66 (40 * sn + e)).toInt < 0 := hh; rw [decide_eq_false (show ¬ (0 ≤ (J 66 (40 * sn + e)).toInt ∧ (J 66 (40 * sn + e)).toInt < 5) by omega)]; rfl)]; exact fun z => by cases z)])) (by decide)]))
              · refine z_aload_n C 0 rfl dX6_late_74 rfl ?_
                refine z_iload_n C 1 rfl dX6_late_75 rfl ?_
                refine z_iload C 4 rfl dX6_late_76 ?_
                refine y_callV2 C oX6_toldAt iX6_toldAt eX6_toldAt lkX6_256 (c_X6_toldAt (by first | assumption | omega) (by first | assumption | omega)) rfl (by decide) rfl rfl (by decide) (Nat.le_refl _) (Nat.le_refl _) (Nat.le_of_ble_eq_true rfl) dX6_late_78 ?_
                refine z_ldc2 C 4 dX6_late_81 kcX6_260 ?_
                refine z_lcmp_le C 95 dX6_late_84 dX6_late_85 (by decide) (fun h84 => ?_) (fun h84 => ?_)
                · have hcme : isCmd (J 66 (40 * sn + e)) = true := by
                    have h68 := h70
                    have h80 := h84
                    rw [i64lt] at h68
                    rw [i64le] at h80
                    have h68 : ¬ (J 66 (40 * sn + e)).toInt < 0 := h68
                    have h80 : (J 66 (40 * sn + e)).toInt ≤ 4 := h80
                    unfold isCmd
                    exact decide_eq_true (by omega)
                  obtain ⟨v1, ev1⟩ : ∃ y : Int, y = (e : Int) + 1 := ⟨_, rfl⟩
                  refine z_iinc C 4 v1 [(5, .int (iI v1)), (0, .ref 58), (1, .int (iI ((sn : Int)))), (2, .int (iI ((nn : Int)))), (3, .int (iI ((ln : Int))))] dX6_late_95 rfl ev1.symm (by decide) rfl ?_
                  refine z_goto C 56 dX6_late_98 (by decide) ?_
                  refine zZ_sub [1, 2, 3, 4, 0] rfl ?_
                  refine zZ_cast rfl (zLk (zLk (zLk (zLk (zLc (by omega) rfl))))) rfl (kke (by simp only [firstN, hpe]; rw [if_neg (by unfold cmP; rw [hcme]; decide)]))
                · refine z_aload_n C 0 rfl dX6_late_88 rfl ?_
                  refine z_bipush C dX6_late_89 (by decide) ?_
                  refine y_callV1 C oX6_no iX6_no eX6_no lkX6_83 (c_X6_no (by first | assumption | omega)) rfl (by decide) rfl rfl (by decide) (Nat.le_refl _) (Nat.le_refl _) (Nat.le_of_ble_eq_true rfl) dX6_late_91 ?_
                  exact zZ_iret C hR (Nat.le_refl _) (Nat.le_refl _) dX6_late_94 rfl (zEx_I (uRc (show fLate (VI I) (VJ I J) s n l = -5 by (unfold fLate; rw [if_pos hl3, fcom_V hrl hs8 hn4, if_neg (by omega), hst, hnt, if_neg (by rw [firstN_some hee hpe (by unfold cmP isCmd; have hh := h84; rw [i64le] at hh; have hh : ¬ (J 66 (40 * sn + e)).toInt ≤ 4 := hh; rw [decide_eq_false (show ¬ (0 ≤ (J 66 (40 * sn + e)).toInt ∧ (J 66 (40 * sn + e)).toInt < 5) by omega)]; rfl)]; exact fun z => by cases z)])) (by decide)).symm ⟨I, frR_rf⟩ (by rw [uKc (show fLate (VI I) (VJ I J) s n l = -5 by (unfold fLate; rw [if_pos hl3, fcom_V hrl hs8 hn4, if_neg (by omega), hst, hnt, if_neg (by rw [firstN_some hee hpe (by unfold cmP isCmd; have hh := h84; rw [i64le] at hh; have hh : ¬ (J 66 (40 * sn + e)).toInt ≤ 4 := hh; rw [decide_eq_false (show ¬ (0 ≤ (J 66 (40 * sn + e)).toInt ∧ (J 66 (40 * sn + e)).toInt < 5) by omega)]; rfl)]; exact fun z => by cases z)])) (by decide)]))
          · intro hpe
            have hcm := hpe
            refine z_iload C 4 rfl dX6_late_56 ?_
            refine z_iload_n C 2 rfl dX6_late_58 rfl ?_
            refine z_icmp_ge C 101 dX6_late_59 (by decide) (by omega) (by omega) (fun h59 => ?_) (fun h59 => ?_)
            · refine z_aload_n C 0 rfl dX6_late_101 rfl ?_
              refine z_iconst C dX6_late_102 ?_
              refine z_top C (((0 : Nat) : Int)) (rfl) ?_
              refine y_callV1 C oX6_saves iX6_saves eX6_saves lkX6_104 (c_X6_saves (by first | assumption | omega)) rfl (by decide) rfl rfl (by decide) (Nat.le_refl _) (Nat.le_refl _) (Nat.le_of_ble_eq_true rfl) dX6_late_103 ?_
              refine z_iconst C dX6_late_106 ?_
              refine z_istore C [(5, .int (iI 0)), (0, .ref 58), (1, .int (iI ((sn : Int)))), (2, .int (iI ((nn : Int)))), (3, .int (iI ((ln : Int))))] dX6_late_107 (by decide) rfl ?_
              refine zZ_sub [1, 2, 3, 4, 0] rfl ?_
              refine zZ_cast (σ' := (fun e : Nat => zst (zRq (svI I 0 (spR I)) (runS (hvR I) (spR I) (latF J sn ln) e)) J q) 0) (L' := (fun e : Nat => [(0, .ref 58), (1, .int (iI ((sn : Int)))), (2, .int (iI ((nn : Int)))), (3, .int (iI ((ln : Int)))), (5, .int (iI (e : Int)))]) 0) (by refine congrArg (fun I' => zst I' J q) ?_; exact zRq_svs.symm) rfl rfl ?_
              refine zfor ((nn + ln)) (fun _ => True) (fun e : Nat => zst (zRq (svI I 0 (spR I)) (runS (hvR I) (spR I) (latF J sn ln) e)) J q) (fun e : Nat => [(0, .ref 58), (1, .int (iI ((sn : Int)))), (2, .int (iI ((nn : Int)))), (3, .int (iI ((ln : Int)))), (5, .int (iI (e : Int)))]) trivial ?_ ?_
              · intro e hee hpe kke
                have hrk := run_ok hgr hrs hdo e (fun x hx => lat_cmd (l := ln) hcm x (by omega))
                have hlc := lat_cmd (l := ln) hcm e (by omega)
                refine z_iload C 4 rfl dX6_late_109 ?_
                refine z_iload_n C 2 rfl dX6_late_111 rfl ?_
                refine z_iload_n C 3 rfl dX6_late_112 rfl ?_
                refine z_iadd C dX6_late_113 ?_
                refine z_icmp_ge C 147 dX6_late_114 (by decide) (by omega) (by omega) (fun h114 => ?_) (fun h114 => ?_)
                · omega
                · refine z_aload_n C 0 rfl dX6_late_117 rfl ?_
                  refine z_iload C 4 rfl dX6_late_118 ?_
                  refine z_iload_n C 3 rfl dX6_late_120 rfl ?_
                  refine z_icmp_ge C 128 dX6_late_121 (by decide) (by omega) (by omega) (fun h121 => ?_) (fun h121 => ?_)
                  · refine z_aload_n C 0 rfl dX6_late_128 rfl ?_
                    refine z_iload_n C 1 rfl dX6_late_129 rfl ?_
                    refine z_iload C 4 rfl dX6_late_130 ?_
                    refine z_iload_n C 3 rfl dX6_late_132 rfl ?_
                    refine z_isub C dX6_late_133 ?_
                    refine z_top C (((e - ln : Nat)) : Int) (by omega) ?_
                    refine y_callV2 C oX6_toldAt iX6_toldAt eX6_toldAt lkX6_256 (c_X6_toldAt (by first | assumption | omega) (by first | assumption | omega)) rfl (by decide) rfl rfl (by decide) (Nat.le_refl _) (Nat.le_refl _) (Nat.le_of_ble_eq_true rfl) dX6_late_134 ?_
                    refine z_l2i C (J 66 (40 * sn + (e - ln))).toInt dX6_late_137 (l2i_eq _) ?_
                    obtain ⟨kk, hkk⟩ : ∃ k : Nat, latF J sn ln e = (k : Int) := ⟨(latF J sn ln e).toNat, by omega⟩
                    have hkr : kk < 5 := by omega
                    refine z_top C ((kk : Nat) : Int) ((show _ = latF J sn ln e by unfold latF; rw [if_neg (by omega)]; rfl).trans hkk) ?_
                    refine y_callV1 C oX6_goes iX6_goes eX6_goes lkX6_238 (c_X6_goes (gR_q (gR_sv hgr)) hrk.1 (by rw [zRq_k (by decide) (by decide), zRq_n (by decide) (by decide), zRq_3, svI_n (by decide), svI_n (by decide)]; exact hrk.2) hkr) rfl (by decide) rfl rfl (by decide) (Nat.le_refl _) (Nat.le_refl _) (Nat.le_of_ble_eq_true rfl) dX6_late_138 ?_
                    obtain ⟨v2, ev2⟩ : ∃ y : Int, y = (e : Int) + 1 := ⟨_, rfl⟩
                    refine z_iinc C 4 v2 [(5, .int (iI v2)), (0, .ref 58), (1, .int (iI ((sn : Int)))), (2, .int (iI ((nn : Int)))), (3, .int (iI ((ln : Int))))] dX6_late_141 rfl ev2.symm (by decide) rfl ?_
                    refine z_goto C 109 dX6_late_144 (by decide) ?_
                    refine zZ_sub [1, 2, 3, 4, 0] rfl ?_
                    refine zZ_cast (by refine congrArg (fun I' => zst I' J q) ?_; rw [zRq_zRq, hvR_q, hvR_sv, zRq_sp, ← hkk]; rfl) (zLk (zLk (zLk (zLk (zLc (by omega) rfl))))) rfl (kke trivial)
                  · refine z_iconst C dX6_late_124 ?_
                    
                    refine z_goto C 138 dX6_late_125 (by decide) ?_
                    obtain ⟨kk, hkk⟩ : ∃ k : Nat, latF J sn ln e = (k : Int) := ⟨(latF J sn ln e).toNat, by omega⟩
                    have hkr : kk < 5 := by omega
                    refine z_top C ((kk : Nat) : Int) ((show _ = latF J sn ln e by unfold latF; rw [if_pos (by omega)]).trans hkk) ?_
                    refine y_callV1 C oX6_goes iX6_goes eX6_goes lkX6_238 (c_X6_goes (gR_q (gR_sv hgr)) hrk.1 (by rw [zRq_k (by decide) (by decide), zRq_n (by decide) (by decide), zRq_3, svI_n (by decide), svI_n (by decide)]; exact hrk.2) hkr) rfl (by decide) rfl rfl (by decide) (Nat.le_refl _) (Nat.le_refl _) (Nat.le_of_ble_eq_true rfl) dX6_late_138 ?_
                    obtain ⟨v3, ev3⟩ : ∃ y : Int, y = (e : Int) + 1 := ⟨_, rfl⟩
                    refine z_iinc C 4 v3 [(5, .int (iI v3)), (0, .ref 58), (1, .int (iI ((sn : Int)))), (2, .int (iI ((nn : Int)))), (3, .int (iI ((ln : Int))))] dX6_late_141 rfl ev3.symm (by decide) rfl ?_
                    refine z_goto C 109 dX6_late_144 (by decide) ?_
                    refine zZ_sub [1, 2, 3, 4, 0] rfl ?_
                    refine zZ_cast (by refine congrArg (fun I' => zst I' J q) ?_; rw [zRq_zRq, hvR_q, hvR_sv, zRq_sp, ← hkk]; rfl) (zLk (zLk (zLk (zLk (zLc (by omega) rfl))))) rfl (kke trivial)
              · intro hpe
                have hrk := run_ok hgr hrs hdo (nn + ln) (lat_cmd (l := ln) hcm)
                refine z_iload C 4 rfl dX6_late_109 ?_
                refine z_iload_n C 2 rfl dX6_late_111 rfl ?_
                refine z_iload_n C 3 rfl dX6_late_112 rfl ?_
                refine z_iadd C dX6_late_113 ?_
                refine z_icmp_ge C 147 dX6_late_114 (by decide) (by omega) (by omega) (fun h114 => ?_) (fun h114 => ?_)
                · refine z_aload_n C 0 rfl dX6_late_147 rfl ?_
                  refine y_callV0 C oX6_in iX6_in eX6_in lkX6_135 (c_X6_in (gR_q (gR_sv hgr)) hrk.1) rfl (by decide) rfl rfl (by decide) (Nat.le_refl _) (Nat.le_refl _) (Nat.le_of_ble_eq_true rfl) dX6_late_148 ?_
                  refine z_top C (inN (hvR I) (runS (hvR I) (spR I) (latF J sn ln) (nn + ln)).2.2) (by rw [hvR_q, hvR_sv]; rfl) ?_
                  refine z_topI C (fun is5 eis5 => ?_)
                  refine z_istore C [(5, .int (iI is5)), (0, .ref 58), (1, .int (iI ((sn : Int)))), (2, .int (iI ((nn : Int)))), (3, .int (iI ((ln : Int))))] dX6_late_151 (by decide) rfl ?_
                  refine z_aload_n C 1 rfl dX6_late_153 rfl ?_
                  refine z_iconst C dX6_late_154 ?_
                  refine z_top C (((0 : Nat) : Int)) (rfl) ?_
                  refine y_callV1 C oX6_again iX6_again eX6_again lkX6_111 (c_X6_again (by first | assumption | omega) (svAt_q svAt_sv)) rfl (by decide) rfl rfl (by decide) (Nat.le_refl _) (Nat.le_refl _) (Nat.le_of_ble_eq_true rfl) dX6_late_155 ?_
                  refine zZ_cast (σ' := zst (svI I 0 (spR I)) J q)  (by refine congrArg (fun I' => zst I' J q) ?_; rw [zRq_zRq]; exact zRq_svs) rfl rfl ?_
                  refine z_iload C 0 rfl dX6_late_158 ?_
                  exact zZ_iret C hR (Nat.le_refl _) (Nat.le_refl _) dX6_late_160 rfl (zEx_I (by rw [uR0 (show fLate (VI I) (VJ I J) s n l = 0 by (unfold fLate; rw [if_pos hl3, fcom_V hrl hs8 hn4, if_neg (by omega), hst, hnt, if_pos hcm])), hst, hnt, hlt]; exact eis5) ⟨svI I 0 (spR I), frR_sv⟩ (by rw [uK0 (show fLate (VI I) (VJ I J) s n l = 0 by (unfold fLate; rw [if_pos hl3, fcom_V hrl hs8 hn4, if_neg (by omega), hst, hnt, if_pos hcm]))]))
                · omega
            · omega
        · refine z_aload_n C 1 rfl dX6_late_46 rfl ?_
          refine z_iload C 0 rfl dX6_late_47 ?_
          refine y_callV1 C oX6_no iX6_no eX6_no lkX6_83 (c_X6_no (by first | assumption | omega)) rfl (by decide) rfl rfl (by decide) (Nat.le_refl _) (Nat.le_refl _) (Nat.le_of_ble_eq_true rfl) dX6_late_49 ?_
          exact zZ_iret C hR (Nat.le_refl _) (Nat.le_refl _) dX6_late_52 rfl (zEx_I (uRc (show fLate (VI I) (VJ I J) s n l = ft by (unfold fLate; rw [if_pos hl3, fcom_V hrl hs8 hn4, if_pos (by omega)]; omega)) (by omega)).symm ⟨I, frR_rf⟩ (by rw [uKc (show fLate (VI I) (VJ I J) s n l = ft by (unfold fLate; rw [if_pos hl3, fcom_V hrl hs8 hn4, if_pos (by omega)]; omega)) (by omega)]))
      · refine z_aload_n C 0 rfl dX6_late_26 rfl ?_
        refine z_bipush C dX6_late_27 (by decide) ?_
        refine y_callV1 C oX6_no iX6_no eX6_no lkX6_83 (c_X6_no (by first | assumption | omega)) rfl (by decide) rfl rfl (by decide) (Nat.le_refl _) (Nat.le_refl _) (Nat.le_of_ble_eq_true rfl) dX6_late_29 ?_
        exact zZ_iret C hR (Nat.le_refl _) (Nat.le_refl _) dX6_late_32 rfl (zEx_I (uRc (show fLate (VI I) (VJ I J) s n l = -2 by (try simp only [decide_eq_true_eq, decide_eq_false_iff_not, bI] at *); (unfold fLate; by_cases hq : 0 ≤ l ∧ l ≤ 3; (first | exact absurd hq (by omega) | (rw [if_pos hq, fcom_B (by omega)])); rw [if_neg hq])) (by decide)).symm ⟨I, frR_rf⟩ (by rw [uKc (show fLate (VI I) (VJ I J) s n l = -2 by (try simp only [decide_eq_true_eq, decide_eq_false_iff_not, bI] at *); (unfold fLate; by_cases hq : 0 ≤ l ∧ l ≤ 3; (first | exact absurd hq (by omega) | (rw [if_pos hq, fcom_B (by omega)])); rw [if_neg hq])) (by decide)]))
