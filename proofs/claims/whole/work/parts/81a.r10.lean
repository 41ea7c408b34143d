set_option maxHeartbeats 4000000 in
set_option maxRecDepth 100000 in
theorem c_X6_odds {g : zG} {I : Nat → Nat → Int} {J : Nat → Nat → Int64} {q : Nat × Nat} {s n : Int} (hgr : gR I) (hrs : gRS (spR I)) (hrl : gRL I) (hdo : openN (I 58 0) (maskW (I 59)) (I 58 3) = true) (hs : -2147483648 ≤ s ∧ s ≤ 2147483647) (hn : -2147483648 ≤ n ∧ n ≤ 2147483647) : zRuns g mX6_odds 8 0 0 [.ref 58, .int (iI s), .int (iI n)] (zst I J q) (zEx (some (.int (iI (uR (fOdds (VI I) (VJ I J) s n) (oddsR I J s.toNat n.toNat))))) (fun I2 : {I2 // frR I I2} => zst (uK I2.1 (fOdds (VI I) (VJ I J) s n) I2.1) J q)) := by
  obtain ⟨b1, b2, b3, b4, b5, b6, b7⟩ := id hgr
  obtain ⟨k1, k2, k3⟩ := id hrs
  have k1 : gC7 (I 58 3) := k1
  have k2 : 0 ≤ I 58 4 ∧ I 58 4 ≤ 4 := k2
  have k3 : ∀ e, e < 5 → gC7 (I 62 e) := k3
  have k1' := k1.1
  have b2' := b2.1
  have v10 : VI I 1 0 = I 58 0 := congrArg (fun x => x) rfl
  have v11 : VI I 1 1 = I 58 2 := congrArg (fun x => x) rfl
  have v12 : VI I 1 2 = I 58 9 := congrArg (fun x => x) rfl
  have v16 : VI I 1 6 = I 58 5 := congrArg (fun x => x) rfl
  have v40 : VI I 4 0 = I 58 3 := congrArg (fun x => x) rfl
  have v41 : VI I 4 1 = I 58 4 := congrArg (fun x => x) rfl
  have v111 : VI I 11 1 = I 58 12 := congrArg (fun x => x) rfl
  have v13 : VI I 1 3 = I 58 10 := congrArg (fun x => x) rfl
  have v14 : VI I 1 4 = I 58 11 := congrArg (fun x => x) rfl
  refine zRuns_intro rfl (Nat.le_of_ble_eq_true rfl) (fun X C hR => ?_)
  show zZ g X 0 0 _ 0 [(0, .ref 58), (1, .int (iI s)), (2, .int (iI n))] []
  refine z_iload_n C 1 rfl dX6_odds_0 rfl ?_
  refine y_callS1 C oX6_isShelf sX6_isShelf lkX6_79 (c_X6_isShelf (by first | assumption | omega)) (by decide) (Nat.le_refl _) (Nat.le_refl _) (Nat.le_of_ble_eq_true rfl) dX6_odds_1 ?_
  refine y_if_eqB C 17 dX6_odds_4 (by decide) (fun h4 => ?_) (fun h4 => ?_)
  · refine z_aload_n C 0 rfl dX6_odds_17 rfl ?_
    refine z_bipush C dX6_odds_18 (by decide) ?_
    refine y_callV1 C oX6_no iX6_no eX6_no lkX6_83 (c_X6_no (by first | assumption | omega)) rfl (by decide) rfl rfl (by decide) (Nat.le_refl _) (Nat.le_refl _) (Nat.le_of_ble_eq_true rfl) dX6_odds_20 ?_
    exact zZ_iret C hR (Nat.le_refl _) (Nat.le_refl _) dX6_odds_23 rfl (zEx_I (uRc (show fOdds (VI I) (VJ I J) s n = -2 by (try simp only [decide_eq_true_eq, decide_eq_false_iff_not, bI] at *); (unfold fOdds; exact fcom_B (by omega))) (by decide)).symm ⟨I, frR_rf⟩ (by rw [uKc (show fOdds (VI I) (VJ I J) s n = -2 by (try simp only [decide_eq_true_eq, decide_eq_false_iff_not, bI] at *); (unfold fOdds; exact fcom_B (by omega))) (by decide)]))
  · refine z_iload_n C 2 rfl dX6_odds_7 rfl ?_
    refine z_iconst C dX6_odds_8 ?_
    refine z_bipush C dX6_odds_9 (by decide) ?_
    refine y_callS3 C oX6_within sX6_within lkX6_75 (c_X6_within (by first | assumption | omega) (by first | assumption | omega) (by first | assumption | omega)) (by decide) (Nat.le_refl _) (Nat.le_refl _) (Nat.le_of_ble_eq_true rfl) dX6_odds_11 ?_
    refine y_if_neB C 24 dX6_odds_14 (by decide) (fun h14 => ?_) (fun h14 => ?_)
    · have hs8 : 0 ≤ s ∧ s < 8 := by simpa using h4
      have hn6 : 0 ≤ n ∧ n ≤ 6 := by simpa using h14
      have hnr := ntN_r hrl (s := s.toNat) (by omega) n
      obtain ⟨sn, hsn⟩ : ∃ k : Nat, s = k := ⟨s.toNat, by omega⟩
      obtain ⟨nn, hnn⟩ : ∃ k : Nat, n = k := ⟨n.toNat, by omega⟩
      have hst : s.toNat = sn := by omega
      have hnt : n.toNat = nn := by omega
      refine z_aload_n C 0 rfl dX6_odds_24 rfl ?_
      refine z_iload_n C 1 rfl dX6_odds_25 rfl ?_
      refine z_iload_n C 2 rfl dX6_odds_26 rfl ?_
      refine y_callV2 C oX6_noTold iX6_noTold eX6_noTold lkX6_253 (c_X6_noTold hrl (by first | assumption | omega) (by first | assumption | omega)) rfl (by decide) rfl rfl (by decide) (Nat.le_refl _) (Nat.le_refl _) (Nat.le_of_ble_eq_true rfl) dX6_odds_27 ?_
      refine z_topI C (fun ft eft => ?_)
      have eft : ft = ntN I s.toNat n := eft
      refine z_istore_n C [(3, .int (iI ft)), (0, .ref 58), (1, .int (iI s)), (2, .int (iI n))] dX6_odds_30 rfl (by decide) rfl ?_
      refine z_iload_n C 0 rfl dX6_odds_31 rfl ?_
      refine z_if_ge C 41 dX6_odds_32 (by decide) (by omega) (fun h32 => ?_) (fun h32 => ?_)
      · rw [hsn, hnn]
        refine z_iconst C dX6_odds_41 ?_
        refine z_istore C [(4, .int (iI 0)), (3, .int (iI ft)), (0, .ref 58), (1, .int (iI ((sn : Int)))), (2, .int (iI ((nn : Int))))] dX6_odds_42 (by decide) rfl ?_
        refine zZ_sub [2, 3, 4, 1, 0] rfl ?_
        refine zZ_cast (σ' := (fun _ : Nat => zst I J q) 0) (L' := (fun e : Nat => [(0, .ref 58), (1, .int (iI ((sn : Int)))), (2, .int (iI ((nn : Int)))), (3, .int (iI ft)), (4, .int (iI (e : Int)))]) 0) rfl rfl rfl ?_
        refine zfor (nn) (fun e => firstN (cmP J sn) e = none) (fun _ : Nat => zst I J q) (fun e : Nat => [(0, .ref 58), (1, .int (iI ((sn : Int)))), (2, .int (iI ((nn : Int)))), (3, .int (iI ft)), (4, .int (iI (e : Int)))]) rfl ?_ ?_
        · intro e hee hpe kke
          refine z_iload C 4 rfl dX6_odds_44 ?_
          refine z_iload_n C 2 rfl dX6_odds_46 rfl ?_
          refine z_icmp_ge C 89 dX6_odds_47 (by decide) (by omega) (by omega) (fun h47 => ?_) (fun h47 => ?_)
          · omega
          · refine z_aload_n C 0 rfl dX6_odds_50 rfl ?_
            refine z_iload_n C 1 rfl dX6_odds_51 rfl ?_
            refine z_iload C 4 rfl dX6_odds_52 ?_
            refine y_callV2 C oX6_toldAt iX6_toldAt eX6_toldAt lkX6_256 (c_X6_toldAt (by first | assumption | omega) (by first | assumption | omega)) rfl (by decide) rfl rfl (by decide) (Nat.le_refl _) (Nat.le_refl _) (Nat.le_of_ble_eq_true rfl) dX6_odds_54 ?_
            refine z_lconst C 0 dX6_odds_57 rfl ?_
            refine z_lcmp_lt C 76 dX6_odds_58 dX6_odds_59 (by decide) (fun h58 => ?_) (fun h58 => ?_)
            · refine z_aload_n C 0 rfl dX6_odds_76 rfl ?_
              refine z_bipush C dX6_odds_77 (by decide) ?_
              refine y_callV1 C oX6_no iX6_no eX6_no lkX6_83 (c_X6_no (by first | assumption | omega)) rfl (by decide) rfl rfl (by decide) (Nat.le_refl _) (Nat.le_refl _) (Nat.le_of_ble_eq_true rfl) dX6_odds_79 ?_
              exact zZ_iret C hR (Nat.le_refl _) (Nat.le_refl _) dX6_odds_82 rfl (zEx_I (uRc (show fOdds (VI I) (VJ I J) s n = -5 by (unfold fOdds; rw [fcom_V hrl hs8 hn6, if_neg (by omega), hst, hnt, if_neg (by rw [firstN_some hee hpe (by unfold cmP isCmd; have hh := h58; rw [i64lt] at hh; have hh : (J 66 (40 * sn + e)).toInt < 0 := hh; rw [decide_eq_false (show ¬ (0 ≤ (J 66 (40 * sn + e)).toInt ∧ (J 66 (40 * sn + e)).toInt < 5) by omega)]; rfl)]; exact fun z => by cases z)])) (by decide)).symm ⟨I, frR_rf⟩ (by rw [uKc (show fOdds (VI I) (VJ I J) s n = -5 by (unfold fOdds; rw [fcom_V hrl hs8 hn6, if_neg (by omega), hst, hnt, if_neg (by rw [firstN_some hee hpe (by unfold cmP isCmd; have hh := h58; rw [i64lt] at hh; have hh : (J 66 (40 * sn + e)).toInt < 0 := hh; rw [decide_eq_false (show ¬ (0 ≤ (J 66 (40 * sn + e)).toInt ∧ (J 66 (40 * sn + e)).toInt < 5) by omega)]; rfl)]; exact fun z => by cases z)])) (by decide)]))
            · refine z_aload_n C 0 rfl dX6_odds_62 rfl ?_
              refine z_iload_n C 1 rfl dX6_odds_63 rfl ?_
              refine z_iload C 4 rfl dX6_odds_64 ?_
              refine y_callV2 C oX6_toldAt iX6_toldAt eX6_toldAt lkX6_256 (c_X6_toldAt (by first | assumption | omega) (by first | assumption | omega)) rfl (by decide) rfl rfl (by decide) (Nat.le_refl _) (Nat.le_refl _) (Nat.le_of_ble_eq_true rfl) dX6_odds_66 ?_
              refine z_ldc2 C 4 dX6_odds_69 kcX6_260 ?_
              refine z_lcmp_le C 83 dX6_odds_72 dX6_odds_73 (by decide) (fun h72 => ?_) (fun h72 => ?_)
              · have hcme : isCmd (J 66 (40 * sn + e)) = true := by
                  have h68 := h58
                  have h80 := h72
                  rw [i64lt] at h68
                  rw [i64le] at h80
                  have h68 : ¬ (J 66 (40 * sn + e)).toInt < 0 := h68
                  have h80 : (J 66 (40 * sn + e)).toInt ≤ 4 := h80
                  unfold isCmd
                  exact decide_eq_true (by omega)
                obtain ⟨v1, ev1⟩ : ∃ y : Int, y = (e : Int) + 1 := ⟨_, rfl⟩
                refine z_iinc C 4 v1 [(4, .int (iI v1)), (0, .ref 58), (1, .int (iI ((sn : Int)))), (2, .int (iI ((nn : Int)))), (3, .int (iI ft))] dX6_odds_83 rfl ev1.symm (by decide) rfl ?_
                refine z_goto C 44 dX6_odds_86 (by decide) ?_
                refine zZ_sub [1, 2, 3, 4, 0] rfl ?_
                refine zZ_cast rfl (zLk (zLk (zLk (zLk (zLc (by omega) rfl))))) rfl (kke (by simp only [firstN, hpe]; rw [if_neg (by unfold cmP; rw [hcme]; decide)]))
              · refine z_aload_n C 0 rfl dX6_odds_76 rfl ?_
                refine z_bipush C dX6_odds_77 (by decide) ?_
                refine y_callV1 C oX6_no iX6_no eX6_no lkX6_83 (c_X6_no (by first | assumption | omega)) rfl (by decide) rfl rfl (by decide) (Nat.le_refl _) (Nat.le_refl _) (Nat.le_of_ble_eq_true rfl) dX6_odds_79 ?_
                exact zZ_iret C hR (Nat.le_refl _) (Nat.le_refl _) dX6_odds_82 rfl (zEx_I (uRc (show fOdds (VI I) (VJ I J) s n = -5 by (unfold fOdds; rw [fcom_V hrl hs8 hn6, if_neg (by omega), hst, hnt, if_neg (by rw [firstN_some hee hpe (by unfold cmP isCmd; have hh := h72; rw [i64le] at hh; have hh : ¬ (J 66 (40 * sn + e)).toInt ≤ 4 := hh; rw [decide_eq_false (show ¬ (0 ≤ (J 66 (40 * sn + e)).toInt ∧ (J 66 (40 * sn + e)).toInt < 5) by omega)]; rfl)]; exact fun z => by cases z)])) (by decide)).symm ⟨I, frR_rf⟩ (by rw [uKc (show fOdds (VI I) (VJ I J) s n = -5 by (unfold fOdds; rw [fcom_V hrl hs8 hn6, if_neg (by omega), hst, hnt, if_neg (by rw [firstN_some hee hpe (by unfold cmP isCmd; have hh := h72; rw [i64le] at hh; have hh : ¬ (J 66 (40 * sn + e)).toInt ≤ 4 := hh; rw [decide_eq_false (show ¬ (0 ≤ (J 66 (40 * sn + e)).toInt ∧ (J 66 (40 * sn + e)).toInt < 5) by omega)]; rfl)]; exact fun z => by cases z)])) (by decide)]))
        · intro hpe
          have hcm := hpe
          refine z_iload C 4 rfl dX6_odds_44 ?_
          refine z_iload_n C 2 rfl dX6_odds_46 rfl ?_
          refine z_icmp_ge C 89 dX6_odds_47 (by decide) (by omega) (by omega) (fun h47 => ?_) (fun h47 => ?_)
          · have hF : ∀ k, k < nn → 0 ≤ (roF J sn k).toInt ∧ (roF J sn k).toInt ≤ 4 := fun k hk => cm_cmd hcm k hk
            obtain ⟨pw, hpw0⟩ : ∃ pw : Nat, pw = 2 ^ nn := ⟨_, rfl⟩
            have hpw : pw ≤ 64 := by rw [hpw0]; exact Nat.pow_le_pow_right (n := 2) (by decide) (show nn ≤ 6 by omega)
            obtain ⟨W, hW⟩ : ∃ W : Nat → Int64, W = fun (k : Nat) => weightN (hvR I) (I 58 9) (spR I) (roF J sn) k nn := ⟨_, rfl⟩
            have hsplit : oddsR I J sn nn = (1000000 * sumL W pw / pow12 nn).toInt := by rw [hW, hpw0]; rfl
            have hp12 := pow12_0 nn (by omega)
            refine z_lconst C 0 dX6_odds_89 rfl ?_
            refine z_lstore C [(4, .long 0), (0, .ref 58), (1, .int (iI ((sn : Int)))), (2, .int (iI ((nn : Int)))), (3, .int (iI ft))] dX6_odds_90 (by decide) rfl ?_
            refine z_lconst C 1 dX6_odds_92 rfl ?_
            refine z_lstore C [(6, .long 1), (4, .long 0), (0, .ref 58), (1, .int (iI ((sn : Int)))), (2, .int (iI ((nn : Int)))), (3, .int (iI ft))] dX6_odds_93 (by decide) rfl ?_
            refine z_iconst C dX6_odds_95 ?_
            refine z_istore C [(8, .int (iI 0)), (6, .long 1), (4, .long 0), (0, .ref 58), (1, .int (iI ((sn : Int)))), (2, .int (iI ((nn : Int)))), (3, .int (iI ft))] dX6_odds_96 (by decide) rfl ?_
            refine zZ_sub [3, 4, 5, 6, 2, 1, 0] rfl ?_
            refine zZ_cast (σ' := (fun _ : Nat => zst I J q) 0) (L' := (fun e : Nat => [(0, .ref 58), (1, .int (iI ((sn : Int)))), (2, .int (iI ((nn : Int)))), (3, .int (iI ft)), (4, .long 0), (6, .long (pow12 e)), (8, .int (iI (e : Int)))]) 0) rfl rfl rfl ?_
            refine zfor (nn) (fun _ => True) (fun _ : Nat => zst I J q) (fun e : Nat => [(0, .ref 58), (1, .int (iI ((sn : Int)))), (2, .int (iI ((nn : Int)))), (3, .int (iI ft)), (4, .long 0), (6, .long (pow12 e)), (8, .int (iI (e : Int)))]) trivial ?_ ?_
            · intro e hee hpe kke
              refine z_iload C 6 rfl dX6_odds_98 ?_
              refine z_iload_n C 2 rfl dX6_odds_100 rfl ?_
              refine z_icmp_ge C 118 dX6_odds_101 (by decide) (by omega) (by omega) (fun h101 => ?_) (fun h101 => ?_)
              · omega
              · refine z_lload C 5 rfl dX6_odds_104 ?_
                refine z_ldc2 C 12 dX6_odds_106 kcX6_262 ?_
                refine z_lmul C dX6_odds_109 ?_
                refine z_topL C (fun v2 ev2 => ?_)
                refine z_lstore C [(6, .long v2), (0, .ref 58), (1, .int (iI ((sn : Int)))), (2, .int (iI ((nn : Int)))), (3, .int (iI ft)), (4, .long 0), (8, .int (iI ((e : Int))))] dX6_odds_110 (by decide) rfl ?_
                obtain ⟨v3, ev3⟩ : ∃ y : Int, y = (e : Int) + 1 := ⟨_, rfl⟩
                refine z_iinc C 6 v3 [(8, .int (iI v3)), (6, .long v2), (0, .ref 58), (1, .int (iI ((sn : Int)))), (2, .int (iI ((nn : Int)))), (3, .int (iI ft)), (4, .long 0)] dX6_odds_112 rfl ev3.symm (by decide) rfl ?_
                refine z_goto C 98 dX6_odds_115 (by decide) ?_
                refine zZ_sub [2, 3, 4, 5, 6, 1, 0] rfl ?_
                refine zZ_cast rfl (zLk (zLk (zLk (zLk (zLk (zLj (by rw [ev2]; rfl) (zLc (by omega) rfl))))))) rfl (kke trivial)
            · intro hpe
              refine z_iload C 6 rfl dX6_odds_98 ?_
              refine z_iload_n C 2 rfl dX6_odds_100 rfl ?_
              refine z_icmp_ge C 118 dX6_odds_101 (by decide) (by omega) (by omega) (fun h101 => ?_) (fun h101 => ?_)
              · refine z_aload_n C 0 rfl dX6_odds_118 rfl ?_
                refine z_iconst C dX6_odds_119 ?_
                refine z_top C (((0 : Nat) : Int)) (rfl) ?_
                refine y_callV1 C oX6_saves iX6_saves eX6_saves lkX6_104 (c_X6_saves (by first | assumption | omega)) rfl (by decide) rfl rfl (by decide) (Nat.le_refl _) (Nat.le_refl _) (Nat.le_of_ble_eq_true rfl) dX6_odds_120 ?_
                refine z_iconst C dX6_odds_123 ?_
                refine z_istore C [(8, .int (iI 0)), (0, .ref 58), (1, .int (iI ((sn : Int)))), (2, .int (iI ((nn : Int)))), (3, .int (iI ft)), (4, .long 0), (6, .long ((pow12 nn)))] dX6_odds_124 (by decide) rfl ?_
                refine zZ_sub [1, 2, 3, 4, 5, 6, 0] rfl ?_
                refine zZ_cast (σ' := (fun _ : Nat => zst (svI I 0 (spR I)) J q) 0) (L' := (fun e : Nat => [(0, .ref 58), (1, .int (iI ((sn : Int)))), (2, .int (iI ((nn : Int)))), (3, .int (iI ft)), (4, .long (sumL W e)), (6, .long ((pow12 nn))), (8, .int (iI (e : Int)))]) 0) rfl rfl rfl ?_
                refine zfor (pw) (fun _ => True) (fun _ : Nat => zst (svI I 0 (spR I)) J q) (fun e : Nat => [(0, .ref 58), (1, .int (iI ((sn : Int)))), (2, .int (iI ((nn : Int)))), (3, .int (iI ft)), (4, .long (sumL W e)), (6, .long ((pow12 nn))), (8, .int (iI (e : Int)))]) trivial ?_ ?_
                · intro e hee hpe kke
                  refine z_iload C 6 rfl dX6_odds_126 ?_
                  refine z_iconst C dX6_odds_128 ?_
                  refine z_iload_n C 2 rfl dX6_odds_129 rfl ?_
                  refine z_ishl C (pw : Int) dX6_odds_130 (by rw [hpw0]; exact iI_sh1 (by omega)) ?_
                  refine z_icmp_ge C 249 dX6_odds_131 (by decide) (by omega) (by omega) (fun h131 => ?_) (fun h131 => ?_)
                  · omega
                  · refine z_lconst C 1 dX6_odds_134 rfl ?_
                    refine z_lstore C [(9, .long 1), (0, .ref 58), (1, .int (iI ((sn : Int)))), (2, .int (iI ((nn : Int)))), (3, .int (iI ft)), (4, .long ((sumL W e))), (6, .long ((pow12 nn))), (8, .int (iI ((e : Int))))] dX6_odds_135 (by decide) rfl ?_
                    refine z_iconst C dX6_odds_137 ?_
                    refine z_istore C [(11, .int (iI 0)), (9, .long 1), (0, .ref 58), (1, .int (iI ((sn : Int)))), (2, .int (iI ((nn : Int)))), (3, .int (iI ft)), (4, .long ((sumL W e))), (6, .long ((pow12 nn))), (8, .int (iI ((e : Int))))] dX6_odds_138 (by decide) rfl ?_
                    refine zZ_sub [2, 3, 4, 5, 6, 7, 8, 1, 0] rfl ?_
                    refine zZ_cast (σ' := (fun c : Nat => zst (zRq (svI I 0 (spR I)) (lostS (hvR I) (spR I) (roF J sn) e c)) J q) 0) (L' := (fun c : Nat => [(0, .ref 58), (1, .int (iI ((sn : Int)))), (2, .int (iI ((nn : Int)))), (3, .int (iI ft)), (4, .long ((sumL W e))), (6, .long ((pow12 nn))), (8, .int (iI ((e : Int)))), (9, .long (lostW (I 58 9) e c)), (11, .int (iI (c : Int)))]) 0) (by refine congrArg (fun I' => zst I' J q) ?_; exact zRq_svs.symm) rfl rfl ?_
                    refine zfor (nn) (fun _ => True) (fun c : Nat => zst (zRq (svI I 0 (spR I)) (lostS (hvR I) (spR I) (roF J sn) e c)) J q) (fun c : Nat => [(0, .ref 58), (1, .int (iI ((sn : Int)))), (2, .int (iI ((nn : Int)))), (3, .int (iI ft)), (4, .long ((sumL W e))), (6, .long ((pow12 nn))), (8, .int (iI ((e : Int)))), (9, .long (lostW (I 58 9) e c)), (11, .int (iI (c : Int)))]) trivial ?_ ?_
                    · intro c hec hpc kkc
                      have hfe := hF c (by omega)
                      have hfe : 0 ≤ (J 66 (40 * sn + c)).toInt ∧ (J 66 (40 * sn + c)).toInt ≤ 4 := hfe
                      have hxk := lost_ok (lost := e) hgr hrs hdo hF c (by omega)
                      obtain ⟨x, hx⟩ : ∃ x, x = lostS (hvR I) (spR I) (roF J sn) e c := ⟨_, rfl⟩
                      rw [← hx] at hxk ⊢
                      have hx2 := hxk.1.2.1
                      obtain ⟨bt, hbt⟩ : ∃ b, b = e / 2 ^ c % 2 := ⟨_, rfl⟩
                      have hb2 : bt < 2 := by rw [hbt]; exact Nat.mod_lt _ (by decide)
                      refine z_iload C 8 rfl dX6_odds_140 ?_
                      refine z_iload_n C 2 rfl dX6_odds_142 rfl ?_
                      refine z_icmp_ge C 220 dX6_odds_143 (by decide) (by omega) (by omega) (fun h143 => ?_) (fun h143 => ?_)
                      · omega
                      · refine z_iload C 6 rfl dX6_odds_146 ?_
                        refine z_iload C 8 rfl dX6_odds_148 ?_
                        refine z_ishr C ((e / 2 ^ c : Nat) : Int) dX6_odds_150 (iI_shr (by omega) (by omega)) ?_
                        refine z_iconst C dX6_odds_151 ?_
                        refine z_iand C (bt : Int) dX6_odds_152 (by rw [hbt]; exact iI_and1 (by have := Nat.div_le_self e (2 ^ c); omega)) ?_
                        refine z_iconst C dX6_odds_153 ?_
                        refine z_icmp_ne C 161 dX6_odds_154 (by decide) (by omega) (by omega) (fun h154 => ?_) (fun h154 => ?_)
                        · refine z_iconst C dX6_odds_161 ?_
                          refine z_istore C [(12, .int (iI 0)), (0, .ref 58), (1, .int (iI ((sn : Int)))), (2, .int (iI ((nn : Int)))), (3, .int (iI ft)), (4, .long ((sumL W e))), (6, .long ((pow12 nn))), (8, .int (iI ((e : Int)))), (9, .long ((lostW (I 58 9) e c))), (11, .int (iI ((c : Int))))] dX6_odds_162 (by decide) rfl ?_
                          have hla : lostAt e c = false := by unfold lostAt; rw [← hbt]; simp; omega
                          refine z_lload C 8 rfl dX6_odds_164 ?_
                          refine z_iload C 0 rfl dX6_odds_166 ?_
                          refine z_if_eq C 179 dX6_odds_168 (by decide) (by omega) (fun h168 => ?_) (fun h168 => ?_)
                          · refine z_bipush C dX6_odds_179 (by decide) ?_
                            refine z_aload_n C 1 rfl dX6_odds_181 rfl ?_
                            refine y_getI C zCl6 9 flX6_64 rfl rfl dX6_odds_182 ?_
                            refine z_isub C dX6_odds_185 ?_
                            refine z_i2l C ((iI (12 - I 58 9)).toInt64) dX6_odds_186 rfl ?_
                            refine z_lmul C dX6_odds_187 ?_
                            refine z_topL C (fun v4 ev4 => ?_)
                            refine z_lstore C [(9, .long v4), (12, .int (iI 0)), (0, .ref 58), (1, .int (iI ((sn : Int)))), (2, .int (iI ((nn : Int)))), (3, .int (iI ft)), (4, .long ((sumL W e))), (6, .long ((pow12 nn))), (8, .int (iI ((e : Int)))), (11, .int (iI ((c : Int))))] dX6_odds_188 (by decide) rfl ?_
                            refine z_aload_n C 2 rfl dX6_odds_190 rfl ?_
                            refine z_iload C 1 rfl dX6_odds_191 ?_
                            refine z_if_eq C 203 dX6_odds_193 (by decide) (by omega) (fun h193 => ?_) (fun h193 => ?_)
                            · refine z_aload_n C 2 rfl dX6_odds_203 rfl ?_
                              refine z_iload_n C 3 rfl dX6_odds_204 rfl ?_
                              refine z_iload C 9 rfl dX6_odds_205 ?_
                              refine y_callV2 C oX6_toldAt iX6_toldAt eX6_toldAt lkX6_256 (c_X6_toldAt (by first | assumption | omega) (by first | assumption | omega)) rfl (by decide) rfl rfl (by decide) (Nat.le_refl _) (Nat.le_refl _) (Nat.le_of_ble_eq_true rfl) dX6_odds_207 ?_
                              refine z_l2i C (J 66 (40 * sn + c)).toInt dX6_odds_210 (l2i_eq _) ?_
                              obtain ⟨kk, hkk⟩ : ∃ k : Nat, (J 66 (40 * sn + c)).toInt = (k : Int) := ⟨((J 66 (40 * sn + c)).toInt).toNat, by omega⟩
                              have hkr : kk < 5 := by omega
                              refine z_top C ((kk : Nat) : Int) (hkk) ?_
                              refine y_callV1 C oX6_goes iX6_goes eX6_goes lkX6_238 (c_X6_goes (gR_q (gR_sv hgr)) hxk.1 (by rw [zRq_k (by decide) (by decide), zRq_n (by decide) (by decide), zRq_3, svI_n (by decide), svI_n (by decide)]; exact hxk.2) hkr) rfl (by decide) rfl rfl (by decide) (Nat.le_refl _) (Nat.le_refl _) (Nat.le_of_ble_eq_true rfl) dX6_odds_211 ?_
                              obtain ⟨v5, ev5⟩ : ∃ y : Int, y = (c : Int) + 1 := ⟨_, rfl⟩
                              refine z_iinc C 9 v5 [(11, .int (iI v5)), (9, .long v4), (12, .int (iI 0)), (0, .ref 58), (1, .int (iI ((sn : Int)))), (2, .int (iI ((nn : Int)))), (3, .int (iI ft)), (4, .long ((sumL W e))), (6, .long ((pow12 nn))), (8, .int (iI ((e : Int))))] dX6_odds_214 rfl ev5.symm (by decide) rfl ?_
                              refine z_goto C 140 dX6_odds_217 (by decide) ?_
                              refine zZ_sub [3, 4, 5, 6, 7, 8, 9, 1, 0] rfl ?_
                              refine zZ_cast (by refine congrArg (fun I' => zst I' J q) ?_; rw [zRq_zRq, hvR_q, hvR_sv, zRq_sp, ← hkk]; simp only [lostS]; rw [hla, ← hx]; rfl) (zLk (zLk (zLk (zLk (zLk (zLk (zLk (zLj (by rw [ev4]; simp only [lostW]; rw [hla]; rfl) (zLc (by omega) rfl))))))))) rfl (kkc trivial)
                            · exact absurd rfl h193
                          · exact absurd rfl h168
                        · refine z_iconst C dX6_odds_157 ?_
                          refine z_goto C 162 dX6_odds_158 (by decide) ?_
                          refine z_istore C [(12, .int (iI 1)), (0, .ref 58), (1, .int (iI ((sn : Int)))), (2, .int (iI ((nn : Int)))), (3, .int (iI ft)), (4, .long ((sumL W e))), (6, .long ((pow12 nn))), (8, .int (iI ((e : Int)))), (9, .long ((lostW (I 58 9) e c))), (11, .int (iI ((c : Int))))] dX6_odds_162 (by decide) rfl ?_
                          have hla : lostAt e c = true := by unfold lostAt; rw [← hbt]; simp; omega
                          refine z_lload C 8 rfl dX6_odds_164 ?_
                          refine z_iload C 0 rfl dX6_odds_166 ?_
                          refine z_if_eq C 179 dX6_odds_168 (by decide) (by omega) (fun h168 => ?_) (fun h168 => ?_)
                          · exact absurd h168 (by decide)
                          · refine z_aload_n C 1 rfl dX6_odds_171 rfl ?_
                            refine y_getI C zCl6 9 flX6_64 rfl rfl dX6_odds_172 ?_
                            refine z_i2l C ((iI (I 58 9)).toInt64) dX6_odds_175 rfl ?_
                            refine z_goto C 187 dX6_odds_176 (by decide) ?_
                            refine z_lmul C dX6_odds_187 ?_
                            refine z_topL C (fun v6 ev6 => ?_)
                            refine z_lstore C [(9, .long v6), (12, .int (iI 1)), (0, .ref 58), (1, .int (iI ((sn : Int)))), (2, .int (iI ((nn : Int)))), (3, .int (iI ft)), (4, .long ((sumL W e))), (6, .long ((pow12 nn))), (8, .int (iI ((e : Int)))), (11, .int (iI ((c : Int))))] dX6_odds_188 (by decide) rfl ?_
                            refine z_aload_n C 2 rfl dX6_odds_190 rfl ?_
                            refine z_iload C 1 rfl dX6_odds_191 ?_
                            refine z_if_eq C 203 dX6_odds_193 (by decide) (by omega) (fun h193 => ?_) (fun h193 => ?_)
                            · exact absurd h193 (by decide)
                            · refine z_aload_n C 2 rfl dX6_odds_196 rfl ?_
                              refine y_getI C zCl6 4 flX6_235 rfl rfl dX6_odds_197 ?_
                              refine z_top C (x.2.1) (rfl) ?_
                              refine z_goto C 211 dX6_odds_200 (by decide) ?_
                              obtain ⟨kk, hkk⟩ : ∃ k : Nat, x.2.1 = (k : Int) := ⟨(x.2.1).toNat, by omega⟩
                              have hkr : kk < 5 := by omega
                              refine z_top C ((kk : Nat) : Int) (hkk) ?_
                              refine y_callV1 C oX6_goes iX6_goes eX6_goes lkX6_238 (c_X6_goes (gR_q (gR_sv hgr)) hxk.1 (by rw [zRq_k (by decide) (by decide), zRq_n (by decide) (by decide), zRq_3, svI_n (by decide), svI_n (by decide)]; exact hxk.2) hkr) rfl (by decide) rfl rfl (by decide) (Nat.le_refl _) (Nat.le_refl _) (Nat.le_of_ble_eq_true rfl) dX6_odds_211 ?_
                              obtain ⟨v7, ev7⟩ : ∃ y : Int, y = (c : Int) + 1 := ⟨_, rfl⟩
                              refine z_iinc C 9 v7 [(11, .int (iI v7)), (9, .long v6), (12, .int (iI 1)), (0, .ref 58), (1, .int (iI ((sn : Int)))), (2, .int (iI ((nn : Int)))), (3, .int (iI ft)), (4, .long ((sumL W e))), (6, .long ((pow12 nn))), (8, .int (iI ((e : Int))))] dX6_odds_214 rfl ev7.symm (by decide) rfl ?_
                              refine z_goto C 140 dX6_odds_217 (by decide) ?_
                              refine zZ_sub [3, 4, 5, 6, 7, 8, 9, 1, 0] rfl ?_
                              refine zZ_cast (by refine congrArg (fun I' => zst I' J q) ?_; rw [zRq_zRq, hvR_q, hvR_sv, zRq_sp, ← hkk]; simp only [lostS]; rw [hla, ← hx]; rfl) (zLk (zLk (zLk (zLk (zLk (zLk (zLk (zLj (by rw [ev6]; simp only [lostW]; rw [hla]; rfl) (zLc (by omega) rfl))))))))) rfl (kkc trivial)
                    · intro hpc
                      have hxm := lost_ok (lost := e) hgr hrs hdo hF nn (Nat.le_refl _)
                      have hib := in_b (I := I) (C := (lostS (hvR I) (spR I) (roF J sn) e nn).2.2) hgr
                      refine z_iload C 8 rfl dX6_odds_140 ?_
                      refine z_iload_n C 2 rfl dX6_odds_142 rfl ?_
                      refine z_icmp_ge C 220 dX6_odds_143 (by decide) (by omega) (by omega) (fun h143 => ?_) (fun h143 => ?_)
                      · refine z_aload_n C 0 rfl dX6_odds_220 rfl ?_
                        refine y_callV0 C oX6_in iX6_in eX6_in lkX6_135 (c_X6_in (gR_q (gR_sv hgr)) hxm.1) rfl (by decide) rfl rfl (by decide) (Nat.le_refl _) (Nat.le_refl _) (Nat.le_of_ble_eq_true rfl) dX6_odds_221 ?_
                        refine z_top C (inN (hvR I) (lostS (hvR I) (spR I) (roF J sn) e nn).2.2) (by rw [hvR_q, hvR_sv]; rfl) ?_
                        refine z_aload_n C 0 rfl dX6_odds_224 rfl ?_
                        refine y_getI C zCl6 5 flX6_72 rfl rfl dX6_odds_225 ?_
                        refine z_top C (I 58 5) (rfl) ?_
                        refine z_icmp_ne C 238 dX6_odds_228 (by decide) (by omega) (by omega) (fun h228 => ?_) (fun h228 => ?_)
                        · refine z_aload_n C 0 rfl dX6_odds_238 rfl ?_
                          refine z_iconst C dX6_odds_239 ?_
                          refine z_top C (((0 : Nat) : Int)) (rfl) ?_
                          refine y_callV1 C oX6_again iX6_again eX6_again lkX6_111 (c_X6_again (by first | assumption | omega) (svAt_q svAt_sv)) rfl (by decide) rfl rfl (by decide) (Nat.le_refl _) (Nat.le_refl _) (Nat.le_of_ble_eq_true rfl) dX6_odds_240 ?_
                          refine zZ_cast (σ' := zst (svI I 0 (spR I)) J q)  (by refine congrArg (fun I' => zst I' J q) ?_; rw [zRq_zRq]; exact zRq_svs) rfl rfl ?_
                          obtain ⟨v8, ev8⟩ : ∃ y : Int, y = (e : Int) + 1 := ⟨_, rfl⟩
                          refine z_iinc C 6 v8 [(8, .int (iI v8)), (0, .ref 58), (1, .int (iI ((sn : Int)))), (2, .int (iI ((nn : Int)))), (3, .int (iI ft)), (4, .long ((sumL W e))), (6, .long ((pow12 nn))), (9, .long ((lostW (I 58 9) e nn))), (11, .int (iI ((nn : Int))))] dX6_odds_243 rfl ev8.symm (by decide) rfl ?_
                          refine z_goto C 126 dX6_odds_246 (by decide) ?_
                          refine zZ_sub [1, 2, 3, 4, 5, 6, 0] rfl ?_
                          refine zZ_cast rfl (zLk (zLk (zLk (zLk (zLj (by simp only [sumL]; rw [show W e = 0 from by rw [hW]; exact if_neg h228, Int64.add_zero]) (zLk (zLc (by omega) rfl))))))) rfl (kke trivial)
                        · refine z_lload C 4 rfl dX6_odds_231 ?_
                          refine z_lload C 7 rfl dX6_odds_233 ?_
                          refine z_ladd C dX6_odds_235 ?_
                          refine z_topL C (fun v9 ev9 => ?_)
                          refine z_lstore C [(4, .long v9), (0, .ref 58), (1, .int (iI ((sn : Int)))), (2, .int (iI ((nn : Int)))), (3, .int (iI ft)), (6, .long ((pow12 nn))), (8, .int (iI ((e : Int)))), (9, .long ((lostW (I 58 9) e nn))), (11, .int (iI ((nn : Int))))] dX6_odds_236 (by decide) rfl ?_
                          refine z_aload_n C 1 rfl dX6_odds_238 rfl ?_
                          refine z_iconst C dX6_odds_239 ?_
                          refine z_top C (((0 : Nat) : Int)) (rfl) ?_
                          refine y_callV1 C oX6_again iX6_again eX6_again lkX6_111 (c_X6_again (by first | assumption | omega) (svAt_q svAt_sv)) rfl (by decide) rfl rfl (by decide) (Nat.le_refl _) (Nat.le_refl _) (Nat.le_of_ble_eq_true rfl) dX6_odds_240 ?_
                          refine zZ_cast (σ' := zst (svI I 0 (spR I)) J q)  (by refine congrArg (fun I' => zst I' J q) ?_; rw [zRq_zRq]; exact zRq_svs) rfl rfl ?_
                          obtain ⟨v10, ev10⟩ : ∃ y : Int, y = (e : Int) + 1 := ⟨_, rfl⟩
                          refine z_iinc C 6 v10 [(8, .int (iI v10)), (4, .long v9), (0, .ref 58), (1, .int (iI ((sn : Int)))), (2, .int (iI ((nn : Int)))), (3, .int (iI ft)), (6, .long ((pow12 nn))), (9, .long ((lostW (I 58 9) e nn))), (11, .int (iI ((nn : Int))))] dX6_odds_243 rfl ev10.symm (by decide) rfl ?_
                          refine z_goto C 126 dX6_odds_246 (by decide) ?_
                          refine zZ_sub [2, 3, 4, 5, 1, 6, 0] rfl ?_
                          refine zZ_cast rfl (zLk (zLk (zLk (zLk (zLj (by rw [ev9]; simp only [sumL]; rw [show W e = lostW (I 58 9) e nn from by rw [hW]; exact if_pos h228]) (zLk (zLc (by omega) rfl))))))) rfl (kke trivial)
                      · omega
                · intro hpe
                  refine z_iload C 6 rfl dX6_odds_126 ?_
                  refine z_iconst C dX6_odds_128 ?_
                  refine z_iload_n C 2 rfl dX6_odds_129 rfl ?_
                  refine z_ishl C (pw : Int) dX6_odds_130 (by rw [hpw0]; exact iI_sh1 (by omega)) ?_
                  refine z_icmp_ge C 249 dX6_odds_131 (by decide) (by omega) (by omega) (fun h131 => ?_) (fun h131 => ?_)
                  · refine z_ldc2 C 1000000 dX6_odds_249 kcX6_264 ?_
                    refine z_lload C 4 rfl dX6_odds_252 ?_
                    refine z_lmul C dX6_odds_254 ?_
                    refine z_lload C 5 rfl dX6_odds_255 ?_
                    refine z_ldiv C dX6_odds_257 hp12.1 ?_
                    refine z_l2i C (1000000 * sumL W pw / pow12 nn).toInt dX6_odds_258 (l2i_eq _) ?_
                    exact zZ_iret C hR (Nat.le_refl _) (Nat.le_refl _) dX6_odds_259 rfl (zEx_I (by rw [uR0 (show fOdds (VI I) (VJ I J) s n = 0 by (unfold fOdds; rw [fcom_V hrl hs8 hn6, if_neg (by omega), hst, hnt, if_pos hcm])), hst, hnt]; exact hsplit.symm) ⟨svI I 0 (spR I), frR_sv⟩ (by rw [uK0 (show fOdds (VI I) (VJ I J) s n = 0 by (unfold fOdds; rw [fcom_V hrl hs8 hn6, if_neg (by omega), hst, hnt, if_pos hcm]))]))
                  · omega
              · omega
          · omega
      · refine z_aload_n C 1 rfl dX6_odds_35 rfl ?_
        refine z_iload_n C 0 rfl dX6_odds_36 rfl ?_
        refine y_callV1 C oX6_no iX6_no eX6_no lkX6_83 (c_X6_no (by first | assumption | omega)) rfl (by decide) rfl rfl (by decide) (Nat.le_refl _) (Nat.le_refl _) (Nat.le_of_ble_eq_true rfl) dX6_odds_37 ?_
        exact zZ_iret C hR (Nat.le_refl _) (Nat.le_refl _) dX6_odds_40 rfl (zEx_I (uRc (show fOdds (VI I) (VJ I J) s n = ft by (unfold fOdds; rw [fcom_V hrl hs8 hn6, if_pos (by omega)]; omega)) (by omega)).symm ⟨I, frR_rf⟩ (by rw [uKc (show fOdds (VI I) (VJ I J) s n = ft by (unfold fOdds; rw [fcom_V hrl hs8 hn6, if_pos (by omega)]; omega)) (by omega)]))
    · refine z_aload_n C 0 rfl dX6_odds_17 rfl ?_
      refine z_bipush C dX6_odds_18 (by decide) ?_
      refine y_callV1 C oX6_no iX6_no eX6_no lkX6_83 (c_X6_no (by first | assumption | omega)) rfl (by decide) rfl rfl (by decide) (Nat.le_refl _) (Nat.le_refl _) (Nat.le_of_ble_eq_true rfl) dX6_odds_20 ?_
      exact zZ_iret C hR (Nat.le_refl _) (Nat.le_refl _) dX6_odds_23 rfl (zEx_I (uRc (show fOdds (VI I) (VJ I J) s n = -2 by (try simp only [decide_eq_true_eq, decide_eq_false_iff_not, bI] at *); (unfold fOdds; exact fcom_B (by omega))) (by decide)).symm ⟨I, frR_rf⟩ (by rw [uKc (show fOdds (VI I) (VJ I J) s n = -2 by (try simp only [decide_eq_true_eq, decide_eq_false_iff_not, bI] at *); (unfold fOdds; exact fcom_B (by omega))) (by decide)]))
