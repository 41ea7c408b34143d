set_option maxHeartbeats 4000000 in
set_option maxRecDepth 100000 in
theorem c_X6_behind {g : zG} {I : Nat → Nat → Int} {J : Nat → Nat → Int64} {q : Nat × Nat} {s n w : Int} (hgr : gR I) (hrs : gRS (spR I)) (hrl : gRL I) (hdo : openN (I 58 0) (maskW (I 59)) (I 58 3) = true) (hs : -2147483648 ≤ s ∧ s ≤ 2147483647) (hn : -2147483648 ≤ n ∧ n ≤ 2147483647) (hw : -2147483648 ≤ w ∧ w ≤ 2147483647) : zRuns g mX6_behind 7 0 0 [.ref 58, .int (iI s), .int (iI n), .int (iI w)] (zst I J q) (zEx (some (.int (iI (uR (fBehind (VI I) (VJ I J) s n w) (behindR I J s.toNat n.toNat w))))) (fun I2 : {I2 // frR I I2} => zst (uK I2.1 (fBehind (VI I) (VJ I J) s n w) I2.1) J q)) := by
  obtain ⟨b1, b2, b3, b4, b5, b6, b7⟩ := id hgr
  obtain ⟨k1, k2, k3⟩ := id hrs
  have k1 : gC7 (I 58 3) := k1
  have k2 : 0 ≤ I 58 4 ∧ I 58 4 ≤ 4 := k2
  have k3 : ∀ e, e < 5 → gC7 (I 62 e) := k3
  have k1' := k1.1
  have b2' := b2.1
  have v10 : VI I 1 0 = I 58 0 := congrArg (fun x => x) rfl
  have v11 : VI I 1 1 = I 58 2 := congrArg (fun x => x) rfl
  have v12 : VI I 1 2 = I 58 9 := congrArg (fun x => x) rfl
  have v16 : VI I 1 6 = I 58 5 := congrArg (fun x => x) rfl
  have v40 : VI I 4 0 = I 58 3 := congrArg (fun x => x) rfl
  have v41 : VI I 4 1 = I 58 4 := congrArg (fun x => x) rfl
  have v111 : VI I 11 1 = I 58 12 := congrArg (fun x => x) rfl
  have v13 : VI I 1 3 = I 58 10 := congrArg (fun x => x) rfl
  have v14 : VI I 1 4 = I 58 11 := congrArg (fun x => x) rfl
  refine zRuns_intro rfl (Nat.le_of_ble_eq_true rfl) (fun X C hR => ?_)
  show zZ g X 0 0 _ 0 [(0, .ref 58), (1, .int (iI s)), (2, .int (iI n)), (3, .int (iI w))] []
  refine z_iload_n C 1 rfl dX6_behind_0 rfl ?_
  refine y_callS1 C oX6_isShelf sX6_isShelf lkX6_79 (c_X6_isShelf (by first | assumption | omega)) (by decide) (Nat.le_refl _) (Nat.le_refl _) (Nat.le_of_ble_eq_true rfl) dX6_behind_1 ?_
  refine y_if_eqB C 48 dX6_behind_4 (by decide) (fun h4 => ?_) (fun h4 => ?_)
  · refine z_aload_n C 0 rfl dX6_behind_48 rfl ?_
    refine z_bipush C dX6_behind_49 (by decide) ?_
    refine y_callV1 C oX6_no iX6_no eX6_no lkX6_83 (c_X6_no (by first | assumption | omega)) rfl (by decide) rfl rfl (by decide) (Nat.le_refl _) (Nat.le_refl _) (Nat.le_of_ble_eq_true rfl) dX6_behind_51 ?_
    exact zZ_iret C hR (Nat.le_refl _) (Nat.le_refl _) dX6_behind_54 rfl (zEx_I (uRc (show fBehind (VI I) (VJ I J) s n w = -2 by (try simp only [decide_eq_true_eq, decide_eq_false_iff_not, bI] at *); (unfold fBehind fDone; rw [v16]; by_cases hwq : (0 ≤ w ∧ w ≤ 2) ∨ (10 ≤ w ∧ w < 15 ∧ w - 10 < I 58 5); (first | exact absurd hwq (by omega) | (rw [if_pos hwq, frow_B (by omega), if_pos (by decide)])); rw [if_neg hwq])) (by decide)).symm ⟨I, frR_rf⟩ (by rw [uKc (show fBehind (VI I) (VJ I J) s n w = -2 by (try simp only [decide_eq_true_eq, decide_eq_false_iff_not, bI] at *); (unfold fBehind fDone; rw [v16]; by_cases hwq : (0 ≤ w ∧ w ≤ 2) ∨ (10 ≤ w ∧ w < 15 ∧ w - 10 < I 58 5); (first | exact absurd hwq (by omega) | (rw [if_pos hwq, frow_B (by omega), if_pos (by decide)])); rw [if_neg hwq])) (by decide)]))
  · refine z_iload_n C 2 rfl dX6_behind_7 rfl ?_
    refine z_iconst C dX6_behind_8 ?_
    refine z_bipush C dX6_behind_9 (by decide) ?_
    refine y_callS3 C oX6_within sX6_within lkX6_75 (c_X6_within (by first | assumption | omega) (by first | assumption | omega) (by first | assumption | omega)) (by decide) (Nat.le_refl _) (Nat.le_refl _) (Nat.le_of_ble_eq_true rfl) dX6_behind_11 ?_
    refine y_if_eqB C 48 dX6_behind_14 (by decide) (fun h14 => ?_) (fun h14 => ?_)
    · refine z_aload_n C 0 rfl dX6_behind_48 rfl ?_
      refine z_bipush C dX6_behind_49 (by decide) ?_
      refine y_callV1 C oX6_no iX6_no eX6_no lkX6_83 (c_X6_no (by first | assumption | omega)) rfl (by decide) rfl rfl (by decide) (Nat.le_refl _) (Nat.le_refl _) (Nat.le_of_ble_eq_true rfl) dX6_behind_51 ?_
      exact zZ_iret C hR (Nat.le_refl _) (Nat.le_refl _) dX6_behind_54 rfl (zEx_I (uRc (show fBehind (VI I) (VJ I J) s n w = -2 by (try simp only [decide_eq_true_eq, decide_eq_false_iff_not, bI] at *); (unfold fBehind fDone; rw [v16]; by_cases hwq : (0 ≤ w ∧ w ≤ 2) ∨ (10 ≤ w ∧ w < 15 ∧ w - 10 < I 58 5); (first | exact absurd hwq (by omega) | (rw [if_pos hwq, frow_B (by omega), if_pos (by decide)])); rw [if_neg hwq])) (by decide)).symm ⟨I, frR_rf⟩ (by rw [uKc (show fBehind (VI I) (VJ I J) s n w = -2 by (try simp only [decide_eq_true_eq, decide_eq_false_iff_not, bI] at *); (unfold fBehind fDone; rw [v16]; by_cases hwq : (0 ≤ w ∧ w ≤ 2) ∨ (10 ≤ w ∧ w < 15 ∧ w - 10 < I 58 5); (first | exact absurd hwq (by omega) | (rw [if_pos hwq, frow_B (by omega), if_pos (by decide)])); rw [if_neg hwq])) (by decide)]))
    · refine z_iload_n C 3 rfl dX6_behind_17 rfl ?_
      refine z_iconst C dX6_behind_18 ?_
      refine z_iconst C dX6_behind_19 ?_
      refine y_callS3 C oX6_within sX6_within lkX6_75 (c_X6_within (by first | assumption | omega) (by first | assumption | omega) (by first | assumption | omega)) (by decide) (Nat.le_refl _) (Nat.le_refl _) (Nat.le_of_ble_eq_true rfl) dX6_behind_20 ?_
      refine y_if_neB C 55 dX6_behind_23 (by decide) (fun h23 => ?_) (fun h23 => ?_)
      · have hwok : (0 ≤ w ∧ w ≤ 2) ∨ (10 ≤ w ∧ w < 15 ∧ w - 10 < I 58 5) := by have h23 : 0 ≤ w ∧ w ≤ 2 := (by simpa using h23); exact .inl h23
        have hs8 : 0 ≤ s ∧ s < 8 := by simpa using h4
        have hn4 : 0 ≤ n ∧ n ≤ 40 := by simpa using h14
        have hnr := ntN_r hrl (s := s.toNat) (by omega) n
        obtain ⟨sn, hsn⟩ : ∃ k : Nat, s = k := ⟨s.toNat, by omega⟩
        obtain ⟨nn, hnn⟩ : ∃ k : Nat, n = k := ⟨n.toNat, by omega⟩
        have hst : s.toNat = sn := by omega
        have hnt : n.toNat = nn := by omega
        refine z_aload_n C 0 rfl dX6_behind_55 rfl ?_
        refine z_iload_n C 1 rfl dX6_behind_56 rfl ?_
        refine z_iload_n C 2 rfl dX6_behind_57 rfl ?_
        refine y_callV2 C oX6_noTold iX6_noTold eX6_noTold lkX6_253 (c_X6_noTold hrl (by first | assumption | omega) (by first | assumption | omega)) rfl (by decide) rfl rfl (by decide) (Nat.le_refl _) (Nat.le_refl _) (Nat.le_of_ble_eq_true rfl) dX6_behind_58 ?_
        refine z_topI C (fun ft eft => ?_)
        have eft : ft = ntN I s.toNat n := eft
        refine z_istore C [(4, .int (iI ft)), (0, .ref 58), (1, .int (iI s)), (2, .int (iI n)), (3, .int (iI w))] dX6_behind_61 (by decide) rfl ?_
        refine z_iload C 0 rfl dX6_behind_63 ?_
        refine z_if_ge C 75 dX6_behind_65 (by decide) (by omega) (fun h65 => ?_) (fun h65 => ?_)
        · refine z_aload_n C 1 rfl dX6_behind_75 rfl ?_
          refine z_iconst C dX6_behind_76 ?_
          refine z_top C (((0 : Nat) : Int)) (rfl) ?_
          refine y_callV1 C oX6_saves iX6_saves eX6_saves lkX6_104 (c_X6_saves (by first | assumption | omega)) rfl (by decide) rfl rfl (by decide) (Nat.le_refl _) (Nat.le_refl _) (Nat.le_of_ble_eq_true rfl) dX6_behind_77 ?_
          rw [hsn, hnn]
          refine z_aload_n C 1 rfl dX6_behind_80 rfl ?_
          refine z_iload_n C 2 rfl dX6_behind_81 rfl ?_
          refine z_iload_n C 3 rfl dX6_behind_82 rfl ?_
          refine y_callV2 C oX6_doneAll iX6_doneAll eX6_doneAll lkX6_296 (c_X6_doneAll (gR_sv hgr) (by rw [spR_sv]; exact hrs) (by rw [svI_n (by decide), svI_n (by decide)]; exact hdo) (by first | assumption | omega) (by first | assumption | omega)) rfl (by decide) rfl rfl (by decide) (Nat.le_refl _) (Nat.le_refl _) (Nat.le_of_ble_eq_true rfl) dX6_behind_83 ?_
          refine zZ_cast (σ' := zst (zRq (svI I 0 (spR I)) (runS (hvR I) (spR I) (tdF J sn) (dnK I J sn nn))) J q) (S' := .int (iI (dnR I J sn nn)) :: []) (by rw [hvR_sv, spR_sv, dn_sv.2]) rfl (by rw [dn_sv.1]; rfl) ?_
          refine z_topI C (fun wr ewr => ?_)
          refine z_istore C [(5, .int (iI wr)), (4, .int (iI ft)), (0, .ref 58), (1, .int (iI ((sn : Int)))), (2, .int (iI ((nn : Int)))), (3, .int (iI w))] dX6_behind_86 (by decide) rfl ?_
          have hrr : gRS (runS (hvR I) (spR I) (tdF J sn) (dnK I J sn nn)) := (run_ok hgr hrs hdo _ (dn_cmd dnK_le.2)).1
          have hwr := dnR_r (I := I) (J := J) (s := sn) (n := nn) (by omega)
          have hbV : behindR I J s.toNat n.toNat w = if w = 0 then inN (hvR I) (runS (hvR I) (spR I) (tdF J sn) (dnK I J sn nn)).2.2 else if w = 1 then (runS (hvR I) (spR I) (tdF J sn) (dnK I J sn nn)).1 else if w = 2 then apO (runS (hvR I) (spR I) (tdF J sn) (dnK I J sn nn)).2.2 (I 58 2) (I 58 5).toNat else (runS (hvR I) (spR I) (tdF J sn) (dnK I J sn nn)).2.2 (w - 10).toNat := by rw [hst, hnt]; rfl
          have ewr : wr = dnR I J sn nn := ewr
          refine z_iload_n C 5 rfl dX6_behind_88 rfl ?_
          refine z_if_ne C 99 dX6_behind_89 (by decide) (by omega) (fun h89 => ?_) (fun h89 => ?_)
          · refine z_iload_n C 5 rfl dX6_behind_99 rfl ?_
            refine z_iconst C dX6_behind_100 ?_
            refine z_icmp_ne C 111 dX6_behind_101 (by decide) (by omega) (by omega) (fun h101 => ?_) (fun h101 => ?_)
            · refine z_iload_n C 5 rfl dX6_behind_111 rfl ?_
              refine z_iconst C dX6_behind_112 ?_
              refine z_icmp_ne C 123 dX6_behind_113 (by decide) (by omega) (by omega) (fun h113 => ?_) (fun h113 => ?_)
              · have hwe : 10 ≤ w ∧ w < 15 := by omega
                refine z_aload_n C 2 rfl dX6_behind_123 rfl ?_
                refine y_getR C zCl6 8 flX6_20 rfl rfl rfl dX6_behind_124 ?_
                refine z_iload_n C 5 rfl dX6_behind_127 rfl ?_
                refine z_bipush C dX6_behind_128 (by decide) ?_
                refine z_isub C dX6_behind_130 ?_
                refine y_iald C (w - 10).toNat (by omega) rfl (by omega) (by decide) dX6_behind_131 ?_
                refine z_top C ((runS (hvR I) (spR I) (tdF J sn) (dnK I J sn nn)).2.2 (w - 10).toNat) (rfl) ?_
                refine z_topI C (fun is6 eis6 => ?_)
                refine z_istore C [(6, .int (iI is6)), (5, .int (iI wr)), (4, .int (iI ft)), (0, .ref 58), (1, .int (iI ((sn : Int)))), (2, .int (iI ((nn : Int)))), (3, .int (iI w))] dX6_behind_132 (by decide) rfl ?_
                refine z_aload_n C 3 rfl dX6_behind_134 rfl ?_
                refine z_iconst C dX6_behind_135 ?_
                refine z_top C (((0 : Nat) : Int)) (rfl) ?_
                refine y_callV1 C oX6_again iX6_again eX6_again lkX6_111 (c_X6_again (by first | assumption | omega) (svAt_q svAt_sv)) rfl (by decide) rfl rfl (by decide) (Nat.le_refl _) (Nat.le_refl _) (Nat.le_of_ble_eq_true rfl) dX6_behind_136 ?_
                refine zZ_cast (σ' := zst (svI I 0 (spR I)) J q) (by refine congrArg (fun I' => zst I' J q) ?_; rw [zRq_zRq]; exact zRq_svs) rfl rfl ?_
                refine z_iload C 1 rfl dX6_behind_139 ?_
                refine z_iconst C dX6_behind_141 ?_
                refine z_icmp_ne C 150 dX6_behind_142 (by decide) (by omega) (by omega) (fun h142 => ?_) (fun h142 => ?_)
                · refine z_aload_n C 3 rfl dX6_behind_150 rfl ?_
                  refine z_bipush C dX6_behind_151 (by decide) ?_
                  refine y_callV1 C oX6_no iX6_no eX6_no lkX6_83 (c_X6_no (by first | assumption | omega)) rfl (by decide) rfl rfl (by decide) (Nat.le_refl _) (Nat.le_refl _) (Nat.le_of_ble_eq_true rfl) dX6_behind_153 ?_
                  exact zZ_iret C hR (Nat.le_refl _) (Nat.le_refl _) dX6_behind_156 rfl (zEx_I (uRc (show fBehind (VI I) (VJ I J) s n w = -5 by (unfold fBehind fDone; rw [v16, if_pos hwok, frow_V hrl hs8 hn4, if_neg (by omega), wrong_V hs8, hst, hnt, if_neg (by omega)])) (by decide)).symm ⟨svI I 0 (spR I), frR_sv⟩ (by rw [uKc (show fBehind (VI I) (VJ I J) s n w = -5 by (unfold fBehind fDone; rw [v16, if_pos hwok, frow_V hrl hs8 hn4, if_neg (by omega), wrong_V hs8, hst, hnt, if_neg (by omega)])) (by decide)]))
                · refine z_iload C 0 rfl dX6_behind_145 ?_
                  refine z_goto C 156 dX6_behind_147 (by decide) ?_
                  exact zZ_iret C hR (Nat.le_refl _) (Nat.le_refl _) dX6_behind_156 rfl (zEx_I (by rw [uR0 (show fBehind (VI I) (VJ I J) s n w = 0 by unfold fBehind fDone; rw [v16, if_pos (by omega), frow_V hrl hs8 hn4, if_neg (by omega), wrong_V hs8, hst, hnt, if_pos (by omega)]), hbV]; rw [if_neg (by omega), if_neg (by omega), if_neg (by omega), eis6]) ⟨svI I 0 (spR I), frR_sv⟩ (by rw [uK0 (show fBehind (VI I) (VJ I J) s n w = 0 by unfold fBehind fDone; rw [v16, if_pos (by omega), frow_V hrl hs8 hn4, if_neg (by omega), wrong_V hs8, hst, hnt, if_pos (by omega)])]))
              · refine z_aload_n C 2 rfl dX6_behind_116 rfl ?_
                refine y_callV0 C oX6_apart iX6_apart eX6_apart lkX6_269 (c_X6_apart (gR_q (gR_sv hgr)) hrr) rfl (by decide) rfl rfl (by decide) (Nat.le_refl _) (Nat.le_refl _) (Nat.le_of_ble_eq_true rfl) dX6_behind_117 ?_
                refine z_top C (apO (runS (hvR I) (spR I) (tdF J sn) (dnK I J sn nn)).2.2 (I 58 2) (I 58 5).toNat) (by rw [zRq_62, zRq_k (by decide) (by decide), zRq_k (by decide) (by decide), svI_n (by decide)]) ?_
                refine z_goto C 132 dX6_behind_120 (by decide) ?_
                refine z_topI C (fun is6 eis6 => ?_)
                refine z_istore C [(6, .int (iI is6)), (5, .int (iI wr)), (4, .int (iI ft)), (0, .ref 58), (1, .int (iI ((sn : Int)))), (2, .int (iI ((nn : Int)))), (3, .int (iI w))] dX6_behind_132 (by decide) rfl ?_
                refine z_aload_n C 3 rfl dX6_behind_134 rfl ?_
                refine z_iconst C dX6_behind_135 ?_
                refine z_top C (((0 : Nat) : Int)) (rfl) ?_
                refine y_callV1 C oX6_again iX6_again eX6_again lkX6_111 (c_X6_again (by first | assumption | omega) (svAt_q svAt_sv)) rfl (by decide) rfl rfl (by decide) (Nat.le_refl _) (Nat.le_refl _) (Nat.le_of_ble_eq_true rfl) dX6_behind_136 ?_
                refine zZ_cast (σ' := zst (svI I 0 (spR I)) J q) (by refine congrArg (fun I' => zst I' J q) ?_; rw [zRq_zRq]; exact zRq_svs) rfl rfl ?_
                refine z_iload C 1 rfl dX6_behind_139 ?_
                refine z_iconst C dX6_behind_141 ?_
                refine z_icmp_ne C 150 dX6_behind_142 (by decide) (by omega) (by omega) (fun h142 => ?_) (fun h142 => ?_)
                · refine z_aload_n C 3 rfl dX6_behind_150 rfl ?_
                  refine z_bipush C dX6_behind_151 (by decide) ?_
                  refine y_callV1 C oX6_no iX6_no eX6_no lkX6_83 (c_X6_no (by first | assumption | omega)) rfl (by decide) rfl rfl (by decide) (Nat.le_refl _) (Nat.le_refl _) (Nat.le_of_ble_eq_true rfl) dX6_behind_153 ?_
                  exact zZ_iret C hR (Nat.le_refl _) (Nat.le_refl _) dX6_behind_156 rfl (zEx_I (uRc (show fBehind (VI I) (VJ I J) s n w = -5 by (unfold fBehind fDone; rw [v16, if_pos hwok, frow_V hrl hs8 hn4, if_neg (by omega), wrong_V hs8, hst, hnt, if_neg (by omega)])) (by decide)).symm ⟨svI I 0 (spR I), frR_sv⟩ (by rw [uKc (show fBehind (VI I) (VJ I J) s n w = -5 by (unfold fBehind fDone; rw [v16, if_pos hwok, frow_V hrl hs8 hn4, if_neg (by omega), wrong_V hs8, hst, hnt, if_neg (by omega)])) (by decide)]))
                · refine z_iload C 0 rfl dX6_behind_145 ?_
                  refine z_goto C 156 dX6_behind_147 (by decide) ?_
                  exact zZ_iret C hR (Nat.le_refl _) (Nat.le_refl _) dX6_behind_156 rfl (zEx_I (by rw [uR0 (show fBehind (VI I) (VJ I J) s n w = 0 by unfold fBehind fDone; rw [v16, if_pos (by omega), frow_V hrl hs8 hn4, if_neg (by omega), wrong_V hs8, hst, hnt, if_pos (by omega)]), hbV]; rw [if_neg (by omega), if_neg (by omega), if_pos (by omega), eis6]) ⟨svI I 0 (spR I), frR_sv⟩ (by rw [uK0 (show fBehind (VI I) (VJ I J) s n w = 0 by unfold fBehind fDone; rw [v16, if_pos (by omega), frow_V hrl hs8 hn4, if_neg (by omega), wrong_V hs8, hst, hnt, if_pos (by omega)])]))
            · refine z_aload_n C 2 rfl dX6_behind_104 rfl ?_
              refine y_getI C zCl6 3 flX6_61 rfl rfl dX6_behind_105 ?_
              refine z_top C ((runS (hvR I) (spR I) (tdF J sn) (dnK I J sn nn)).1) (rfl) ?_
              refine z_goto C 132 dX6_behind_108 (by decide) ?_
              refine z_topI C (fun is6 eis6 => ?_)
              refine z_istore C [(6, .int (iI is6)), (5, .int (iI wr)), (4, .int (iI ft)), (0, .ref 58), (1, .int (iI ((sn : Int)))), (2, .int (iI ((nn : Int)))), (3, .int (iI w))] dX6_behind_132 (by decide) rfl ?_
              refine z_aload_n C 3 rfl dX6_behind_134 rfl ?_
              refine z_iconst C dX6_behind_135 ?_
              refine z_top C (((0 : Nat) : Int)) (rfl) ?_
              refine y_callV1 C oX6_again iX6_again eX6_again lkX6_111 (c_X6_again (by first | assumption | omega) (svAt_q svAt_sv)) rfl (by decide) rfl rfl (by decide) (Nat.le_refl _) (Nat.le_refl _) (Nat.le_of_ble_eq_true rfl) dX6_behind_136 ?_
              refine zZ_cast (σ' := zst (svI I 0 (spR I)) J q) (by refine congrArg (fun I' => zst I' J q) ?_; rw [zRq_zRq]; exact zRq_svs) rfl rfl ?_
              refine z_iload C 1 rfl dX6_behind_139 ?_
              refine z_iconst C dX6_behind_141 ?_
              refine z_icmp_ne C 150 dX6_behind_142 (by decide) (by omega) (by omega) (fun h142 => ?_) (fun h142 => ?_)
              · refine z_aload_n C 3 rfl dX6_behind_150 rfl ?_
                refine z_bipush C dX6_behind_151 (by decide) ?_
                refine y_callV1 C oX6_no iX6_no eX6_no lkX6_83 (c_X6_no (by first | assumption | omega)) rfl (by decide) rfl rfl (by decide) (Nat.le_refl _) (Nat.le_refl _) (Nat.le_of_ble_eq_true rfl) dX6_behind_153 ?_
                exact zZ_iret C hR (Nat.le_refl _) (Nat.le_refl _) dX6_behind_156 rfl (zEx_I (uRc (show fBehind (VI I) (VJ I J) s n w = -5 by (unfold fBehind fDone; rw [v16, if_pos hwok, frow_V hrl hs8 hn4, if_neg (by omega), wrong_V hs8, hst, hnt, if_neg (by omega)])) (by decide)).symm ⟨svI I 0 (spR I), frR_sv⟩ (by rw [uKc (show fBehind (VI I) (VJ I J) s n w = -5 by (unfold fBehind fDone; rw [v16, if_pos hwok, frow_V hrl hs8 hn4, if_neg (by omega), wrong_V hs8, hst, hnt, if_neg (by omega)])) (by decide)]))
              · refine z_iload C 0 rfl dX6_behind_145 ?_
                refine z_goto C 156 dX6_behind_147 (by decide) ?_
                exact zZ_iret C hR (Nat.le_refl _) (Nat.le_refl _) dX6_behind_156 rfl (zEx_I (by rw [uR0 (show fBehind (VI I) (VJ I J) s n w = 0 by unfold fBehind fDone; rw [v16, if_pos (by omega), frow_V hrl hs8 hn4, if_neg (by omega), wrong_V hs8, hst, hnt, if_pos (by omega)]), hbV]; rw [if_neg (by omega), if_pos (by omega), eis6]) ⟨svI I 0 (spR I), frR_sv⟩ (by rw [uK0 (show fBehind (VI I) (VJ I J) s n w = 0 by unfold fBehind fDone; rw [v16, if_pos (by omega), frow_V hrl hs8 hn4, if_neg (by omega), wrong_V hs8, hst, hnt, if_pos (by omega)])]))
          · refine z_aload_n C 2 rfl dX6_behind_92 rfl ?_
            refine y_callV0 C oX6_in iX6_in eX6_in lkX6_135 (c_X6_in (gR_q (gR_sv hgr)) hrr) rfl (by decide) rfl rfl (by decide) (Nat.le_refl _) (Nat.le_refl _) (Nat.le_of_ble_eq_true rfl) dX6_behind_93 ?_
            refine z_top C (inN (hvR I) (runS (hvR I) (spR I) (tdF J sn) (dnK I J sn nn)).2.2) (by rw [hvR_q, hvR_sv]; rfl) ?_
            refine z_goto C 132 dX6_behind_96 (by decide) ?_
            refine z_topI C (fun is6 eis6 => ?_)
            refine z_istore C [(6, .int (iI is6)), (5, .int (iI wr)), (4, .int (iI ft)), (0, .ref 58), (1, .int (iI ((sn : Int)))), (2, .int (iI ((nn : Int)))), (3, .int (iI w))] dX6_behind_132 (by decide) rfl ?_
            refine z_aload_n C 3 rfl dX6_behind_134 rfl ?_
            refine z_iconst C dX6_behind_135 ?_
            refine z_top C (((0 : Nat) : Int)) (rfl) ?_
            refine y_callV1 C oX6_again iX6_again eX6_again lkX6_111 (c_X6_again (by first | assumption | omega) (svAt_q svAt_sv)) rfl (by decide) rfl rfl (by decide) (Nat.le_refl _) (Nat.le_refl _) (Nat.le_of_ble_eq_true rfl) dX6_behind_136 ?_
            refine zZ_cast (σ' := zst (svI I 0 (spR I)) J q) (by refine congrArg (fun I' => zst I' J q) ?_; rw [zRq_zRq]; exact zRq_svs) rfl rfl ?_
            refine z_iload C 1 rfl dX6_behind_139 ?_
            refine z_iconst C dX6_behind_141 ?_
            refine z_icmp_ne C 150 dX6_behind_142 (by decide) (by omega) (by omega) (fun h142 => ?_) (fun h142 => ?_)
            · refine z_aload_n C 3 rfl dX6_behind_150 rfl ?_
              refine z_bipush C dX6_behind_151 (by decide) ?_
              refine y_callV1 C oX6_no iX6_no eX6_no lkX6_83 (c_X6_no (by first | assumption | omega)) rfl (by decide) rfl rfl (by decide) (Nat.le_refl _) (Nat.le_refl _) (Nat.le_of_ble_eq_true rfl) dX6_behind_153 ?_
              exact zZ_iret C hR (Nat.le_refl _) (Nat.le_refl _) dX6_behind_156 rfl (zEx_I (uRc (show fBehind (VI I) (VJ I J) s n w = -5 by (unfold fBehind fDone; rw [v16, if_pos hwok, frow_V hrl hs8 hn4, if_neg (by omega), wrong_V hs8, hst, hnt, if_neg (by omega)])) (by decide)).symm ⟨svI I 0 (spR I), frR_sv⟩ (by rw [uKc (show fBehind (VI I) (VJ I J) s n w = -5 by (unfold fBehind fDone; rw [v16, if_pos hwok, frow_V hrl hs8 hn4, if_neg (by omega), wrong_V hs8, hst, hnt, if_neg (by omega)])) (by decide)]))
            · refine z_iload C 0 rfl dX6_behind_145 ?_
              refine z_goto C 156 dX6_behind_147 (by decide) ?_
              exact zZ_iret C hR (Nat.le_refl _) (Nat.le_refl _) dX6_behind_156 rfl (zEx_I (by rw [uR0 (show fBehind (VI I) (VJ I J) s n w = 0 by unfold fBehind fDone; rw [v16, if_pos (by omega), frow_V hrl hs8 hn4, if_neg (by omega), wrong_V hs8, hst, hnt, if_pos (by omega)]), hbV]; rw [if_pos (by omega), eis6]) ⟨svI I 0 (spR I), frR_sv⟩ (by rw [uK0 (show fBehind (VI I) (VJ I J) s n w = 0 by unfold fBehind fDone; rw [v16, if_pos (by omega), frow_V hrl hs8 hn4, if_neg (by omega), wrong_V hs8, hst, hnt, if_pos (by omega)])]))
        · refine z_aload_n C 1 rfl dX6_behind_68 rfl ?_
          refine z_iload C 0 rfl dX6_behind_69 ?_
          refine y_callV1 C oX6_no iX6_no eX6_no lkX6_83 (c_X6_no (by first | assumption | omega)) rfl (by decide) rfl rfl (by decide) (Nat.le_refl _) (Nat.le_refl _) (Nat.le_of_ble_eq_true rfl) dX6_behind_71 ?_
          exact zZ_iret C hR (Nat.le_refl _) (Nat.le_refl _) dX6_behind_74 rfl (zEx_I (uRc (show fBehind (VI I) (VJ I J) s n w = ft by (unfold fBehind fDone; rw [v16, if_pos hwok, frow_V hrl hs8 hn4, if_pos (by omega)]; omega)) (by omega)).symm ⟨I, frR_rf⟩ (by rw [uKc (show fBehind (VI I) (VJ I J) s n w = ft by (unfold fBehind fDone; rw [v16, if_pos hwok, frow_V hrl hs8 hn4, if_pos (by omega)]; omega)) (by omega)]))
      · refine z_iload_n C 3 rfl dX6_behind_26 rfl ?_
        refine z_bipush C dX6_behind_27 (by decide) ?_
        refine z_bipush C dX6_behind_29 (by decide) ?_
        refine y_callS3 C oX6_within sX6_within lkX6_75 (c_X6_within (by first | assumption | omega) (by first | assumption | omega) (by first | assumption | omega)) (by decide) (Nat.le_refl _) (Nat.le_refl _) (Nat.le_of_ble_eq_true rfl) dX6_behind_31 ?_
        refine y_if_eqB C 48 dX6_behind_34 (by decide) (fun h34 => ?_) (fun h34 => ?_)
        · refine z_aload_n C 0 rfl dX6_behind_48 rfl ?_
          refine z_bipush C dX6_behind_49 (by decide) ?_
          refine y_callV1 C oX6_no iX6_no eX6_no lkX6_83 (c_X6_no (by first | assumption | omega)) rfl (by decide) rfl rfl (by decide) (Nat.le_refl _) (Nat.le_refl _) (Nat.le_of_ble_eq_true rfl) dX6_behind_51 ?_
          exact zZ_iret C hR (Nat.le_refl _) (Nat.le_refl _) dX6_behind_54 rfl (zEx_I (uRc (show fBehind (VI I) (VJ I J) s n w = -2 by (try simp only [decide_eq_true_eq, decide_eq_false_iff_not, bI] at *); (unfold fBehind fDone; rw [v16]; by_cases hwq : (0 ≤ w ∧ w ≤ 2) ∨ (10 ≤ w ∧ w < 15 ∧ w - 10 < I 58 5); (first | exact absurd hwq (by omega) | (rw [if_pos hwq, frow_B (by omega), if_pos (by decide)])); rw [if_neg hwq])) (by decide)).symm ⟨I, frR_rf⟩ (by rw [uKc (show fBehind (VI I) (VJ I J) s n w = -2 by (try simp only [decide_eq_true_eq, decide_eq_false_iff_not, bI] at *); (unfold fBehind fDone; rw [v16]; by_cases hwq : (0 ≤ w ∧ w ≤ 2) ∨ (10 ≤ w ∧ w < 15 ∧ w - 10 < I 58 5); (first | exact absurd hwq (by omega) | (rw [if_pos hwq, frow_B (by omega), if_pos (by decide)])); rw [if_neg hwq])) (by decide)]))
        · have h34b : 10 ≤ w ∧ w ≤ 14 := by simpa using h34
          refine z_aload_n C 0 rfl dX6_behind_37 rfl ?_
          refine z_iload_n C 3 rfl dX6_behind_38 rfl ?_
          refine z_bipush C dX6_behind_39 (by decide) ?_
          refine z_isub C dX6_behind_41 ?_
          refine y_callV1 C oX6_isEwe iX6_isEwe eX6_isEwe lkX6_97 (c_X6_isEwe hgr (by first | assumption | omega)) rfl (by decide) rfl rfl (by decide) (Nat.le_refl _) (Nat.le_refl _) (Nat.le_of_ble_eq_true rfl) dX6_behind_42 ?_
          refine y_if_neB C 55 dX6_behind_45 (by decide) (fun h45 => ?_) (fun h45 => ?_)
          · have hwok : (0 ≤ w ∧ w ≤ 2) ∨ (10 ≤ w ∧ w < 15 ∧ w - 10 < I 58 5) := by have h34 : 10 ≤ w ∧ w ≤ 14 := (by simpa using h34); have h45 : 0 ≤ w - 10 ∧ w - 10 < I 58 5 := (by simpa using h45); exact .inr ⟨by omega, by omega, by omega⟩
            have hs8 : 0 ≤ s ∧ s < 8 := by simpa using h4
            have hn4 : 0 ≤ n ∧ n ≤ 40 := by simpa using h14
            have hnr := ntN_r hrl (s := s.toNat) (by omega) n
            obtain ⟨sn, hsn⟩ : ∃ k : Nat, s = k := ⟨s.toNat, by omega⟩
            obtain ⟨nn, hnn⟩ : ∃ k : Nat, n = k := ⟨n.toNat, by omega⟩
            have hst : s.toNat = sn := by omega
            have hnt : n.toNat = nn := by omega
            refine z_aload_n C 0 rfl dX6_behind_55 rfl ?_
            refine z_iload_n C 1 rfl dX6_behind_56 rfl ?_
            refine z_iload_n C 2 rfl dX6_behind_57 rfl ?_
            refine y_callV2 C oX6_noTold iX6_noTold eX6_noTold lkX6_253 (c_X6_noTold hrl (by first | assumption | omega) (by first | assumption | omega)) rfl (by decide) rfl rfl (by decide) (Nat.le_refl _) (Nat.le_refl _) (Nat.le_of_ble_eq_true rfl) dX6_behind_58 ?_
            refine z_topI C (fun ft eft => ?_)
            have eft : ft = ntN I s.toNat n := eft
            refine z_istore C [(4, .int (iI ft)), (0, .ref 58), (1, .int (iI s)), (2, .int (iI n)), (3, .int (iI w))] dX6_behind_61 (by decide) rfl ?_
            refine z_iload C 0 rfl dX6_behind_63 ?_
            refine z_if_ge C 75 dX6_behind_65 (by decide) (by omega) (fun h65 => ?_) (fun h65 => ?_)
            · refine z_aload_n C 1 rfl dX6_behind_75 rfl ?_
              refine z_iconst C dX6_behind_76 ?_
              refine z_top C (((0 : Nat) : Int)) (rfl) ?_
              refine y_callV1 C oX6_saves iX6_saves eX6_saves lkX6_104 (c_X6_saves (by first | assumption | omega)) rfl (by decide) rfl rfl (by decide) (Nat.le_refl _) (Nat.le_refl _) (Nat.le_of_ble_eq_true rfl) dX6_behind_77 ?_
              rw [hsn, hnn]
              refine z_aload_n C 1 rfl dX6_behind_80 rfl ?_
              refine z_iload_n C 2 rfl dX6_behind_81 rfl ?_
              refine z_iload_n C 3 rfl dX6_behind_82 rfl ?_
              refine y_callV2 C oX6_doneAll iX6_doneAll eX6_doneAll lkX6_296 (c_X6_doneAll (gR_sv hgr) (by rw [spR_sv]; exact hrs) (by rw [svI_n (by decide), svI_n (by decide)]; exact hdo) (by first | assumption | omega) (by first | assumption | omega)) rfl (by decide) rfl rfl (by decide) (Nat.le_refl _) (Nat.le_refl _) (Nat.le_of_ble_eq_true rfl) dX6_behind_83 ?_
              refine zZ_cast (σ' := zst (zRq (svI I 0 (spR I)) (runS (hvR I) (spR I) (tdF J sn) (dnK I J sn nn))) J q) (S' := .int (iI (dnR I J sn nn)) :: []) (by rw [hvR_sv, spR_sv, dn_sv.2]) rfl (by rw [dn_sv.1]; rfl) ?_
              refine z_topI C (fun wr ewr => ?_)
              refine z_istore C [(5, .int (iI wr)), (4, .int (iI ft)), (0, .ref 58), (1, .int (iI ((sn : Int)))), (2, .int (iI ((nn : Int)))), (3, .int (iI w))] dX6_behind_86 (by decide) rfl ?_
              have hrr : gRS (runS (hvR I) (spR I) (tdF J sn) (dnK I J sn nn)) := (run_ok hgr hrs hdo _ (dn_cmd dnK_le.2)).1
              have hwr := dnR_r (I := I) (J := J) (s := sn) (n := nn) (by omega)
              have hbV : behindR I J s.toNat n.toNat w = if w = 0 then inN (hvR I) (runS (hvR I) (spR I) (tdF J sn) (dnK I J sn nn)).2.2 else if w = 1 then (runS (hvR I) (spR I) (tdF J sn) (dnK I J sn nn)).1 else if w = 2 then apO (runS (hvR I) (spR I) (tdF J sn) (dnK I J sn nn)).2.2 (I 58 2) (I 58 5).toNat else (runS (hvR I) (spR I) (tdF J sn) (dnK I J sn nn)).2.2 (w - 10).toNat := by rw [hst, hnt]; rfl
              have ewr : wr = dnR I J sn nn := ewr
              refine z_iload_n C 5 rfl dX6_behind_88 rfl ?_
              refine z_if_ne C 99 dX6_behind_89 (by decide) (by omega) (fun h89 => ?_) (fun h89 => ?_)
              · refine z_iload_n C 5 rfl dX6_behind_99 rfl ?_
                refine z_iconst C dX6_behind_100 ?_
                refine z_icmp_ne C 111 dX6_behind_101 (by decide) (by omega) (by omega) (fun h101 => ?_) (fun h101 => ?_)
                · refine z_iload_n C 5 rfl dX6_behind_111 rfl ?_
                  refine z_iconst C dX6_behind_112 ?_
                  refine z_icmp_ne C 123 dX6_behind_113 (by decide) (by omega) (by omega) (fun h113 => ?_) (fun h113 => ?_)
                  · have hwe : 10 ≤ w ∧ w < 15 := by omega
                    refine z_aload_n C 2 rfl dX6_behind_123 rfl ?_
                    refine y_getR C zCl6 8 flX6_20 rfl rfl rfl dX6_behind_124 ?_
                    refine z_iload_n C 5 rfl dX6_behind_127 rfl ?_
                    refine z_bipush C dX6_behind_128 (by decide) ?_
                    refine z_isub C dX6_behind_130 ?_
                    refine y_iald C (w - 10).toNat (by omega) rfl (by omega) (by decide) dX6_behind_131 ?_
                    refine z_top C ((runS (hvR I) (spR I) (tdF J sn) (dnK I J sn nn)).2.2 (w - 10).toNat) (rfl) ?_
                    refine z_topI C (fun is6 eis6 => ?_)
                    refine z_istore C [(6, .int (iI is6)), (5, .int (iI wr)), (4, .int (iI ft)), (0, .ref 58), (1, .int (iI ((sn : Int)))), (2, .int (iI ((nn : Int)))), (3, .int (iI w))] dX6_behind_132 (by decide) rfl ?_
                    refine z_aload_n C 3 rfl dX6_behind_134 rfl ?_
                    refine z_iconst C dX6_behind_135 ?_
                    refine z_top C (((0 : Nat) : Int)) (rfl) ?_
                    refine y_callV1 C oX6_again iX6_again eX6_again lkX6_111 (c_X6_again (by first | assumption | omega) (svAt_q svAt_sv)) rfl (by decide) rfl rfl (by decide) (Nat.le_refl _) (Nat.le_refl _) (Nat.le_of_ble_eq_true rfl) dX6_behind_136 ?_
                    refine zZ_cast (σ' := zst (svI I 0 (spR I)) J q) (by refine congrArg (fun I' => zst I' J q) ?_; rw [zRq_zRq]; exact zRq_svs) rfl rfl ?_
                    refine z_iload C 1 rfl dX6_behind_139 ?_
                    refine z_iconst C dX6_behind_141 ?_
                    refine z_icmp_ne C 150 dX6_behind_142 (by decide) (by omega) (by omega) (fun h142 => ?_) (fun h142 => ?_)
                    · refine z_aload_n C 3 rfl dX6_behind_150 rfl ?_
                      refine z_bipush C dX6_behind_151 (by decide) ?_
                      refine y_callV1 C oX6_no iX6_no eX6_no lkX6_83 (c_X6_no (by first | assumption | omega)) rfl (by decide) rfl rfl (by decide) (Nat.le_refl _) (Nat.le_refl _) (Nat.le_of_ble_eq_true rfl) dX6_behind_153 ?_
                      exact zZ_iret C hR (Nat.le_refl _) (Nat.le_refl _) dX6_behind_156 rfl (zEx_I (uRc (show fBehind (VI I) (VJ I J) s n w = -5 by (unfold fBehind fDone; rw [v16, if_pos hwok, frow_V hrl hs8 hn4, if_neg (by omega), wrong_V hs8, hst, hnt, if_neg (by omega)])) (by decide)).symm ⟨svI I 0 (spR I), frR_sv⟩ (by rw [uKc (show fBehind (VI I) (VJ I J) s n w = -5 by (unfold fBehind fDone; rw [v16, if_pos hwok, frow_V hrl hs8 hn4, if_neg (by omega), wrong_V hs8, hst, hnt, if_neg (by omega)])) (by decide)]))
                    · refine z_iload C 0 rfl dX6_behind_145 ?_
                      refine z_goto C 156 dX6_behind_147 (by decide) ?_
                      exact zZ_iret C hR (Nat.le_refl _) (Nat.le_refl _) dX6_behind_156 rfl (zEx_I (by rw [uR0 (show fBehind (VI I) (VJ I J) s n w = 0 by unfold fBehind fDone; rw [v16, if_pos (by omega), frow_V hrl hs8 hn4, if_neg (by omega), wrong_V hs8, hst, hnt, if_pos (by omega)]), hbV]; rw [if_neg (by omega), if_neg (by omega), if_neg (by omega), eis6]) ⟨svI I 0 (spR I), frR_sv⟩ (by rw [uK0 (show fBehind (VI I) (VJ I J) s n w = 0 by unfold fBehind fDone; rw [v16, if_pos (by omega), frow_V hrl hs8 hn4, if_neg (by omega), wrong_V hs8, hst, hnt, if_pos (by omega)])]))
                  · refine z_aload_n C 2 rfl dX6_behind_116 rfl ?_
                    refine y_callV0 C oX6_apart iX6_apart eX6_apart lkX6_269 (c_X6_apart (gR_q (gR_sv hgr)) hrr) rfl (by decide) rfl rfl (by decide) (Nat.le_refl _) (Nat.le_refl _) (Nat.le_of_ble_eq_true rfl) dX6_behind_117 ?_
                    refine z_top C (apO (runS (hvR I) (spR I) (tdF J sn) (dnK I J sn nn)).2.2 (I 58 2) (I 58 5).toNat) (by rw [zRq_62, zRq_k (by decide) (by decide), zRq_k (by decide) (by decide), svI_n (by decide)]) ?_
                    refine z_goto C 132 dX6_behind_120 (by decide) ?_
                    refine z_topI C (fun is6 eis6 => ?_)
                    refine z_istore C [(6, .int (iI is6)), (5, .int (iI wr)), (4, .int (iI ft)), (0, .ref 58), (1, .int (iI ((sn : Int)))), (2, .int (iI ((nn : Int)))), (3, .int (iI w))] dX6_behind_132 (by decide) rfl ?_
                    refine z_aload_n C 3 rfl dX6_behind_134 rfl ?_
                    refine z_iconst C dX6_behind_135 ?_
                    refine z_top C (((0 : Nat) : Int)) (rfl) ?_
                    refine y_callV1 C oX6_again iX6_again eX6_again lkX6_111 (c_X6_again (by first | assumption | omega) (svAt_q svAt_sv)) rfl (by decide) rfl rfl (by decide) (Nat.le_refl _) (Nat.le_refl _) (Nat.le_of_ble_eq_true rfl) dX6_behind_136 ?_
                    refine zZ_cast (σ' := zst (svI I 0 (spR I)) J q) (by refine congrArg (fun I' => zst I' J q) ?_; rw [zRq_zRq]; exact zRq_svs) rfl rfl ?_
                    refine z_iload C 1 rfl dX6_behind_139 ?_
                    refine z_iconst C dX6_behind_141 ?_
                    refine z_icmp_ne C 150 dX6_behind_142 (by decide) (by omega) (by omega) (fun h142 => ?_) (fun h142 => ?_)
                    · refine z_aload_n C 3 rfl dX6_behind_150 rfl ?_
                      refine z_bipush C dX6_behind_151 (by decide) ?_
                      refine y_callV1 C oX6_no iX6_no eX6_no lkX6_83 (c_X6_no (by first | assumption | omega)) rfl (by decide) rfl rfl (by decide) (Nat.le_refl _) (Nat.le_refl _) (Nat.le_of_ble_eq_true rfl) dX6_behind_153 ?_
                      exact zZ_iret C hR (Nat.le_refl _) (Nat.le_refl _) dX6_behind_156 rfl (zEx_I (uRc (show fBehind (VI I) (VJ I J) s n w = -5 by (unfold fBehind fDone; rw [v16, if_pos hwok, frow_V hrl hs8 hn4, if_neg (by omega), wrong_V hs8, hst, hnt, if_neg (by omega)])) (by decide)).symm ⟨svI I 0 (spR I), frR_sv⟩ (by rw [uKc (show fBehind (VI I) (VJ I J) s n w = -5 by (unfold fBehind fDone; rw [v16, if_pos hwok, frow_V hrl hs8 hn4, if_neg (by omega), wrong_V hs8, hst, hnt, if_neg (by omega)])) (by decide)]))
                    · refine z_iload C 0 rfl dX6_behind_145 ?_
                      refine z_goto C 156 dX6_behind_147 (by decide) ?_
                      exact zZ_iret C hR (Nat.le_refl _) (Nat.le_refl _) dX6_behind_156 rfl (zEx_I (by rw [uR0 (show fBehind (VI I) (VJ I J) s n w = 0 by unfold fBehind fDone; rw [v16, if_pos (by omega), frow_V hrl hs8 hn4, if_neg (by omega), wrong_V hs8, hst, hnt, if_pos (by omega)]), hbV]; rw [if_neg (by omega), if_neg (by omega), if_pos (by omega), eis6]) ⟨svI I 0 (spR I), frR_sv⟩ (by rw [uK0 (show fBehind (VI I) (VJ I J) s n w = 0 by unfold fBehind fDone; rw [v16, if_pos (by omega), frow_V hrl hs8 hn4, if_neg (by omega), wrong_V hs8, hst, hnt, if_pos (by omega)])]))
                · refine z_aload_n C 2 rfl dX6_behind_104 rfl ?_
                  refine y_getI C zCl6 3 flX6_61 rfl rfl dX6_behind_105 ?_
                  refine z_top C ((runS (hvR I) (spR I) (tdF J sn) (dnK I J sn nn)).1) (rfl) ?_
                  refine z_goto C 132 dX6_behind_108 (by decide) ?_
                  refine z_topI C (fun is6 eis6 => ?_)
                  refine z_istore C [(6, .int (iI is6)), (5, .int (iI wr)), (4, .int (iI ft)), (0, .ref 58), (1, .int (iI ((sn : Int)))), (2, .int (iI ((nn : Int)))), (3, .int (iI w))] dX6_behind_132 (by decide) rfl ?_
                  refine z_aload_n C 3 rfl dX6_behind_134 rfl ?_
                  refine z_iconst C dX6_behind_135 ?_
                  refine z_top C (((0 : Nat) : Int)) (rfl) ?_
                  refine y_callV1 C oX6_again iX6_again eX6_again lkX6_111 (c_X6_again (by first | assumption | omega) (svAt_q svAt_sv)) rfl (by decide) rfl rfl (by decide) (Nat.le_refl _) (Nat.le_refl _) (Nat.le_of_ble_eq_true rfl) dX6_behind_136 ?_
                  refine zZ_cast (σ' := zst (svI I 0 (spR I)) J q) (by refine congrArg (fun I' => zst I' J q) ?_; rw [zRq_zRq]; exact zRq_svs) rfl rfl ?_
                  refine z_iload C 1 rfl dX6_behind_139 ?_
                  refine z_iconst C dX6_behind_141 ?_
                  refine z_icmp_ne C 150 dX6_behind_142 (by decide) (by omega) (by omega) (fun h142 => ?_) (fun h142 => ?_)
                  · refine z_aload_n C 3 rfl dX6_behind_150 rfl ?_
                    refine z_bipush C dX6_behind_151 (by decide) ?_
                    refine y_callV1 C oX6_no iX6_no eX6_no lkX6_83 (c_X6_no (by first | assumption | omega)) rfl (by decide) rfl rfl (by decide) (Nat.le_refl _) (Nat.le_refl _) (Nat.le_of_ble_eq_true rfl) dX6_behind_153 ?_
                    exact zZ_iret C hR (Nat.le_refl _) (Nat.le_refl _) dX6_behind_156 rfl (zEx_I (uRc (show fBehind (VI I) (VJ I J) s n w = -5 by (unfold fBehind fDone; rw [v16, if_pos hwok, frow_V hrl hs8 hn4, if_neg (by omega), wrong_V hs8, hst, hnt, if_neg (by omega)])) (by decide)).symm ⟨svI I 0 (spR I), frR_sv⟩ (by rw [uKc (show fBehind (VI I) (VJ I J) s n w = -5 by (unfold fBehind fDone; rw [v16, if_pos hwok, frow_V hrl hs8 hn4, if_neg (by omega), wrong_V hs8, hst, hnt, if_neg (by omega)])) (by decide)]))
                  · refine z_iload C 0 rfl dX6_behind_145 ?_
                    refine z_goto C 156 dX6_behind_147 (by decide) ?_
                    exact zZ_iret C hR (Nat.le_refl _) (Nat.le_refl _) dX6_behind_156 rfl (zEx_I (by rw [uR0 (show fBehind (VI I) (VJ I J) s n w = 0 by unfold fBehind fDone; rw [v16, if_pos (by omega), frow_V hrl hs8 hn4, if_neg (by omega), wrong_V hs8, hst, hnt, if_pos (by omega)]), hbV]; rw [if_neg (by omega), if_pos (by omega), eis6]) ⟨svI I 0 (spR I), frR_sv⟩ (by rw [uK0 (show fBehind (VI I) (VJ I J) s n w = 0 by unfold fBehind fDone; rw [v16, if_pos (by omega), frow_V hrl hs8 hn4, if_neg (by omega), wrong_V hs8, hst, hnt, if_pos (by omega)])]))
              · refine z_aload_n C 2 rfl dX6_behind_92 rfl ?_
                refine y_callV0 C oX6_in iX6_in eX6_in lkX6_135 (c_X6_in (gR_q (gR_sv hgr)) hrr) rfl (by decide) rfl rfl (by decide) (Nat.le_refl _) (Nat.le_refl _) (Nat.le_of_ble_eq_true rfl) dX6_behind_93 ?_
                refine z_top C (inN (hvR I) (runS (hvR I) (spR I) (tdF J sn) (dnK I J sn nn)).2.2) (by rw [hvR_q, hvR_sv]; rfl) ?_
                refine z_goto C 132 dX6_behind_96 (by decide) ?_
                refine z_topI C (fun is6 eis6 => ?_)
                refine z_istore C [(6, .int (iI is6)), (5, .int (iI wr)), (4, .int (iI ft)), (0, .ref 58), (1, .int (iI ((sn : Int)))), (2, .int (iI ((nn : Int)))), (3, .int (iI w))] dX6_behind_132 (by decide) rfl ?_
                refine z_aload_n C 3 rfl dX6_behind_134 rfl ?_
                refine z_iconst C dX6_behind_135 ?_
                refine z_top C (((0 : Nat) : Int)) (rfl) ?_
                refine y_callV1 C oX6_again iX6_again eX6_again lkX6_111 (c_X6_again (by first | assumption | omega) (svAt_q svAt_sv)) rfl (by decide) rfl rfl (by decide) (Nat.le_refl _) (Nat.le_refl _) (Nat.le_of_ble_eq_true rfl) dX6_behind_136 ?_
                refine zZ_cast (σ' := zst (svI I 0 (spR I)) J q) (by refine congrArg (fun I' => zst I' J q) ?_; rw [zRq_zRq]; exact zRq_svs) rfl rfl ?_
                refine z_iload C 1 rfl dX6_behind_139 ?_
                refine z_iconst C dX6_behind_141 ?_
                refine z_icmp_ne C 150 dX6_behind_142 (by decide) (by omega) (by omega) (fun h142 => ?_) (fun h142 => ?_)
                · refine z_aload_n C 3 rfl dX6_behind_150 rfl ?_
                  refine z_bipush C dX6_behind_151 (by decide) ?_
                  refine y_callV1 C oX6_no iX6_no eX6_no lkX6_83 (c_X6_no (by first | assumption | omega)) rfl (by decide) rfl rfl (by decide) (Nat.le_refl _) (Nat.le_refl _) (Nat.le_of_ble_eq_true rfl) dX6_behind_153 ?_
                  exact zZ_iret C hR (Nat.le_refl _) (Nat.le_refl _) dX6_behind_156 rfl (zEx_I (uRc (show fBehind (VI I) (VJ I J) s n w = -5 by (unfold fBehind fDone; rw [v16, if_pos hwok, frow_V hrl hs8 hn4, if_neg (by omega), wrong_V hs8, hst, hnt, if_neg (by omega)])) (by decide)).symm ⟨svI I 0 (spR I), frR_sv⟩ (by rw [uKc (show fBehind (VI I) (VJ I J) s n w = -5 by (unfold fBehind fDone; rw [v16, if_pos hwok, frow_V hrl hs8 hn4, if_neg (by omega), wrong_V hs8, hst, hnt, if_neg (by omega)])) (by decide)]))
                · refine z_iload C 0 rfl dX6_behind_145 ?_
                  refine z_goto C 156 dX6_behind_147 (by decide) ?_
                  exact zZ_iret C hR (Nat.le_refl _) (Nat.le_refl _) dX6_behind_156 rfl (zEx_I (by rw [uR0 (show fBehind (VI I) (VJ I J) s n w = 0 by unfold fBehind fDone; rw [v16, if_pos (by omega), frow_V hrl hs8 hn4, if_neg (by omega), wrong_V hs8, hst, hnt, if_pos (by omega)]), hbV]; rw [if_pos (by omega), eis6]) ⟨svI I 0 (spR I), frR_sv⟩ (by rw [uK0 (show fBehind (VI I) (VJ I J) s n w = 0 by unfold fBehind fDone; rw [v16, if_pos (by omega), frow_V hrl hs8 hn4, if_neg (by omega), wrong_V hs8, hst, hnt, if_pos (by omega)])]))
            · refine z_aload_n C 1 rfl dX6_behind_68 rfl ?_
              refine z_iload C 0 rfl dX6_behind_69 ?_
              refine y_callV1 C oX6_no iX6_no eX6_no lkX6_83 (c_X6_no (by first | assumption | omega)) rfl (by decide) rfl rfl (by decide) (Nat.le_refl _) (Nat.le_refl _) (Nat.le_of_ble_eq_true rfl) dX6_behind_71 ?_
              exact zZ_iret C hR (Nat.le_refl _) (Nat.le_refl _) dX6_behind_74 rfl (zEx_I (uRc (show fBehind (VI I) (VJ I J) s n w = ft by (unfold fBehind fDone; rw [v16, if_pos hwok, frow_V hrl hs8 hn4, if_pos (by omega)]; omega)) (by omega)).symm ⟨I, frR_rf⟩ (by rw [uKc (show fBehind (VI I) (VJ I J) s n w = ft by (unfold fBehind fDone; rw [v16, if_pos hwok, frow_V hrl hs8 hn4, if_pos (by omega)]; omega)) (by omega)]))
          · refine z_aload_n C 0 rfl dX6_behind_48 rfl ?_
            refine z_bipush C dX6_behind_49 (by decide) ?_
            refine y_callV1 C oX6_no iX6_no eX6_no lkX6_83 (c_X6_no (by first | assumption | omega)) rfl (by decide) rfl rfl (by decide) (Nat.le_refl _) (Nat.le_refl _) (Nat.le_of_ble_eq_true rfl) dX6_behind_51 ?_
            exact zZ_iret C hR (Nat.le_refl _) (Nat.le_refl _) dX6_behind_54 rfl (zEx_I (uRc (show fBehind (VI I) (VJ I J) s n w = -2 by (try simp only [decide_eq_true_eq, decide_eq_false_iff_not, bI] at *); (unfold fBehind fDone; rw [v16]; by_cases hwq : (0 ≤ w ∧ w ≤ 2) ∨ (10 ≤ w ∧ w < 15 ∧ w - 10 < I 58 5); (first | exact absurd hwq (by omega) | (rw [if_pos hwq, frow_B (by omega), if_pos (by decide)])); rw [if_neg hwq])) (by decide)).symm ⟨I, frR_rf⟩ (by rw [uKc (show fBehind (VI I) (VJ I J) s n w = -2 by (try simp only [decide_eq_true_eq, decide_eq_false_iff_not, bI] at *); (unfold fBehind fDone; rw [v16]; by_cases hwq : (0 ≤ w ∧ w ≤ 2) ∨ (10 ≤ w ∧ w < 15 ∧ w - 10 < I 58 5); (first | exact absurd hwq (by omega) | (rw [if_pos hwq, frow_B (by omega), if_pos (by decide)])); rw [if_neg hwq])) (by decide)]))
