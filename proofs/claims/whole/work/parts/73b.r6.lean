set_option maxHeartbeats 4000000 in
set_option maxRecDepth 100000 in
theorem c_X6_judge {g : zG} {I : Nat → Nat → Int} {J : Nat → Nat → Int64} {q : Nat × Nat} {s n : Int} (hgr : gR I) (hrs : gRS (spR I)) (hrl : gRL I) (hdo : openN (I 58 0) (maskW (I 59)) (I 58 3) = true) (hs : -2147483648 ≤ s ∧ s ≤ 2147483647) (hn : -2147483648 ≤ n ∧ n ≤ 2147483647) : zRun g mX6_judge 7 [.ref 58, .int (iI s), .int (iI n)] (zst I J q) (some (.int (iI (uR (fJudge (VI I) s n) (dnR I J s.toNat n.toNat))))) (zst (uK I (fJudge (VI I) s n) (svI I 0 (spR I))) J q) := by
  obtain ⟨b1, b2, b3, b4, b5, b6, b7⟩ := id hgr
  obtain ⟨k1, k2, k3⟩ := id hrs
  have k1 : gC7 (I 58 3) := k1
  have k2 : 0 ≤ I 58 4 ∧ I 58 4 ≤ 4 := k2
  have k3 : ∀ e, e < 5 → gC7 (I 62 e) := k3
  have k1' := k1.1
  have b2' := b2.1
  have v10 : VI I 1 0 = I 58 0 := congrArg (fun x => x) rfl
  have v11 : VI I 1 1 = I 58 2 := congrArg (fun x => x) rfl
  have v12 : VI I 1 2 = I 58 9 := congrArg (fun x => x) rfl
  have v16 : VI I 1 6 = I 58 5 := congrArg (fun x => x) rfl
  have v40 : VI I 4 0 = I 58 3 := congrArg (fun x => x) rfl
  have v41 : VI I 4 1 = I 58 4 := congrArg (fun x => x) rfl
  have v111 : VI I 11 1 = I 58 12 := congrArg (fun x => x) rfl
  have v13 : VI I 1 3 = I 58 10 := congrArg (fun x => x) rfl
  have v14 : VI I 1 4 = I 58 11 := congrArg (fun x => x) rfl
  refine zRuns_intro rfl (Nat.le_of_ble_eq_true rfl) (fun X C hR => ?_)
  show zZ g X 0 0 _ 0 [(0, .ref 58), (1, .int (iI s)), (2, .int (iI n))] []
  refine z_iload_n C 1 rfl dX6_judge_0 rfl ?_
  refine y_callS1 C oX6_isShelf sX6_isShelf lkX6_79 (c_X6_isShelf (by first | assumption | omega)) (by decide) (Nat.le_refl _) (Nat.le_refl _) (Nat.le_of_ble_eq_true rfl) dX6_judge_1 ?_
  refine y_if_eqB C 17 dX6_judge_4 (by decide) (fun h4 => ?_) (fun h4 => ?_)
  · refine z_aload_n C 0 rfl dX6_judge_17 rfl ?_
    refine z_bipush C dX6_judge_18 (by decide) ?_
    refine y_callV1 C oX6_no iX6_no eX6_no lkX6_83 (c_X6_no (by first | assumption | omega)) rfl (by decide) rfl rfl (by decide) (Nat.le_refl _) (Nat.le_refl _) (Nat.le_of_ble_eq_true rfl) dX6_judge_20 ?_
    exact zZ_iret C hR (Nat.le_refl _) (Nat.le_refl _) dX6_judge_23 rfl (zIs_I (uRc (show fJudge (VI I) s n = -2 by (try simp only [decide_eq_true_eq, decide_eq_false_iff_not, bI] at *); (unfold fJudge; first | exact frow_B (by omega) | (rw [frow_V hrl hs8 hn4]; omega))) (by decide)).symm (by rw [uKc (show fJudge (VI I) s n = -2 by (try simp only [decide_eq_true_eq, decide_eq_false_iff_not, bI] at *); (unfold fJudge; first | exact frow_B (by omega) | (rw [frow_V hrl hs8 hn4]; omega))) (by decide)]))
  · refine z_iload_n C 2 rfl dX6_judge_7 rfl ?_
    refine z_iconst C dX6_judge_8 ?_
    refine z_bipush C dX6_judge_9 (by decide) ?_
    refine y_callS3 C oX6_within sX6_within lkX6_75 (c_X6_within (by first | assumption | omega) (by first | assumption | omega) (by first | assumption | omega)) (by decide) (Nat.le_refl _) (Nat.le_refl _) (Nat.le_of_ble_eq_true rfl) dX6_judge_11 ?_
    refine y_if_neB C 24 dX6_judge_14 (by decide) (fun h14 => ?_) (fun h14 => ?_)
    · have hs8 : 0 ≤ s ∧ s < 8 := by simpa using h4
      have hn4 : 0 ≤ n ∧ n ≤ 40 := by simpa using h14
      have hnr := ntN_r hrl (s := s.toNat) (by omega) n
      obtain ⟨sn, hsn⟩ : ∃ k : Nat, s = k := ⟨s.toNat, by omega⟩
      obtain ⟨nn, hnn⟩ : ∃ k : Nat, n = k := ⟨n.toNat, by omega⟩
      have hst : s.toNat = sn := by omega
      have hnt : n.toNat = nn := by omega
      refine z_aload_n C 0 rfl dX6_judge_24 rfl ?_
      refine z_iload_n C 1 rfl dX6_judge_25 rfl ?_
      refine z_iload_n C 2 rfl dX6_judge_26 rfl ?_
      refine y_callV2 C oX6_noTold iX6_noTold eX6_noTold lkX6_253 (c_X6_noTold hrl (by first | assumption | omega) (by first | assumption | omega)) rfl (by decide) rfl rfl (by decide) (Nat.le_refl _) (Nat.le_refl _) (Nat.le_of_ble_eq_true rfl) dX6_judge_27 ?_
      refine z_topI C (fun ft eft => ?_)
      have eft : ft = ntN I s.toNat n := eft
      refine z_istore_n C [(3, .int (iI ft)), (0, .ref 58), (1, .int (iI s)), (2, .int (iI n))] dX6_judge_30 rfl (by decide) rfl ?_
      refine z_iload_n C 0 rfl dX6_judge_31 rfl ?_
      refine z_if_ge C 41 dX6_judge_32 (by decide) (by omega) (fun h32 => ?_) (fun h32 => ?_)
      · refine z_aload_n C 1 rfl dX6_judge_41 rfl ?_
        refine z_iconst C dX6_judge_42 ?_
        refine z_top C (((0 : Nat) : Int)) (rfl) ?_
        refine y_callV1 C oX6_saves iX6_saves eX6_saves lkX6_104 (c_X6_saves (by first | assumption | omega)) rfl (by decide) rfl rfl (by decide) (Nat.le_refl _) (Nat.le_refl _) (Nat.le_of_ble_eq_true rfl) dX6_judge_43 ?_
        rw [hsn, hnn]
        refine z_aload_n C 1 rfl dX6_judge_46 rfl ?_
        refine z_iload_n C 2 rfl dX6_judge_47 rfl ?_
        refine z_iload_n C 3 rfl dX6_judge_48 rfl ?_
        refine y_callV2 C oX6_doneAll iX6_doneAll eX6_doneAll lkX6_296 (c_X6_doneAll (gR_sv hgr) (by rw [spR_sv]; exact hrs) (by rw [svI_n (by decide), svI_n (by decide)]; exact hdo) (by first | assumption | omega) (by first | assumption | omega)) rfl (by decide) rfl rfl (by decide) (Nat.le_refl _) (Nat.le_refl _) (Nat.le_of_ble_eq_true rfl) dX6_judge_49 ?_
        refine zZ_cast (σ' := zst (zRq (svI I 0 (spR I)) (runS (hvR I) (spR I) (tdF J sn) (dnK I J sn nn))) J q) (S' := .int (iI (dnR I J sn nn)) :: []) (by rw [hvR_sv, spR_sv, dn_sv.2]) rfl (by rw [dn_sv.1]; rfl) ?_
        refine z_topI C (fun wr ewr => ?_)
        refine z_istore C [(4, .int (iI wr)), (3, .int (iI ft)), (0, .ref 58), (1, .int (iI ((sn : Int)))), (2, .int (iI ((nn : Int))))] dX6_judge_52 (by decide) rfl ?_
        refine z_aload_n C 2 rfl dX6_judge_54 rfl ?_
        refine z_iconst C dX6_judge_55 ?_
        refine z_top C (((0 : Nat) : Int)) (rfl) ?_
        refine y_callV1 C oX6_again iX6_again eX6_again lkX6_111 (c_X6_again (by first | assumption | omega) (svAt_q svAt_sv)) rfl (by decide) rfl rfl (by decide) (Nat.le_refl _) (Nat.le_refl _) (Nat.le_of_ble_eq_true rfl) dX6_judge_56 ?_
        refine zZ_cast (σ' := zst (svI I 0 (spR I)) J q) (by refine congrArg (fun I' => zst I' J q) ?_; rw [zRq_zRq]; exact zRq_svs) rfl rfl ?_
        refine z_iload C 0 rfl dX6_judge_59 ?_
        exact zZ_iret C hR (Nat.le_refl _) (Nat.le_refl _) dX6_judge_61 rfl (zIs_I (by rw [uR0 (show fJudge (VI I) s n = 0 by (try simp only [decide_eq_true_eq, decide_eq_false_iff_not, bI] at *); (unfold fJudge; first | exact frow_B (by omega) | (rw [frow_V hrl hs8 hn4]; omega)))]; rw [hst, hnt]; exact ewr) (by rw [uK0 (show fJudge (VI I) s n = 0 by (try simp only [decide_eq_true_eq, decide_eq_false_iff_not, bI] at *); (unfold fJudge; first | exact frow_B (by omega) | (rw [frow_V hrl hs8 hn4]; omega)))]))
      · refine z_aload_n C 1 rfl dX6_judge_35 rfl ?_
        refine z_iload_n C 0 rfl dX6_judge_36 rfl ?_
        refine y_callV1 C oX6_no iX6_no eX6_no lkX6_83 (c_X6_no (by first | assumption | omega)) rfl (by decide) rfl rfl (by decide) (Nat.le_refl _) (Nat.le_refl _) (Nat.le_of_ble_eq_true rfl) dX6_judge_37 ?_
        exact zZ_iret C hR (Nat.le_refl _) (Nat.le_refl _) dX6_judge_40 rfl (zIs_I (uRc (show fJudge (VI I) s n = ft by (try simp only [decide_eq_true_eq, decide_eq_false_iff_not, bI] at *); (unfold fJudge; first | exact frow_B (by omega) | (rw [frow_V hrl hs8 hn4]; omega))) (by omega)).symm (by rw [uKc (show fJudge (VI I) s n = ft by (try simp only [decide_eq_true_eq, decide_eq_false_iff_not, bI] at *); (unfold fJudge; first | exact frow_B (by omega) | (rw [frow_V hrl hs8 hn4]; omega))) (by omega)]))
    · refine z_aload_n C 0 rfl dX6_judge_17 rfl ?_
      refine z_bipush C dX6_judge_18 (by decide) ?_
      refine y_callV1 C oX6_no iX6_no eX6_no lkX6_83 (c_X6_no (by first | assumption | omega)) rfl (by decide) rfl rfl (by decide) (Nat.le_refl _) (Nat.le_refl _) (Nat.le_of_ble_eq_true rfl) dX6_judge_20 ?_
      exact zZ_iret C hR (Nat.le_refl _) (Nat.le_refl _) dX6_judge_23 rfl (zIs_I (uRc (show fJudge (VI I) s n = -2 by (try simp only [decide_eq_true_eq, decide_eq_false_iff_not, bI] at *); (unfold fJudge; first | exact frow_B (by omega) | (rw [frow_V hrl hs8 hn4]; omega))) (by decide)).symm (by rw [uKc (show fJudge (VI I) s n = -2 by (try simp only [decide_eq_true_eq, decide_eq_false_iff_not, bI] at *); (unfold fJudge; first | exact frow_B (by omega) | (rw [frow_V hrl hs8 hn4]; omega))) (by decide)]))
