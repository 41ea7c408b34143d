set_option maxHeartbeats 4000000 in
set_option maxRecDepth 100000 in
theorem c_X6_done {g : zG} {I : Nat → Nat → Int} {J : Nat → Nat → Int64} {q : Nat × Nat} {s n : Int} (hgr : gR I) (hrs : gRS (spR I)) (hrl : gRL I) (hdo : openN (I 58 0) (maskW (I 59)) (I 58 3) = true) (hs : -2147483648 ≤ s ∧ s ≤ 2147483647) (hn : -2147483648 ≤ n ∧ n ≤ 2147483647) : zRuns g mX6_done 7 0 0 [.ref 58, .int (iI s), .int (iI n)] (zst I J q) (zEx (some (.int (iI (uR (fDone (VI I) (VJ I J) s n) (inN (hvR I) (runS (hvR I) (spR I) (tdF J s.toNat) n.toNat).2.2))))) (fun I2 : {I2 // frR I I2} => zst (uK I2.1 (fDone (VI I) (VJ I J) s n) (zu (zRq I2.1 (runS (hvR I) (spR I) (tdF J s.toNat) n.toNat)) 58 10 (I 58 10 + n))) J q)) := by
  obtain ⟨b1, b2, b3, b4, b5, b6, b7⟩ := id hgr
  obtain ⟨k1, k2, k3⟩ := id hrs
  have k1 : gC7 (I 58 3) := k1
  have k2 : 0 ≤ I 58 4 ∧ I 58 4 ≤ 4 := k2
  have k3 : ∀ e, e < 5 → gC7 (I 62 e) := k3
  have k1' := k1.1
  have b2' := b2.1
  have v10 : VI I 1 0 = I 58 0 := congrArg (fun x => x) rfl
  have v11 : VI I 1 1 = I 58 2 := congrArg (fun x => x) rfl
  have v12 : VI I 1 2 = I 58 9 := congrArg (fun x => x) rfl
  have v16 : VI I 1 6 = I 58 5 := congrArg (fun x => x) rfl
  have v40 : VI I 4 0 = I 58 3 := congrArg (fun x => x) rfl
  have v41 : VI I 4 1 = I 58 4 := congrArg (fun x => x) rfl
  have v111 : VI I 11 1 = I 58 12 := congrArg (fun x => x) rfl
  have v13 : VI I 1 3 = I 58 10 := congrArg (fun x => x) rfl
  have v14 : VI I 1 4 = I 58 11 := congrArg (fun x => x) rfl
  refine zRuns_intro rfl (Nat.le_of_ble_eq_true rfl) (fun X C hR => ?_)
  show zZ g X 0 0 _ 0 [(0, .ref 58), (1, .int (iI s)), (2, .int (iI n))] []
  refine z_iload_n C 1 rfl dX6_done_0 rfl ?_
  refine y_callS1 C oX6_isShelf sX6_isShelf lkX6_79 (c_X6_isShelf (by first | assumption | omega)) (by decide) (Nat.le_refl _) (Nat.le_refl _) (Nat.le_of_ble_eq_true rfl) dX6_done_1 ?_
  refine y_if_eqB C 17 dX6_done_4 (by decide) (fun h4 => ?_) (fun h4 => ?_)
  · refine z_aload_n C 0 rfl dX6_done_17 rfl ?_
    refine z_bipush C dX6_done_18 (by decide) ?_
    refine y_callV1 C oX6_no iX6_no eX6_no lkX6_83 (c_X6_no (by first | assumption | omega)) rfl (by decide) rfl rfl (by decide) (Nat.le_refl _) (Nat.le_refl _) (Nat.le_of_ble_eq_true rfl) dX6_done_20 ?_
    exact zZ_iret C hR (Nat.le_refl _) (Nat.le_refl _) dX6_done_23 rfl (zEx_I (uRc (show fDone (VI I) (VJ I J) s n = -2 by (try simp only [decide_eq_true_eq, decide_eq_false_iff_not, bI] at *); (unfold fDone; first | (rw [frow_B (by omega), if_pos (by decide)]) | (rw [frow_V hrl hs8 hn4, if_pos (by omega)]; omega) | (rw [frow_V hrl hs8 hn4, if_neg (by omega), wrong_V hs8, hst, hnt, if_neg (by omega)]))) (by decide)).symm ⟨I, frR_rf⟩ (by rw [uKc (show fDone (VI I) (VJ I J) s n = -2 by (try simp only [decide_eq_true_eq, decide_eq_false_iff_not, bI] at *); (unfold fDone; first | (rw [frow_B (by omega), if_pos (by decide)]) | (rw [frow_V hrl hs8 hn4, if_pos (by omega)]; omega) | (rw [frow_V hrl hs8 hn4, if_neg (by omega), wrong_V hs8, hst, hnt, if_neg (by omega)]))) (by decide)]))
  · refine z_iload_n C 2 rfl dX6_done_7 rfl ?_
    refine z_iconst C dX6_done_8 ?_
    refine z_bipush C dX6_done_9 (by decide) ?_
    refine y_callS3 C oX6_within sX6_within lkX6_75 (c_X6_within (by first | assumption | omega) (by first | assumption | omega) (by first | assumption | omega)) (by decide) (Nat.le_refl _) (Nat.le_refl _) (Nat.le_of_ble_eq_true rfl) dX6_done_11 ?_
    refine y_if_neB C 24 dX6_done_14 (by decide) (fun h14 => ?_) (fun h14 => ?_)
    · have hs8 : 0 ≤ s ∧ s < 8 := by simpa using h4
      have hn4 : 0 ≤ n ∧ n ≤ 40 := by simpa using h14
      have hnr := ntN_r hrl (s := s.toNat) (by omega) n
      obtain ⟨sn, hsn⟩ : ∃ k : Nat, s = k := ⟨s.toNat, by omega⟩
      obtain ⟨nn, hnn⟩ : ∃ k : Nat, n = k := ⟨n.toNat, by omega⟩
      have hst : s.toNat = sn := by omega
      have hnt : n.toNat = nn := by omega
      refine z_aload_n C 0 rfl dX6_done_24 rfl ?_
      refine z_iload_n C 1 rfl dX6_done_25 rfl ?_
      refine z_iload_n C 2 rfl dX6_done_26 rfl ?_
      refine y_callV2 C oX6_noTold iX6_noTold eX6_noTold lkX6_253 (c_X6_noTold hrl (by first | assumption | omega) (by first | assumption | omega)) rfl (by decide) rfl rfl (by decide) (Nat.le_refl _) (Nat.le_refl _) (Nat.le_of_ble_eq_true rfl) dX6_done_27 ?_
      refine z_topI C (fun ft eft => ?_)
      have eft : ft = ntN I s.toNat n := eft
      refine z_istore_n C [(3, .int (iI ft)), (0, .ref 58), (1, .int (iI s)), (2, .int (iI n))] dX6_done_30 rfl (by decide) rfl ?_
      refine z_iload_n C 0 rfl dX6_done_31 rfl ?_
      refine z_if_ge C 41 dX6_done_32 (by decide) (by omega) (fun h32 => ?_) (fun h32 => ?_)
      · refine z_aload_n C 1 rfl dX6_done_41 rfl ?_
        refine z_iconst C dX6_done_42 ?_
        refine z_top C (((0 : Nat) : Int)) (rfl) ?_
        refine y_callV1 C oX6_saves iX6_saves eX6_saves lkX6_104 (c_X6_saves (by first | assumption | omega)) rfl (by decide) rfl rfl (by decide) (Nat.le_refl _) (Nat.le_refl _) (Nat.le_of_ble_eq_true rfl) dX6_done_43 ?_
        rw [hsn, hnn]
        refine z_aload_n C 1 rfl dX6_done_46 rfl ?_
        refine z_iload_n C 2 rfl dX6_done_47 rfl ?_
        refine z_iload_n C 3 rfl dX6_done_48 rfl ?_
        refine y_callV2 C oX6_doneAll iX6_doneAll eX6_doneAll lkX6_296 (c_X6_doneAll (gR_sv hgr) (by rw [spR_sv]; exact hrs) (by rw [svI_n (by decide), svI_n (by decide)]; exact hdo) (by first | assumption | omega) (by first | assumption | omega)) rfl (by decide) rfl rfl (by decide) (Nat.le_refl _) (Nat.le_refl _) (Nat.le_of_ble_eq_true rfl) dX6_done_49 ?_
        refine zZ_cast (σ' := zst (zRq (svI I 0 (spR I)) (runS (hvR I) (spR I) (tdF J sn) (dnK I J sn nn))) J q) (S' := .int (iI (dnR I J sn nn)) :: []) (by rw [hvR_sv, spR_sv, dn_sv.2]) rfl (by rw [dn_sv.1]; rfl) ?_
        refine z_iconst C dX6_done_52 ?_
        have hwr := dnR_r (I := I) (J := J) (s := sn) (n := nn) (by omega)
        refine z_icmp_eq C 68 dX6_done_53 (by decide) (by omega) (by omega) (fun h53 => ?_) (fun h53 => ?_)
        · have hKn := dnR_K h53
          rw [hKn]
          have hrr : gRS (runS (hvR I) (spR I) (tdF J sn) nn) := (run_ok hgr hrs hdo _ (dn_cmd (by have := (dnK_le (I := I) (J := J) (s := sn) (n := nn)).2; rw [hKn] at this; exact this))).1
          refine z_aload_n C 1 rfl dX6_done_68 rfl ?_
          refine z_dup C dX6_done_69 rfl ?_
          refine y_getI C zCl6 10 flX6_299 rfl rfl dX6_done_70 ?_
          refine z_top C (I 58 10) (by rw [zRq_k (by decide) (by decide), svI_n (by decide)]) ?_
          refine z_iload_n C 3 rfl dX6_done_73 rfl ?_
          refine z_iadd C dX6_done_74 ?_
          refine y_putI C zCl6 10 flX6_299 rfl rfl rfl rfl dX6_done_75 ?_
          refine z_aload_n C 1 rfl dX6_done_78 rfl ?_
          refine y_callV0 C oX6_in iX6_in eX6_in lkX6_135 (c_X6_in (gR_t1 (gR_q (gR_sv hgr))) (show gRS (runS (hvR I) (spR I) (tdF J sn) nn) from hrr)) rfl (by decide) rfl rfl (by decide) (Nat.le_refl _) (Nat.le_refl _) (Nat.le_of_ble_eq_true rfl) dX6_done_79 ?_
          exact zZ_iret C hR (Nat.le_refl _) (Nat.le_refl _) dX6_done_82 rfl (zEx_I (by rw [uR0 (show fDone (VI I) (VJ I J) s n = 0 by (unfold fDone; rw [frow_V hrl hs8 hn4, if_neg (by omega), wrong_V hs8, hst, hnt, if_pos (by omega)]))]; rw [hst, hnt]; show inN (hvR (zRq (svI I 0 (spR I)) (runS (hvR I) (spR I) (tdF J sn) nn))) _ = _; rw [hvR_q, hvR_sv]; rfl) ⟨svI I 0 (spR I), frR_sv⟩ (by rw [uK0 (show fDone (VI I) (VJ I J) s n = 0 by (unfold fDone; rw [frow_V hrl hs8 hn4, if_neg (by omega), wrong_V hs8, hst, hnt, if_pos (by omega)]))]; (first | done | rw [hst, hnt, hnn])))
        · refine z_aload_n C 1 rfl dX6_done_56 rfl ?_
          refine z_iconst C dX6_done_57 ?_
          refine z_top C (((0 : Nat) : Int)) (rfl) ?_
          refine y_callV1 C oX6_again iX6_again eX6_again lkX6_111 (c_X6_again (by first | assumption | omega) (svAt_q svAt_sv)) rfl (by decide) rfl rfl (by decide) (Nat.le_refl _) (Nat.le_refl _) (Nat.le_of_ble_eq_true rfl) dX6_done_58 ?_
          refine zZ_cast (σ' := zst (svI I 0 (spR I)) J q) (by refine congrArg (fun I' => zst I' J q) ?_; rw [zRq_zRq]; exact zRq_svs) rfl rfl ?_
          refine z_aload_n C 1 rfl dX6_done_61 rfl ?_
          refine z_bipush C dX6_done_62 (by decide) ?_
          refine y_callV1 C oX6_no iX6_no eX6_no lkX6_83 (c_X6_no (by first | assumption | omega)) rfl (by decide) rfl rfl (by decide) (Nat.le_refl _) (Nat.le_refl _) (Nat.le_of_ble_eq_true rfl) dX6_done_64 ?_
          exact zZ_iret C hR (Nat.le_refl _) (Nat.le_refl _) dX6_done_67 rfl (zEx_I (uRc (show fDone (VI I) (VJ I J) s n = -5 by (try simp only [decide_eq_true_eq, decide_eq_false_iff_not, bI] at *); (unfold fDone; first | (rw [frow_B (by omega), if_pos (by decide)]) | (rw [frow_V hrl hs8 hn4, if_pos (by omega)]; omega) | (rw [frow_V hrl hs8 hn4, if_neg (by omega), wrong_V hs8, hst, hnt, if_neg (by omega)]))) (by decide)).symm ⟨svI I 0 (spR I), frR_sv⟩ (by rw [uKc (show fDone (VI I) (VJ I J) s n = -5 by (try simp only [decide_eq_true_eq, decide_eq_false_iff_not, bI] at *); (unfold fDone; first | (rw [frow_B (by omega), if_pos (by decide)]) | (rw [frow_V hrl hs8 hn4, if_pos (by omega)]; omega) | (rw [frow_V hrl hs8 hn4, if_neg (by omega), wrong_V hs8, hst, hnt, if_neg (by omega)]))) (by decide)]))
      · refine z_aload_n C 1 rfl dX6_done_35 rfl ?_
        refine z_iload_n C 0 rfl dX6_done_36 rfl ?_
        refine y_callV1 C oX6_no iX6_no eX6_no lkX6_83 (c_X6_no (by first | assumption | omega)) rfl (by decide) rfl rfl (by decide) (Nat.le_refl _) (Nat.le_refl _) (Nat.le_of_ble_eq_true rfl) dX6_done_37 ?_
        exact zZ_iret C hR (Nat.le_refl _) (Nat.le_refl _) dX6_done_40 rfl (zEx_I (uRc (show fDone (VI I) (VJ I J) s n = ft by (try simp only [decide_eq_true_eq, decide_eq_false_iff_not, bI] at *); (unfold fDone; first | (rw [frow_B (by omega), if_pos (by decide)]) | (rw [frow_V hrl hs8 hn4, if_pos (by omega)]; omega) | (rw [frow_V hrl hs8 hn4, if_neg (by omega), wrong_V hs8, hst, hnt, if_neg (by omega)]))) (by omega)).symm ⟨I, frR_rf⟩ (by rw [uKc (show fDone (VI I) (VJ I J) s n = ft by (try simp only [decide_eq_true_eq, decide_eq_false_iff_not, bI] at *); (unfold fDone; first | (rw [frow_B (by omega), if_pos (by decide)]) | (rw [frow_V hrl hs8 hn4, if_pos (by omega)]; omega) | (rw [frow_V hrl hs8 hn4, if_neg (by omega), wrong_V hs8, hst, hnt, if_neg (by omega)]))) (by omega)]))
    · refine z_aload_n C 0 rfl dX6_done_17 rfl ?_
      refine z_bipush C dX6_done_18 (by decide) ?_
      refine y_callV1 C oX6_no iX6_no eX6_no lkX6_83 (c_X6_no (by first | assumption | omega)) rfl (by decide) rfl rfl (by decide) (Nat.le_refl _) (Nat.le_refl _) (Nat.le_of_ble_eq_true rfl) dX6_done_20 ?_
      exact zZ_iret C hR (Nat.le_refl _) (Nat.le_refl _) dX6_done_23 rfl (zEx_I (uRc (show fDone (VI I) (VJ I J) s n = -2 by (try simp only [decide_eq_true_eq, decide_eq_false_iff_not, bI] at *); (unfold fDone; first | (rw [frow_B (by omega), if_pos (by decide)]) | (rw [frow_V hrl hs8 hn4, if_pos (by omega)]; omega) | (rw [frow_V hrl hs8 hn4, if_neg (by omega), wrong_V hs8, hst, hnt, if_neg (by omega)]))) (by decide)).symm ⟨I, frR_rf⟩ (by rw [uKc (show fDone (VI I) (VJ I J) s n = -2 by (try simp only [decide_eq_true_eq, decide_eq_false_iff_not, bI] at *); (unfold fDone; first | (rw [frow_B (by omega), if_pos (by decide)]) | (rw [frow_V hrl hs8 hn4, if_pos (by omega)]; omega) | (rw [frow_V hrl hs8 hn4, if_neg (by omega), wrong_V hs8, hst, hnt, if_neg (by omega)]))) (by decide)]))
