set_option maxHeartbeats 4000000 in
set_option maxRecDepth 100000 in
theorem c_X6_says {g : zG} {I : Nat → Nat → Int} {J : Nat → Nat → Int64} {q : Nat × Nat} {s kd : Int} (hgr : gR I) (hrs : gRS (spR I)) (hrl : gRL I) (hse : ∀ k, k < 8 → I 64 k < 10 + I 58 5) (hs : -2147483648 ≤ s ∧ s ≤ 2147483647) (hkd : -2147483648 ≤ kd ∧ kd ≤ 2147483647) : zRuns g mX6_says 5 0 0 [.ref 58, .int (iI s), .int (iI kd)] (zst I J q) (zEx (some (.int (iI (uR (fSays (VI I) s kd) (saysN (VI I) (VJ I J) s kd))))) (fun I2 : {I2 // frR I I2} => zst (uK I2.1 (fSays (VI I) s kd) (I2.1)) J q)) := by
  obtain ⟨b1, b2, b3, b4, b5, b6, b7⟩ := id hgr
  obtain ⟨k1, k2, k3⟩ := id hrs
  have k1 : gC7 (I 58 3) := k1
  have k2 : 0 ≤ I 58 4 ∧ I 58 4 ≤ 4 := k2
  have k3 : ∀ e, e < 5 → gC7 (I 62 e) := k3
  have k1' := k1.1
  have b2' := b2.1
  have v10 : VI I 1 0 = I 58 0 := congrArg (fun x => x) rfl
  have v11 : VI I 1 1 = I 58 2 := congrArg (fun x => x) rfl
  have v12 : VI I 1 2 = I 58 9 := congrArg (fun x => x) rfl
  have v16 : VI I 1 6 = I 58 5 := congrArg (fun x => x) rfl
  have v40 : VI I 4 0 = I 58 3 := congrArg (fun x => x) rfl
  have v41 : VI I 4 1 = I 58 4 := congrArg (fun x => x) rfl
  have v111 : VI I 11 1 = I 58 12 := congrArg (fun x => x) rfl
  have v13 : VI I 1 3 = I 58 10 := congrArg (fun x => x) rfl
  have v14 : VI I 1 4 = I 58 11 := congrArg (fun x => x) rfl
  refine zRuns_intro rfl (Nat.le_of_ble_eq_true rfl) (fun X C hR => ?_)
  show zZ g X 0 0 _ 0 [(0, .ref 58), (1, .int (iI s)), (2, .int (iI kd))] []
  refine z_iload_n C 1 rfl dX6_says_0 rfl ?_
  refine y_callS1 C oX6_isShelf sX6_isShelf lkX6_79 (c_X6_isShelf (by first | assumption | omega)) (by decide) (Nat.le_refl _) (Nat.le_refl _) (Nat.le_of_ble_eq_true rfl) dX6_says_1 ?_
  refine y_if_eqB C 16 dX6_says_4 (by decide) (fun h4 => ?_) (fun h4 => ?_)
  · refine z_aload_n C 0 rfl dX6_says_16 rfl ?_
    refine z_bipush C dX6_says_17 (by decide) ?_
    refine y_callV1 C oX6_no iX6_no eX6_no lkX6_83 (c_X6_no (by first | assumption | omega)) rfl (by decide) rfl rfl (by decide) (Nat.le_refl _) (Nat.le_refl _) (Nat.le_of_ble_eq_true rfl) dX6_says_19 ?_
    exact zZ_iret C hR (Nat.le_refl _) (Nat.le_refl _) dX6_says_22 rfl (zEx_I (uRc (show fSays (VI I) s kd = -2 by (try simp only [decide_eq_true_eq, decide_eq_false_iff_not, bI] at *); (unfold fSays; (try rw [vs0]); (try simp only [v16, VI_2]); (try rw [hvw2]); (repeat' split) <;> first | rfl | omega | (exfalso; simp_all; done) | (exfalso; simp_all; omega))) (by decide)).symm ⟨I, frR_rf⟩ (by rw [uKc (show fSays (VI I) s kd = -2 by (try simp only [decide_eq_true_eq, decide_eq_false_iff_not, bI] at *); (unfold fSays; (try rw [vs0]); (try simp only [v16, VI_2]); (try rw [hvw2]); (repeat' split) <;> first | rfl | omega | (exfalso; simp_all; done) | (exfalso; simp_all; omega))) (by decide)]))
  · refine z_iload_n C 2 rfl dX6_says_7 rfl ?_
    refine z_iconst C dX6_says_8 ?_
    refine z_iconst C dX6_says_9 ?_
    refine y_callS3 C oX6_within sX6_within lkX6_75 (c_X6_within (by first | assumption | omega) (by first | assumption | omega) (by first | assumption | omega)) (by decide) (Nat.le_refl _) (Nat.le_refl _) (Nat.le_of_ble_eq_true rfl) dX6_says_10 ?_
    refine y_if_neB C 23 dX6_says_13 (by decide) (fun h13 => ?_) (fun h13 => ?_)
    · have hs8 : 0 ≤ s ∧ s < 8 := by simpa using h4
      have hls := hrl s.toNat (by omega)
      have vs0 := VI_s0 (I := I) (k := s.toNat) (by omega)
      have vs1 := VI_s1 (I := I) (k := s.toNat) (by omega)
      have hkr : 0 ≤ kd ∧ kd ≤ 5 := by simpa using h13
      have hse1 := hse s.toNat (by omega)
      refine z_aload_n C 0 rfl dX6_says_23 rfl ?_
      refine z_iload_n C 1 rfl dX6_says_24 rfl ?_
      refine y_callV1 C oX6_isRow iX6_isRow eX6_isRow lkX6_87 (c_X6_isRow hrl (by first | assumption | omega)) rfl (by decide) rfl rfl (by decide) (Nat.le_refl _) (Nat.le_refl _) (Nat.le_of_ble_eq_true rfl) dX6_says_25 ?_
      refine y_if_eqB C 38 dX6_says_28 (by decide) (fun h28 => ?_) (fun h28 => ?_)
      · refine z_aload_n C 0 rfl dX6_says_38 rfl ?_
        refine y_getR C zCl6 18 flX6_26 rfl rfl rfl dX6_says_39 ?_
        refine z_iload_n C 1 rfl dX6_says_42 rfl ?_
        refine y_iald C s.toNat (by omega) rfl (by omega) (by decide) dX6_says_43 ?_
        refine z_if_ge C 54 dX6_says_44 (by decide) (by omega) (fun h44 => ?_) (fun h44 => ?_)
        · have h28b : ¬ (0 ≤ I 64 s.toNat ∧ I 64 s.toNat < 5) := by simpa using h28
          refine z_aload_n C 0 rfl dX6_says_54 rfl ?_
          refine y_getR C zCl6 18 flX6_26 rfl rfl rfl dX6_says_55 ?_
          refine z_iload_n C 1 rfl dX6_says_58 rfl ?_
          refine y_iald C s.toNat (by omega) rfl (by omega) (by decide) dX6_says_59 ?_
          refine z_bipush C dX6_says_60 (by decide) ?_
          refine z_isub C dX6_says_62 ?_
          refine z_topI C (fun w ew => ?_)
          refine z_istore_n C [(3, .int (iI w)), (0, .ref 58), (1, .int (iI s)), (2, .int (iI kd))] dX6_says_63 rfl (by decide) rfl ?_
          obtain ⟨wn, hwn⟩ : ∃ n : Nat, w = n := ⟨w.toNat, by omega⟩
          subst hwn
          have hkw := b5 wn (by omega)
          have hvw : (VI I (19 + 2 * s.toNat) 0 - 10).toNat = wn := by omega
          refine z_aload_n C 1 rfl dX6_says_64 rfl ?_
          refine y_getR C zCl6 6 flX6_13 rfl rfl rfl dX6_says_65 ?_
          refine z_iload_n C 0 rfl dX6_says_68 rfl ?_
          refine y_iald C wn (by omega) rfl (by omega) (by decide) dX6_says_69 ?_
          refine z_iload_n C 3 rfl dX6_says_70 rfl ?_
          refine y_callS2 C oX6_isUnder sX6_isUnder lkX6_100 (c_X6_isUnder (by first | assumption | omega) (by first | assumption | omega)) (by decide) (Nat.le_refl _) (Nat.le_refl _) (Nat.le_of_ble_eq_true rfl) dX6_says_71 ?_
          refine y_if_neB C 84 dX6_says_74 (by decide) (fun h74 => ?_) (fun h74 => ?_)
          · refine z_iload_n C 3 rfl dX6_says_84 rfl ?_
            refine z_if_ne C 95 dX6_says_85 (by decide) (by omega) (fun h85 => ?_) (fun h85 => ?_)
            · refine z_aload_n C 1 rfl dX6_says_95 rfl ?_
              refine z_iconst C dX6_says_96 ?_
              refine z_top C (((0 : Nat) : Int)) (rfl) ?_
              refine y_callV1 C oX6_saves iX6_saves eX6_saves lkX6_104 (c_X6_saves (by first | assumption | omega)) rfl (by decide) rfl rfl (by decide) (Nat.le_refl _) (Nat.le_refl _) (Nat.le_of_ble_eq_true rfl) dX6_says_97 ?_
              refine z_aload_n C 1 rfl dX6_says_100 rfl ?_
              refine z_iload_n C 0 rfl dX6_says_101 rfl ?_
              refine y_callV1 C oX6_eweGoes iX6_eweGoes eX6_eweGoes lkX6_108 (c_X6_eweGoes (gR_sv hgr) (by rw [spR_sv]; exact hrs) (by first | assumption | omega)) rfl (by decide) rfl rfl (by decide) (Nat.le_refl _) (Nat.le_refl _) (Nat.le_of_ble_eq_true rfl) dX6_says_102 ?_
              refine z_aload_n C 1 rfl dX6_says_105 rfl ?_
              refine y_getR C zCl6 8 flX6_20 rfl rfl rfl dX6_says_106 ?_
              refine z_iload_n C 0 rfl dX6_says_109 rfl ?_
              refine y_iald C wn (by omega) rfl (by omega) (by decide) dX6_says_110 ?_
              refine z_top C (goalN (hvR I) (I 58 3) (I 62) wn (I 60 wn)) (by rw [zRq_62]; dsimp only; rw [up1_s, hvR_sv, svI_n (by decide), svI_n (by decide), svI_n (by decide)]) ?_
              refine z_topI C (fun is4 eis4 => ?_)
              refine z_istore C [(4, .int (iI is4)), (3, .int (iI ((wn : Int)))), (0, .ref 58), (1, .int (iI s)), (2, .int (iI kd))] dX6_says_111 (by decide) rfl ?_
              refine z_aload_n C 2 rfl dX6_says_113 rfl ?_
              refine z_iconst C dX6_says_114 ?_
              refine z_top C (((0 : Nat) : Int)) (rfl) ?_
              refine y_callV1 C oX6_again iX6_again eX6_again lkX6_111 (c_X6_again (by first | assumption | omega) (svAt_q svAt_sv)) rfl (by decide) rfl rfl (by decide) (Nat.le_refl _) (Nat.le_refl _) (Nat.le_of_ble_eq_true rfl) dX6_says_115 ?_
              refine zZ_cast (σ' := zst (svI I 0 (spR I)) J q) (by refine congrArg (fun I' => zst I' J q) ?_; rw [zRq_zRq]; exact zRq_svs) rfl rfl ?_
              refine z_iload C 0 rfl dX6_says_118 ?_
              exact zZ_iret C hR (Nat.le_refl _) (Nat.le_refl _) dX6_says_120 rfl (zEx_I (by rw [uR0 (show fSays (VI I) s kd = 0 by (unfold fSays; rw [vs0, v16, VI_2, if_neg (by omega), if_neg (by omega), if_neg (by omega), if_pos ⟨by omega, by rw [show (I 64 s.toNat - 10).toNat = wn by omega]; exact h74⟩]))]; unfold saysN; rw [hvw, if_neg (by omega)]; exact eis4) ⟨svI I 0 (spR I), frR_sv⟩ (by rw [uK0 (show fSays (VI I) s kd = 0 by (unfold fSays; rw [vs0, v16, VI_2, if_neg (by omega), if_neg (by omega), if_neg (by omega), if_pos ⟨by omega, by rw [show (I 64 s.toNat - 10).toNat = wn by omega]; exact h74⟩]))]; (first | done | rfl)))
            · refine z_aload_n C 1 rfl dX6_says_88 rfl ?_
              refine y_getR C zCl6 7 flX6_17 rfl rfl rfl dX6_says_89 ?_
              refine z_iload_n C 0 rfl dX6_says_92 rfl ?_
              refine y_iald C wn (by omega) rfl (by omega) (by decide) dX6_says_93 ?_
              exact zZ_iret C hR (Nat.le_refl _) (Nat.le_refl _) dX6_says_94 rfl (zEx_I (by rw [uR0 (show fSays (VI I) s kd = 0 by (unfold fSays; rw [vs0, v16, VI_2, if_neg (by omega), if_neg (by omega), if_neg (by omega), if_pos ⟨by omega, by rw [show (I 64 s.toNat - 10).toNat = wn by omega]; exact h74⟩]))]; unfold saysN; rw [hvw, if_pos (by omega)]; rfl) ⟨I, frR_rf⟩ (by rw [uK0 (show fSays (VI I) s kd = 0 by (unfold fSays; rw [vs0, v16, VI_2, if_neg (by omega), if_neg (by omega), if_neg (by omega), if_pos ⟨by omega, by rw [show (I 64 s.toNat - 10).toNat = wn by omega]; exact h74⟩]))]; (first | done | rfl)))
          · refine z_aload_n C 1 rfl dX6_says_77 rfl ?_
            refine z_bipush C dX6_says_78 (by decide) ?_
            refine y_callV1 C oX6_no iX6_no eX6_no lkX6_83 (c_X6_no (by first | assumption | omega)) rfl (by decide) rfl rfl (by decide) (Nat.le_refl _) (Nat.le_refl _) (Nat.le_of_ble_eq_true rfl) dX6_says_80 ?_
            exact zZ_iret C hR (Nat.le_refl _) (Nat.le_refl _) dX6_says_83 rfl (zEx_I (uRc (show fSays (VI I) s kd = -3 by (try simp only [decide_eq_true_eq, decide_eq_false_iff_not, bI] at *); (unfold fSays; (try rw [vs0]); (try simp only [v16, VI_2]); (try rw [hvw2]); (repeat' split) <;> first | rfl | omega | (exfalso; simp_all; done) | (exfalso; simp_all; omega))) (by decide)).symm ⟨I, frR_rf⟩ (by rw [uKc (show fSays (VI I) s kd = -3 by (try simp only [decide_eq_true_eq, decide_eq_false_iff_not, bI] at *); (unfold fSays; (try rw [vs0]); (try simp only [v16, VI_2]); (try rw [hvw2]); (repeat' split) <;> first | rfl | omega | (exfalso; simp_all; done) | (exfalso; simp_all; omega))) (by decide)]))
        · refine z_aload_n C 0 rfl dX6_says_47 rfl ?_
          refine z_bipush C dX6_says_48 (by decide) ?_
          refine y_callV1 C oX6_no iX6_no eX6_no lkX6_83 (c_X6_no (by first | assumption | omega)) rfl (by decide) rfl rfl (by decide) (Nat.le_refl _) (Nat.le_refl _) (Nat.le_of_ble_eq_true rfl) dX6_says_50 ?_
          exact zZ_iret C hR (Nat.le_refl _) (Nat.le_refl _) dX6_says_53 rfl (zEx_I (uRc (show fSays (VI I) s kd = -4 by (try simp only [decide_eq_true_eq, decide_eq_false_iff_not, bI] at *); (unfold fSays; (try rw [vs0]); (try simp only [v16, VI_2]); (try rw [hvw2]); (repeat' split) <;> first | rfl | omega | (exfalso; simp_all; done) | (exfalso; simp_all; omega))) (by decide)).symm ⟨I, frR_rf⟩ (by rw [uKc (show fSays (VI I) s kd = -4 by (try simp only [decide_eq_true_eq, decide_eq_false_iff_not, bI] at *); (unfold fSays; (try rw [vs0]); (try simp only [v16, VI_2]); (try rw [hvw2]); (repeat' split) <;> first | rfl | omega | (exfalso; simp_all; done) | (exfalso; simp_all; omega))) (by decide)]))
      · refine z_aload_n C 0 rfl dX6_says_31 rfl ?_
        refine z_bipush C dX6_says_32 (by decide) ?_
        refine y_callV1 C oX6_no iX6_no eX6_no lkX6_83 (c_X6_no (by first | assumption | omega)) rfl (by decide) rfl rfl (by decide) (Nat.le_refl _) (Nat.le_refl _) (Nat.le_of_ble_eq_true rfl) dX6_says_34 ?_
        exact zZ_iret C hR (Nat.le_refl _) (Nat.le_refl _) dX6_says_37 rfl (zEx_I (uRc (show fSays (VI I) s kd = -3 by (try simp only [decide_eq_true_eq, decide_eq_false_iff_not, bI] at *); (unfold fSays; (try rw [vs0]); (try simp only [v16, VI_2]); (try rw [hvw2]); (repeat' split) <;> first | rfl | omega | (exfalso; simp_all; done) | (exfalso; simp_all; omega))) (by decide)).symm ⟨I, frR_rf⟩ (by rw [uKc (show fSays (VI I) s kd = -3 by (try simp only [decide_eq_true_eq, decide_eq_false_iff_not, bI] at *); (unfold fSays; (try rw [vs0]); (try simp only [v16, VI_2]); (try rw [hvw2]); (repeat' split) <;> first | rfl | omega | (exfalso; simp_all; done) | (exfalso; simp_all; omega))) (by decide)]))
    · refine z_aload_n C 0 rfl dX6_says_16 rfl ?_
      refine z_bipush C dX6_says_17 (by decide) ?_
      refine y_callV1 C oX6_no iX6_no eX6_no lkX6_83 (c_X6_no (by first | assumption | omega)) rfl (by decide) rfl rfl (by decide) (Nat.le_refl _) (Nat.le_refl _) (Nat.le_of_ble_eq_true rfl) dX6_says_19 ?_
      exact zZ_iret C hR (Nat.le_refl _) (Nat.le_refl _) dX6_says_22 rfl (zEx_I (uRc (show fSays (VI I) s kd = -2 by (try simp only [decide_eq_true_eq, decide_eq_false_iff_not, bI] at *); (unfold fSays; (try rw [vs0]); (try simp only [v16, VI_2]); (try rw [hvw2]); (repeat' split) <;> first | rfl | omega | (exfalso; simp_all; done) | (exfalso; simp_all; omega))) (by decide)).symm ⟨I, frR_rf⟩ (by rw [uKc (show fSays (VI I) s kd = -2 by (try simp only [decide_eq_true_eq, decide_eq_false_iff_not, bI] at *); (unfold fSays; (try rw [vs0]); (try simp only [v16, VI_2]); (try rw [hvw2]); (repeat' split) <;> first | rfl | omega | (exfalso; simp_all; done) | (exfalso; simp_all; omega))) (by decide)]))
