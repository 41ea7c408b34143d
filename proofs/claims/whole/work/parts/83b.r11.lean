set_option maxHeartbeats 4000000 in
set_option maxRecDepth 100000 in
theorem c_X6_kinds {g : zG} {I : Nat → Nat → Int} {J : Nat → Nat → Int64} {q : Nat × Nat} {s t n w : Int} (hgr : gR I) (hrs : gRS (spR I)) (hrl : gRL I) (hs : -2147483648 ≤ s ∧ s ≤ 2147483647) (ht : -2147483648 ≤ t ∧ t ≤ 2147483647) (hn : -2147483648 ≤ n ∧ n ≤ 2147483647) (hw : -2147483648 ≤ w ∧ w ≤ 2147483647) : zRuns g mX6_kinds 8 0 0 [.ref 58, .int (iI s), .int (iI t), .int (iI n), .int (iI w)] (zst I J q) (zEx (some (.int (iI (uR (fKinds (VI I) (VJ I J) s t n w) ((kindsR I J s.toNat t.toNat n.toNat w.toNat : Nat)))))) (fun I2 : {I2 // frR I I2} => zst (uK I2.1 (fKinds (VI I) (VJ I J) s t n w) (I2.1)) J q)) := by
  obtain ⟨b1, b2, b3, b4, b5, b6, b7⟩ := id hgr
  obtain ⟨k1, k2, k3⟩ := id hrs
  have k1 : gC7 (I 58 3) := k1
  have k2 : 0 ≤ I 58 4 ∧ I 58 4 ≤ 4 := k2
  have k3 : ∀ e, e < 5 → gC7 (I 62 e) := k3
  have k1' := k1.1
  have b2' := b2.1
  have v10 : VI I 1 0 = I 58 0 := congrArg (fun x => x) rfl
  have v11 : VI I 1 1 = I 58 2 := congrArg (fun x => x) rfl
  have v12 : VI I 1 2 = I 58 9 := congrArg (fun x => x) rfl
  have v16 : VI I 1 6 = I 58 5 := congrArg (fun x => x) rfl
  have v40 : VI I 4 0 = I 58 3 := congrArg (fun x => x) rfl
  have v41 : VI I 4 1 = I 58 4 := congrArg (fun x => x) rfl
  have v111 : VI I 11 1 = I 58 12 := congrArg (fun x => x) rfl
  have v13 : VI I 1 3 = I 58 10 := congrArg (fun x => x) rfl
  have v14 : VI I 1 4 = I 58 11 := congrArg (fun x => x) rfl
  refine zRuns_intro rfl (Nat.le_of_ble_eq_true rfl) (fun X C hR => ?_)
  show zZ g X 0 0 _ 0 [(0, .ref 58), (1, .int (iI s)), (2, .int (iI t)), (3, .int (iI n)), (4, .int (iI w))] []
  refine z_iload_n C 1 rfl dX6_kinds_0 rfl ?_
  refine y_callS1 C oX6_isShelf sX6_isShelf lkX6_79 (c_X6_isShelf (by first | assumption | omega)) (by decide) (Nat.le_refl _) (Nat.le_refl _) (Nat.le_of_ble_eq_true rfl) dX6_kinds_1 ?_
  refine y_if_eqB C 33 dX6_kinds_4 (by decide) (fun h4 => ?_) (fun h4 => ?_)
  · refine z_aload_n C 0 rfl dX6_kinds_33 rfl ?_
    refine z_bipush C dX6_kinds_34 (by decide) ?_
    refine y_callV1 C oX6_no iX6_no eX6_no lkX6_83 (c_X6_no (by first | assumption | omega)) rfl (by decide) rfl rfl (by decide) (Nat.le_refl _) (Nat.le_refl _) (Nat.le_of_ble_eq_true rfl) dX6_kinds_36 ?_
    exact zZ_iret C hR (Nat.le_refl _) (Nat.le_refl _) dX6_kinds_39 rfl (zEx_I (uRc (show fKinds (VI I) (VJ I J) s t n w = -2 by (try simp only [decide_eq_true_eq, decide_eq_false_iff_not, bI] at *); (rw [fK_V hgr hrl]; first | exact if_pos (by omega) | (rw [if_neg (by omega)]; first | exact if_pos (by omega) | (rw [if_neg (by omega)]; first | exact if_pos (by omega) | (rw [if_neg (by omega)]; first | exact if_pos (by omega) | (rw [if_neg (by omega)]; first | exact if_pos (hko.trans (by assumption)) | exact if_neg (fun z => by have z2 := hko.symm.trans z; contradiction))))))) (by decide)).symm ⟨I, frR_rf⟩ (by rw [uKc (show fKinds (VI I) (VJ I J) s t n w = -2 by (try simp only [decide_eq_true_eq, decide_eq_false_iff_not, bI] at *); (rw [fK_V hgr hrl]; first | exact if_pos (by omega) | (rw [if_neg (by omega)]; first | exact if_pos (by omega) | (rw [if_neg (by omega)]; first | exact if_pos (by omega) | (rw [if_neg (by omega)]; first | exact if_pos (by omega) | (rw [if_neg (by omega)]; first | exact if_pos (hko.trans (by assumption)) | exact if_neg (fun z => by have z2 := hko.symm.trans z; contradiction))))))) (by decide)]))
  · refine z_iload_n C 2 rfl dX6_kinds_7 rfl ?_
    refine y_callS1 C oX6_isShelf sX6_isShelf lkX6_79 (c_X6_isShelf (by first | assumption | omega)) (by decide) (Nat.le_refl _) (Nat.le_refl _) (Nat.le_of_ble_eq_true rfl) dX6_kinds_8 ?_
    refine y_if_eqB C 33 dX6_kinds_11 (by decide) (fun h11 => ?_) (fun h11 => ?_)
    · refine z_aload_n C 0 rfl dX6_kinds_33 rfl ?_
      refine z_bipush C dX6_kinds_34 (by decide) ?_
      refine y_callV1 C oX6_no iX6_no eX6_no lkX6_83 (c_X6_no (by first | assumption | omega)) rfl (by decide) rfl rfl (by decide) (Nat.le_refl _) (Nat.le_refl _) (Nat.le_of_ble_eq_true rfl) dX6_kinds_36 ?_
      exact zZ_iret C hR (Nat.le_refl _) (Nat.le_refl _) dX6_kinds_39 rfl (zEx_I (uRc (show fKinds (VI I) (VJ I J) s t n w = -2 by (try simp only [decide_eq_true_eq, decide_eq_false_iff_not, bI] at *); (rw [fK_V hgr hrl]; first | exact if_pos (by omega) | (rw [if_neg (by omega)]; first | exact if_pos (by omega) | (rw [if_neg (by omega)]; first | exact if_pos (by omega) | (rw [if_neg (by omega)]; first | exact if_pos (by omega) | (rw [if_neg (by omega)]; first | exact if_pos (hko.trans (by assumption)) | exact if_neg (fun z => by have z2 := hko.symm.trans z; contradiction))))))) (by decide)).symm ⟨I, frR_rf⟩ (by rw [uKc (show fKinds (VI I) (VJ I J) s t n w = -2 by (try simp only [decide_eq_true_eq, decide_eq_false_iff_not, bI] at *); (rw [fK_V hgr hrl]; first | exact if_pos (by omega) | (rw [if_neg (by omega)]; first | exact if_pos (by omega) | (rw [if_neg (by omega)]; first | exact if_pos (by omega) | (rw [if_neg (by omega)]; first | exact if_pos (by omega) | (rw [if_neg (by omega)]; first | exact if_pos (hko.trans (by assumption)) | exact if_neg (fun z => by have z2 := hko.symm.trans z; contradiction))))))) (by decide)]))
    · refine z_iload_n C 3 rfl dX6_kinds_14 rfl ?_
      refine z_iconst C dX6_kinds_15 ?_
      refine z_bipush C dX6_kinds_16 (by decide) ?_
      refine y_callS3 C oX6_within sX6_within lkX6_75 (c_X6_within (by first | assumption | omega) (by first | assumption | omega) (by first | assumption | omega)) (by decide) (Nat.le_refl _) (Nat.le_refl _) (Nat.le_of_ble_eq_true rfl) dX6_kinds_18 ?_
      refine y_if_eqB C 33 dX6_kinds_21 (by decide) (fun h21 => ?_) (fun h21 => ?_)
      · refine z_aload_n C 0 rfl dX6_kinds_33 rfl ?_
        refine z_bipush C dX6_kinds_34 (by decide) ?_
        refine y_callV1 C oX6_no iX6_no eX6_no lkX6_83 (c_X6_no (by first | assumption | omega)) rfl (by decide) rfl rfl (by decide) (Nat.le_refl _) (Nat.le_refl _) (Nat.le_of_ble_eq_true rfl) dX6_kinds_36 ?_
        exact zZ_iret C hR (Nat.le_refl _) (Nat.le_refl _) dX6_kinds_39 rfl (zEx_I (uRc (show fKinds (VI I) (VJ I J) s t n w = -2 by (try simp only [decide_eq_true_eq, decide_eq_false_iff_not, bI] at *); (rw [fK_V hgr hrl]; first | exact if_pos (by omega) | (rw [if_neg (by omega)]; first | exact if_pos (by omega) | (rw [if_neg (by omega)]; first | exact if_pos (by omega) | (rw [if_neg (by omega)]; first | exact if_pos (by omega) | (rw [if_neg (by omega)]; first | exact if_pos (hko.trans (by assumption)) | exact if_neg (fun z => by have z2 := hko.symm.trans z; contradiction))))))) (by decide)).symm ⟨I, frR_rf⟩ (by rw [uKc (show fKinds (VI I) (VJ I J) s t n w = -2 by (try simp only [decide_eq_true_eq, decide_eq_false_iff_not, bI] at *); (rw [fK_V hgr hrl]; first | exact if_pos (by omega) | (rw [if_neg (by omega)]; first | exact if_pos (by omega) | (rw [if_neg (by omega)]; first | exact if_pos (by omega) | (rw [if_neg (by omega)]; first | exact if_pos (by omega) | (rw [if_neg (by omega)]; first | exact if_pos (hko.trans (by assumption)) | exact if_neg (fun z => by have z2 := hko.symm.trans z; contradiction))))))) (by decide)]))
      · refine z_aload_n C 0 rfl dX6_kinds_24 rfl ?_
        refine z_iload C 4 rfl dX6_kinds_25 ?_
        refine y_callV1 C oX6_isEwe iX6_isEwe eX6_isEwe lkX6_97 (c_X6_isEwe hgr (by first | assumption | omega)) rfl (by decide) rfl rfl (by decide) (Nat.le_refl _) (Nat.le_refl _) (Nat.le_of_ble_eq_true rfl) dX6_kinds_27 ?_
        refine y_if_neB C 40 dX6_kinds_30 (by decide) (fun h30 => ?_) (fun h30 => ?_)
        · have hs8 : 0 ≤ s ∧ s < 8 := by simpa using h4
          have ht8 : 0 ≤ t ∧ t < 8 := by simpa using h11
          have hn4 : 0 ≤ n ∧ n ≤ 40 := by simpa using h21
          have hw5 : 0 ≤ w ∧ w < I 58 5 := by simpa using h30
          have hls := hrl s.toNat (by omega)
          have hlt := hrl t.toNat (by omega)
          refine z_aload_n C 0 rfl dX6_kinds_40 rfl ?_
          refine y_getR C zCl6 18 flX6_26 rfl rfl rfl dX6_kinds_41 ?_
          refine z_iload_n C 1 rfl dX6_kinds_44 rfl ?_
          refine y_iald C s.toNat (by omega) rfl (by omega) (by decide) dX6_kinds_45 ?_
          refine z_iconst C dX6_kinds_46 ?_
          refine z_icmp_gt C 60 dX6_kinds_47 (by decide) (by omega) (by omega) (fun h47 => ?_) (fun h47 => ?_)
          · refine z_aload_n C 0 rfl dX6_kinds_60 rfl ?_
            refine z_bipush C dX6_kinds_61 (by decide) ?_
            refine y_callV1 C oX6_no iX6_no eX6_no lkX6_83 (c_X6_no (by first | assumption | omega)) rfl (by decide) rfl rfl (by decide) (Nat.le_refl _) (Nat.le_refl _) (Nat.le_of_ble_eq_true rfl) dX6_kinds_63 ?_
            exact zZ_iret C hR (Nat.le_refl _) (Nat.le_refl _) dX6_kinds_66 rfl (zEx_I (uRc (show fKinds (VI I) (VJ I J) s t n w = -3 by (try simp only [decide_eq_true_eq, decide_eq_false_iff_not, bI] at *); (rw [fK_V hgr hrl]; first | exact if_pos (by omega) | (rw [if_neg (by omega)]; first | exact if_pos (by omega) | (rw [if_neg (by omega)]; first | exact if_pos (by omega) | (rw [if_neg (by omega)]; first | exact if_pos (by omega) | (rw [if_neg (by omega)]; first | exact if_pos (hko.trans (by assumption)) | exact if_neg (fun z => by have z2 := hko.symm.trans z; contradiction))))))) (by decide)).symm ⟨I, frR_rf⟩ (by rw [uKc (show fKinds (VI I) (VJ I J) s t n w = -3 by (try simp only [decide_eq_true_eq, decide_eq_false_iff_not, bI] at *); (rw [fK_V hgr hrl]; first | exact if_pos (by omega) | (rw [if_neg (by omega)]; first | exact if_pos (by omega) | (rw [if_neg (by omega)]; first | exact if_pos (by omega) | (rw [if_neg (by omega)]; first | exact if_pos (by omega) | (rw [if_neg (by omega)]; first | exact if_pos (hko.trans (by assumption)) | exact if_neg (fun z => by have z2 := hko.symm.trans z; contradiction))))))) (by decide)]))
          · refine z_aload_n C 0 rfl dX6_kinds_50 rfl ?_
            refine y_getR C zCl6 18 flX6_26 rfl rfl rfl dX6_kinds_51 ?_
            refine z_iload_n C 2 rfl dX6_kinds_54 rfl ?_
            refine y_iald C t.toNat (by omega) rfl (by omega) (by decide) dX6_kinds_55 ?_
            refine z_iconst C dX6_kinds_56 ?_
            refine z_icmp_le C 67 dX6_kinds_57 (by decide) (by omega) (by omega) (fun h57 => ?_) (fun h57 => ?_)
            · refine z_aload_n C 0 rfl dX6_kinds_67 rfl ?_
              refine y_getR C zCl6 18 flX6_26 rfl rfl rfl dX6_kinds_68 ?_
              refine z_iload_n C 1 rfl dX6_kinds_71 rfl ?_
              refine y_iald C s.toNat (by omega) rfl (by omega) (by decide) dX6_kinds_72 ?_
              refine z_if_lt C 85 dX6_kinds_73 (by decide) (by omega) (fun h73 => ?_) (fun h73 => ?_)
              · refine z_aload_n C 0 rfl dX6_kinds_85 rfl ?_
                refine z_bipush C dX6_kinds_86 (by decide) ?_
                refine y_callV1 C oX6_no iX6_no eX6_no lkX6_83 (c_X6_no (by first | assumption | omega)) rfl (by decide) rfl rfl (by decide) (Nat.le_refl _) (Nat.le_refl _) (Nat.le_of_ble_eq_true rfl) dX6_kinds_88 ?_
                exact zZ_iret C hR (Nat.le_refl _) (Nat.le_refl _) dX6_kinds_91 rfl (zEx_I (uRc (show fKinds (VI I) (VJ I J) s t n w = -4 by (try simp only [decide_eq_true_eq, decide_eq_false_iff_not, bI] at *); (rw [fK_V hgr hrl]; first | exact if_pos (by omega) | (rw [if_neg (by omega)]; first | exact if_pos (by omega) | (rw [if_neg (by omega)]; first | exact if_pos (by omega) | (rw [if_neg (by omega)]; first | exact if_pos (by omega) | (rw [if_neg (by omega)]; first | exact if_pos (hko.trans (by assumption)) | exact if_neg (fun z => by have z2 := hko.symm.trans z; contradiction))))))) (by decide)).symm ⟨I, frR_rf⟩ (by rw [uKc (show fKinds (VI I) (VJ I J) s t n w = -4 by (try simp only [decide_eq_true_eq, decide_eq_false_iff_not, bI] at *); (rw [fK_V hgr hrl]; first | exact if_pos (by omega) | (rw [if_neg (by omega)]; first | exact if_pos (by omega) | (rw [if_neg (by omega)]; first | exact if_pos (by omega) | (rw [if_neg (by omega)]; first | exact if_pos (by omega) | (rw [if_neg (by omega)]; first | exact if_pos (hko.trans (by assumption)) | exact if_neg (fun z => by have z2 := hko.symm.trans z; contradiction))))))) (by decide)]))
              · refine z_aload_n C 0 rfl dX6_kinds_76 rfl ?_
                refine y_getR C zCl6 18 flX6_26 rfl rfl rfl dX6_kinds_77 ?_
                refine z_iload_n C 2 rfl dX6_kinds_80 rfl ?_
                refine y_iald C t.toNat (by omega) rfl (by omega) (by decide) dX6_kinds_81 ?_
                refine z_if_ge C 92 dX6_kinds_82 (by decide) (by omega) (fun h82 => ?_) (fun h82 => ?_)
                · refine z_iload_n C 3 rfl dX6_kinds_92 rfl ?_
                  refine z_aload_n C 0 rfl dX6_kinds_93 rfl ?_
                  refine y_getR C zCl6 19 flX6_29 rfl rfl rfl dX6_kinds_94 ?_
                  refine z_iload_n C 1 rfl dX6_kinds_97 rfl ?_
                  refine y_iald C s.toNat (by omega) rfl (by omega) (by decide) dX6_kinds_98 ?_
                  refine z_icmp_gt C 112 dX6_kinds_99 (by decide) (by omega) (by omega) (fun h99 => ?_) (fun h99 => ?_)
                  · refine z_aload_n C 0 rfl dX6_kinds_112 rfl ?_
                    refine z_bipush C dX6_kinds_113 (by decide) ?_
                    refine y_callV1 C oX6_no iX6_no eX6_no lkX6_83 (c_X6_no (by first | assumption | omega)) rfl (by decide) rfl rfl (by decide) (Nat.le_refl _) (Nat.le_refl _) (Nat.le_of_ble_eq_true rfl) dX6_kinds_115 ?_
                    exact zZ_iret C hR (Nat.le_refl _) (Nat.le_refl _) dX6_kinds_118 rfl (zEx_I (uRc (show fKinds (VI I) (VJ I J) s t n w = -2 by (try simp only [decide_eq_true_eq, decide_eq_false_iff_not, bI] at *); (rw [fK_V hgr hrl]; first | exact if_pos (by omega) | (rw [if_neg (by omega)]; first | exact if_pos (by omega) | (rw [if_neg (by omega)]; first | exact if_pos (by omega) | (rw [if_neg (by omega)]; first | exact if_pos (by omega) | (rw [if_neg (by omega)]; first | exact if_pos (hko.trans (by assumption)) | exact if_neg (fun z => by have z2 := hko.symm.trans z; contradiction))))))) (by decide)).symm ⟨I, frR_rf⟩ (by rw [uKc (show fKinds (VI I) (VJ I J) s t n w = -2 by (try simp only [decide_eq_true_eq, decide_eq_false_iff_not, bI] at *); (rw [fK_V hgr hrl]; first | exact if_pos (by omega) | (rw [if_neg (by omega)]; first | exact if_pos (by omega) | (rw [if_neg (by omega)]; first | exact if_pos (by omega) | (rw [if_neg (by omega)]; first | exact if_pos (by omega) | (rw [if_neg (by omega)]; first | exact if_pos (hko.trans (by assumption)) | exact if_neg (fun z => by have z2 := hko.symm.trans z; contradiction))))))) (by decide)]))
                  · refine z_iload_n C 3 rfl dX6_kinds_102 rfl ?_
                    refine z_aload_n C 0 rfl dX6_kinds_103 rfl ?_
                    refine y_getR C zCl6 19 flX6_29 rfl rfl rfl dX6_kinds_104 ?_
                    refine z_iload_n C 2 rfl dX6_kinds_107 rfl ?_
                    refine y_iald C t.toNat (by omega) rfl (by omega) (by decide) dX6_kinds_108 ?_
                    refine z_icmp_le C 119 dX6_kinds_109 (by decide) (by omega) (by omega) (fun h109 => ?_) (fun h109 => ?_)
                    · obtain ⟨sn, hsn⟩ : ∃ k : Nat, s = k := ⟨s.toNat, by omega⟩
                      obtain ⟨tn, htn⟩ : ∃ k : Nat, t = k := ⟨t.toNat, by omega⟩
                      obtain ⟨nn, hnn⟩ : ∃ k : Nat, n = k := ⟨n.toNat, by omega⟩
                      obtain ⟨wn, hwn⟩ : ∃ k : Nat, w = k := ⟨w.toNat, by omega⟩
                      have hst : s.toNat = sn := by omega
                      have htt : t.toNat = tn := by omega
                      have hnt : n.toNat = nn := by omega
                      have hwt : w.toNat = wn := by omega
                      rw [hsn, htn, hnn, hwn]
                      have hkw := b5 wn (by omega)
                      refine z_aload_n C 0 rfl dX6_kinds_119 rfl ?_
                      refine z_iload C 4 rfl dX6_kinds_120 ?_
                      refine y_callV1 C oX6_isIn iX6_isIn eX6_isIn lkX6_122 (c_X6_isIn hgr hrs (by first | assumption | omega)) rfl (by decide) rfl rfl (by decide) (Nat.le_refl _) (Nat.le_refl _) (Nat.le_of_ble_eq_true rfl) dX6_kinds_122 ?_
                      refine y_if_neB C 132 dX6_kinds_125 (by decide) (fun h125 => ?_) (fun h125 => ?_)
                      · refine z_iconst C dX6_kinds_132 ?_
                        refine z_topI C (fun x0 ex0 => ?_)
                        refine z_istore C [(5, .int (iI x0)), (0, .ref 58), (1, .int (iI ((sn : Int)))), (2, .int (iI ((tn : Int)))), (3, .int (iI ((nn : Int)))), (4, .int (iI ((wn : Int))))] dX6_kinds_133 (by decide) rfl ?_
                        refine z_iconst C dX6_kinds_135 ?_
                        refine z_istore C [(6, .int (iI 0)), (5, .int (iI x0)), (0, .ref 58), (1, .int (iI ((sn : Int)))), (2, .int (iI ((tn : Int)))), (3, .int (iI ((nn : Int)))), (4, .int (iI ((wn : Int))))] dX6_kinds_136 (by decide) rfl ?_
                        refine zZ_sub [2, 3, 4, 5, 6, 1, 0] rfl ?_
                        refine zZ_cast (σ' := (fun _ : Nat => zst I J q) 0) (L' := (fun e : Nat => [(0, .ref 58), (1, .int (iI ((sn : Int)))), (2, .int (iI ((tn : Int)))), (3, .int (iI ((nn : Int)))), (4, .int (iI ((wn : Int)))), (5, .int (iI (okV x0 (bcP (I 58 0) (roF J sn) (roF J tn)) e))), (6, .int (iI (e : Int)))]) 0) rfl rfl rfl ?_
                        refine zfor (nn) (fun _ => True) (fun _ : Nat => zst I J q) (fun e : Nat => [(0, .ref 58), (1, .int (iI ((sn : Int)))), (2, .int (iI ((tn : Int)))), (3, .int (iI ((nn : Int)))), (4, .int (iI ((wn : Int)))), (5, .int (iI (okV x0 (bcP (I 58 0) (roF J sn) (roF J tn)) e))), (6, .int (iI (e : Int)))]) trivial ?_ ?_
                        · intro e hee hpe kke
                          refine z_iload C 6 rfl dX6_kinds_138 ?_
                          refine z_iload_n C 3 rfl dX6_kinds_140 rfl ?_
                          refine z_icmp_ge C 181 dX6_kinds_141 (by decide) (by omega) (by omega) (fun h141 => ?_) (fun h141 => ?_)
                          · omega
                          · refine z_aload_n C 0 rfl dX6_kinds_144 rfl ?_
                            refine z_aload_n C 0 rfl dX6_kinds_145 rfl ?_
                            refine z_iload_n C 1 rfl dX6_kinds_146 rfl ?_
                            refine z_iload C 6 rfl dX6_kinds_147 ?_
                            refine y_callV2 C oX6_toldAt iX6_toldAt eX6_toldAt lkX6_256 (c_X6_toldAt (by first | assumption | omega) (by first | assumption | omega)) rfl (by decide) rfl rfl (by decide) (Nat.le_refl _) (Nat.le_refl _) (Nat.le_of_ble_eq_true rfl) dX6_kinds_149 ?_
                            refine y_callV1 C oX6_isCell iX6_isCell eX6_isCell lkX6_128 (c_X6_isCell hgr) rfl (by decide) rfl rfl (by decide) (Nat.le_refl _) (Nat.le_refl _) (Nat.le_of_ble_eq_true rfl) dX6_kinds_152 ?_
                            refine y_if_eqB C 172 dX6_kinds_155 (by decide) (fun h155 => ?_) (fun h155 => ?_)
                            · refine z_iconst C dX6_kinds_172 ?_
                              refine z_istore C [(5, .int (iI 0)), (0, .ref 58), (1, .int (iI ((sn : Int)))), (2, .int (iI ((tn : Int)))), (3, .int (iI ((nn : Int)))), (4, .int (iI ((wn : Int)))), (6, .int (iI ((e : Int))))] dX6_kinds_173 (by decide) rfl ?_
                              obtain ⟨v1, ev1⟩ : ∃ y : Int, y = (e : Int) + 1 := ⟨_, rfl⟩
                              refine z_iinc C 6 v1 [(6, .int (iI v1)), (5, .int (iI 0)), (0, .ref 58), (1, .int (iI ((sn : Int)))), (2, .int (iI ((tn : Int)))), (3, .int (iI ((nn : Int)))), (4, .int (iI ((wn : Int))))] dX6_kinds_175 rfl ev1.symm (by decide) rfl ?_
                              refine z_goto C 138 dX6_kinds_178 (by decide) ?_
                              refine zZ_sub [2, 3, 4, 5, 6, 1, 0] rfl ?_
                              refine zZ_cast rfl (zLk (zLk (zLk (zLk (zLk (zLc (okV_f (by simp only [bcP]; rw [show isCellN (I 58 0) (roF J sn e).toInt = false from h155]; rfl)) (zLc (by omega) rfl))))))) rfl (kke trivial)
                            · refine z_aload_n C 0 rfl dX6_kinds_158 rfl ?_
                              refine z_aload_n C 0 rfl dX6_kinds_159 rfl ?_
                              refine z_iload_n C 2 rfl dX6_kinds_160 rfl ?_
                              refine z_iload C 6 rfl dX6_kinds_161 ?_
                              refine y_callV2 C oX6_toldAt iX6_toldAt eX6_toldAt lkX6_256 (c_X6_toldAt (by first | assumption | omega) (by first | assumption | omega)) rfl (by decide) rfl rfl (by decide) (Nat.le_refl _) (Nat.le_refl _) (Nat.le_of_ble_eq_true rfl) dX6_kinds_163 ?_
                              refine y_callV1 C oX6_isCell iX6_isCell eX6_isCell lkX6_128 (c_X6_isCell hgr) rfl (by decide) rfl rfl (by decide) (Nat.le_refl _) (Nat.le_refl _) (Nat.le_of_ble_eq_true rfl) dX6_kinds_166 ?_
                              refine y_if_neB C 175 dX6_kinds_169 (by decide) (fun h169 => ?_) (fun h169 => ?_)
                              · obtain ⟨v2, ev2⟩ : ∃ y : Int, y = (e : Int) + 1 := ⟨_, rfl⟩
                                refine z_iinc C 6 v2 [(6, .int (iI v2)), (0, .ref 58), (1, .int (iI ((sn : Int)))), (2, .int (iI ((tn : Int)))), (3, .int (iI ((nn : Int)))), (4, .int (iI ((wn : Int)))), (5, .int (iI ((okV x0 (bcP (I 58 0) (roF J sn) (roF J tn)) e))))] dX6_kinds_175 rfl ev2.symm (by decide) rfl ?_
                                refine z_goto C 138 dX6_kinds_178 (by decide) ?_
                                refine zZ_sub [1, 2, 3, 4, 5, 6, 0] rfl ?_
                                refine zZ_cast rfl (zLk (zLk (zLk (zLk (zLk (zLc (okV_t (by simp only [bcP]; rw [show isCellN (I 58 0) (roF J sn e).toInt = true from h155, show isCellN (I 58 0) (roF J tn e).toInt = true from h169]; rfl)) (zLc (by omega) rfl))))))) rfl (kke trivial)
                              · refine z_iconst C dX6_kinds_172 ?_
                                refine z_istore C [(5, .int (iI 0)), (0, .ref 58), (1, .int (iI ((sn : Int)))), (2, .int (iI ((tn : Int)))), (3, .int (iI ((nn : Int)))), (4, .int (iI ((wn : Int)))), (6, .int (iI ((e : Int))))] dX6_kinds_173 (by decide) rfl ?_
                                obtain ⟨v3, ev3⟩ : ∃ y : Int, y = (e : Int) + 1 := ⟨_, rfl⟩
                                refine z_iinc C 6 v3 [(6, .int (iI v3)), (5, .int (iI 0)), (0, .ref 58), (1, .int (iI ((sn : Int)))), (2, .int (iI ((tn : Int)))), (3, .int (iI ((nn : Int)))), (4, .int (iI ((wn : Int))))] dX6_kinds_175 rfl ev3.symm (by decide) rfl ?_
                                refine z_goto C 138 dX6_kinds_178 (by decide) ?_
                                refine zZ_sub [2, 3, 4, 5, 6, 1, 0] rfl ?_
                                refine zZ_cast rfl (zLk (zLk (zLk (zLk (zLk (zLc (okV_f (by simp only [bcP]; rw [show isCellN (I 58 0) (roF J tn e).toInt = false from h169, Bool.and_false]; rfl)) (zLc (by omega) rfl))))))) rfl (kke trivial)
                        · intro hpe
                          refine z_iload C 6 rfl dX6_kinds_138 ?_
                          refine z_iload_n C 3 rfl dX6_kinds_140 rfl ?_
                          refine z_icmp_ge C 181 dX6_kinds_141 (by decide) (by omega) (by omega) (fun h141 => ?_) (fun h141 => ?_)
                          · have hko : okV (if I 62 w.toNat = I 58 2 then 0 else 1) (bcP (I 58 0) (roF J s.toNat) (roF J t.toNat)) n.toNat = okV x0 (bcP (I 58 0) (roF J sn) (roF J tn)) nn := by rw [hwt, hst, htt, hnt, if_pos (of_decide_eq_true h125), ex0]
                            have hokr : 0 ≤ okV x0 (bcP (I 58 0) (roF J sn) (roF J tn)) nn ∧ okV x0 (bcP (I 58 0) (roF J sn) (roF J tn)) nn ≤ 1 := by unfold okV; split <;> omega
                            refine z_iload C 5 rfl dX6_kinds_181 ?_
                            refine z_if_ne C 193 dX6_kinds_183 (by decide) (by omega) (fun h183 => ?_) (fun h183 => ?_)
                            · have hbc : firstN (bcP (I 58 0) (roF J sn) (roF J tn)) nn = none := by
                                by_cases z : firstN (bcP (I 58 0) (roF J sn) (roF J tn)) nn = none
                                · exact z
                                · exact absurd (show okV x0 (bcP (I 58 0) (roF J sn) (roF J tn)) nn = 0 from if_neg z) h183
                              have hf7 : ∀ k, k < nn → gC7 (roF J sn k).toInt ∧ gC7 (roF J tn k).toInt := fun k hk => by
                                have h4 := firstN_none.mp hbc k hk
                                simp only [bcP, Bool.not_eq_false', Bool.and_eq_true] at h4
                                exact ⟨gC7_of b1.2 h4.1, gC7_of b1.2 h4.2⟩
                              obtain ⟨P, hP⟩ : ∃ P : Nat → Bool, P = fun (k : Nat) => goesN (hvR I) (I 62) wn (k : Int) (roF J sn) (roF J tn) nn := ⟨_, rfl⟩
                              have hkN : kindsR I J sn tn nn wn = bitsN P 6 := by rw [hP]; rfl
                              refine z_aload_n C 0 rfl dX6_kinds_193 rfl ?_
                              refine y_getR C zCl6 6 flX6_13 rfl rfl rfl dX6_kinds_194 ?_
                              refine z_iload C 4 rfl dX6_kinds_197 ?_
                              refine y_iald C wn (by omega) rfl (by omega) (by decide) dX6_kinds_199 ?_
                              refine z_topI C (fun kw ekw => ?_)
                              refine z_istore C [(6, .int (iI kw)), (0, .ref 58), (1, .int (iI ((sn : Int)))), (2, .int (iI ((tn : Int)))), (3, .int (iI ((nn : Int)))), (4, .int (iI ((wn : Int)))), (5, .int (iI ((okV x0 (bcP (I 58 0) (roF J sn) (roF J tn)) nn))))] dX6_kinds_200 (by decide) rfl ?_
                              refine z_iconst C dX6_kinds_202 ?_
                              refine z_istore C [(7, .int (iI 0)), (6, .int (iI kw)), (0, .ref 58), (1, .int (iI ((sn : Int)))), (2, .int (iI ((tn : Int)))), (3, .int (iI ((nn : Int)))), (4, .int (iI ((wn : Int)))), (5, .int (iI ((okV x0 (bcP (I 58 0) (roF J sn) (roF J tn)) nn))))] dX6_kinds_203 (by decide) rfl ?_
                              refine z_aload_n C 2 rfl dX6_kinds_205 rfl ?_
                              refine z_iconst C dX6_kinds_206 ?_
                              refine z_top C (((0 : Nat) : Int)) (rfl) ?_
                              refine y_callV1 C oX6_saves iX6_saves eX6_saves lkX6_104 (c_X6_saves (by first | assumption | omega)) rfl (by decide) rfl rfl (by decide) (Nat.le_refl _) (Nat.le_refl _) (Nat.le_of_ble_eq_true rfl) dX6_kinds_207 ?_
                              refine z_iconst C dX6_kinds_210 ?_
                              refine z_istore C [(8, .int (iI 0)), (7, .int (iI 0)), (6, .int (iI kw)), (0, .ref 58), (1, .int (iI ((sn : Int)))), (2, .int (iI ((tn : Int)))), (3, .int (iI ((nn : Int)))), (4, .int (iI ((wn : Int)))), (5, .int (iI ((okV x0 (bcP (I 58 0) (roF J sn) (roF J tn)) nn))))] dX6_kinds_211 (by decide) rfl ?_
                              refine zZ_sub [3, 4, 5, 6, 7, 2, 1, 0] rfl ?_
                              refine zZ_cast (σ' := (fun (_ : Nat) (kd : Int) => zst (zu (svI I 0 (spR I)) 60 wn kd) J q) 0 (I 60 wn)) (L' := (fun (e : Nat) (kd : Int) => [(0, .ref 58), (1, .int (iI ((sn : Int)))), (2, .int (iI ((tn : Int)))), (3, .int (iI ((nn : Int)))), (4, .int (iI ((wn : Int)))), (6, .int (iI kw)), (7, .int (iI (bitsN P e : Nat))), (8, .int (iI (e : Int)))]) 0 (I 60 wn)) (by refine congrArg (fun I' => zst I' J q) ?_; rw [← show svI I 0 (spR I) 60 wn = I 60 wn by rw [svI_n (by decide)]]; exact zu_self.symm) rfl rfl ?_
                              refine zforE (6) (fun _ _ => True) (fun (_ : Nat) (kd : Int) => zst (zu (svI I 0 (spR I)) 60 wn kd) J q) (fun (e : Nat) (kd : Int) => [(0, .ref 58), (1, .int (iI ((sn : Int)))), (2, .int (iI ((tn : Int)))), (3, .int (iI ((nn : Int)))), (4, .int (iI ((wn : Int)))), (6, .int (iI kw)), (7, .int (iI (bitsN P e : Nat))), (8, .int (iI (e : Int)))]) (I 60 wn) trivial ?_ ?_
                              · intro e kd hee hpe kke
                                refine z_iload C 7 rfl dX6_kinds_213 ?_
                                refine z_bipush C dX6_kinds_215 (by decide) ?_
                                refine z_icmp_ge C 261 dX6_kinds_217 (by decide) (by omega) (by omega) (fun h217 => ?_) (fun h217 => ?_)
                                · omega
                                · refine z_aload_n C 0 rfl dX6_kinds_220 rfl ?_
                                  refine y_getR C zCl6 6 flX6_13 rfl rfl rfl dX6_kinds_221 ?_
                                  refine z_iload C 4 rfl dX6_kinds_224 ?_
                                  refine z_iload C 7 rfl dX6_kinds_226 ?_
                                  refine y_iast C wn (by omega) rfl (by omega) (by decide) dX6_kinds_228 ?_
                                  refine zZ_cast (σ' := zst (zu (svI I 0 (spR I)) 60 wn (e : Int)) J q)  (by refine congrArg (fun I' => zst I' J q) ?_; rw [zu_zu]) rfl rfl ?_
                                  have hg1 : gR (zu (svI I 0 (spR I)) 60 wn (e : Int)) := gR_60 (gR_sv hgr) (by omega)
                                  have hr1 : gRS (spR (zu (svI I 0 (spR I)) 60 wn (e : Int))) := by rw [show spR (zu (svI I 0 (spR I)) 60 wn (e : Int)) = spR (svI I 0 (spR I)) from rfl, spR_sv]; exact hrs
                                  have hs1 : svAt (zu (svI I 0 (spR I)) 60 wn (e : Int)) 0 (spR I) := (svAt_sv : svAt (svI I 0 (spR I)) 0 (spR I))
                                  refine z_aload_n C 0 rfl dX6_kinds_229 rfl ?_
                                  refine z_iload_n C 1 rfl dX6_kinds_230 rfl ?_
                                  refine z_iload_n C 2 rfl dX6_kinds_231 rfl ?_
                                  refine z_iload_n C 3 rfl dX6_kinds_232 rfl ?_
                                  refine z_iload C 4 rfl dX6_kinds_233 ?_
                                  refine y_callVE4 C oX6_isSo iX6_isSo eX6_isSo lkX6_292 (c_X6_isSo hg1 hr1 (by first | assumption | omega) (by first | assumption | omega) (by first | assumption | omega) (by first | assumption | omega) (fun k hk => (hf7 k hk).1) (fun k hk => (hf7 k hk).2)) rfl (by decide) rfl rfl (by decide) (Nat.le_refl _) (Nat.le_refl _) (Nat.le_of_ble_eq_true rfl) dX6_kinds_235 (fun p2 => ?_)
                                  refine z_top C (bI (P e)) (by rw [goes_60, hvR_sv, show zu (svI I 0 (spR I)) 60 wn (e : Int) 62 = I 62 by rw [zu_ne (by decide), svI_n (by decide)], zu_s, hP]) ?_
                                  refine y_if_eqB C 250 dX6_kinds_238 (by decide) (fun h238 => ?_) (fun h238 => ?_)
                                  · refine z_aload_n C 0 rfl dX6_kinds_250 rfl ?_
                                    refine z_iconst C dX6_kinds_251 ?_
                                    refine z_top C (((0 : Nat) : Int)) (rfl) ?_
                                    refine y_callV1 C oX6_again iX6_again eX6_again lkX6_111 (c_X6_again (by first | assumption | omega) (svAt_q hs1)) rfl (by decide) rfl rfl (by decide) (Nat.le_refl _) (Nat.le_refl _) (Nat.le_of_ble_eq_true rfl) dX6_kinds_252 ?_
                                    refine zZ_cast (σ' := zst (zu (svI I 0 (spR I)) 60 wn (e : Int)) J q)  (by refine congrArg (fun I' => zst I' J q) ?_; rw [zRq_zRq, ← show spR (zu (svI I 0 (spR I)) 60 wn (e : Int)) = spR I from spR_sv (I := I) (d := 0) (p := spR I)]; exact zRq_self) rfl rfl ?_
                                    obtain ⟨v4, ev4⟩ : ∃ y : Int, y = (e : Int) + 1 := ⟨_, rfl⟩
                                    refine z_iinc C 7 v4 [(8, .int (iI v4)), (0, .ref 58), (1, .int (iI ((sn : Int)))), (2, .int (iI ((tn : Int)))), (3, .int (iI ((nn : Int)))), (4, .int (iI ((wn : Int)))), (6, .int (iI kw)), (7, .int (iI ((bitsN P e : Nat))))] dX6_kinds_255 rfl ev4.symm (by decide) rfl ?_
                                    refine z_goto C 213 dX6_kinds_258 (by decide) ?_
                                    refine zZ_sub [1, 2, 3, 4, 5, 6, 7, 0] rfl ?_
                                    refine zZ_cast rfl (zLk (zLk (zLk (zLk (zLk (zLk (zLc (by rw [bitsN_no h238]) (zLc (by omega) rfl)))))))) rfl (kke (e : Int) trivial)
                                  · refine z_iload C 6 rfl dX6_kinds_241 ?_
                                    refine z_iconst C dX6_kinds_243 ?_
                                    refine z_iload C 7 rfl dX6_kinds_244 ?_
                                    refine z_ishl C ((2 ^ e : Nat) : Int) dX6_kinds_246 (iI_sh1 (by omega)) ?_
                                    refine z_ior C (bitsN P (e + 1) : Nat) dX6_kinds_247 (bitsN_step (by omega) h238) ?_
                                    refine z_istore C [(7, .int (iI ((bitsN P (e + 1) : Nat)))), (0, .ref 58), (1, .int (iI ((sn : Int)))), (2, .int (iI ((tn : Int)))), (3, .int (iI ((nn : Int)))), (4, .int (iI ((wn : Int)))), (6, .int (iI kw)), (8, .int (iI ((e : Int))))] dX6_kinds_248 (by decide) rfl ?_
                                    refine z_aload_n C 1 rfl dX6_kinds_250 rfl ?_
                                    refine z_iconst C dX6_kinds_251 ?_
                                    refine z_top C (((0 : Nat) : Int)) (rfl) ?_
                                    refine y_callV1 C oX6_again iX6_again eX6_again lkX6_111 (c_X6_again (by first | assumption | omega) (svAt_q hs1)) rfl (by decide) rfl rfl (by decide) (Nat.le_refl _) (Nat.le_refl _) (Nat.le_of_ble_eq_true rfl) dX6_kinds_252 ?_
                                    refine zZ_cast (σ' := zst (zu (svI I 0 (spR I)) 60 wn (e : Int)) J q)  (by refine congrArg (fun I' => zst I' J q) ?_; rw [zRq_zRq, ← show spR (zu (svI I 0 (spR I)) 60 wn (e : Int)) = spR I from spR_sv (I := I) (d := 0) (p := spR I)]; exact zRq_self) rfl rfl ?_
                                    obtain ⟨v5, ev5⟩ : ∃ y : Int, y = (e : Int) + 1 := ⟨_, rfl⟩
                                    refine z_iinc C 7 v5 [(8, .int (iI v5)), (7, .int (iI ((bitsN P (e + 1) : Nat)))), (0, .ref 58), (1, .int (iI ((sn : Int)))), (2, .int (iI ((tn : Int)))), (3, .int (iI ((nn : Int)))), (4, .int (iI ((wn : Int)))), (6, .int (iI kw))] dX6_kinds_255 rfl ev5.symm (by decide) rfl ?_
                                    refine z_goto C 213 dX6_kinds_258 (by decide) ?_
                                    refine zZ_sub [2, 3, 4, 5, 6, 7, 1, 0] rfl ?_
                                    refine zZ_cast rfl (zLk (zLk (zLk (zLk (zLk (zLk (zLc rfl (zLc (by omega) rfl)))))))) rfl (kke (e : Int) trivial)
                              · intro kd hpe
                                refine z_iload C 7 rfl dX6_kinds_213 ?_
                                refine z_bipush C dX6_kinds_215 (by decide) ?_
                                refine z_icmp_ge C 261 dX6_kinds_217 (by decide) (by omega) (by omega) (fun h217 => ?_) (fun h217 => ?_)
                                · refine z_aload_n C 0 rfl dX6_kinds_261 rfl ?_
                                  refine y_getR C zCl6 6 flX6_13 rfl rfl rfl dX6_kinds_262 ?_
                                  refine z_iload C 4 rfl dX6_kinds_265 ?_
                                  refine z_iload C 5 rfl dX6_kinds_267 ?_
                                  refine y_iast C wn (by omega) rfl (by omega) (by decide) dX6_kinds_269 ?_
                                  refine zZ_cast (σ' := zst (svI I 0 (spR I)) J q)  (by refine congrArg (fun I' => zst I' J q) ?_; rw [zu_zu, show kw = svI I 0 (spR I) 60 wn by rw [svI_n (by decide)]; exact ekw]; exact zu_self) rfl rfl ?_
                                  refine z_iload C 6 rfl dX6_kinds_270 ?_
                                  exact zZ_iret C hR (Nat.le_refl _) (Nat.le_refl _) dX6_kinds_272 rfl (zEx_I (by rw [uR0 (show fKinds (VI I) (VJ I J) s t n w = 0 by (try simp only [decide_eq_true_eq, decide_eq_false_iff_not, bI] at *); (rw [fK_V hgr hrl]; first | exact if_pos (by omega) | (rw [if_neg (by omega)]; first | exact if_pos (by omega) | (rw [if_neg (by omega)]; first | exact if_pos (by omega) | (rw [if_neg (by omega)]; first | exact if_pos (by omega) | (rw [if_neg (by omega)]; first | exact if_pos (hko.trans (by assumption)) | exact if_neg (fun z => by have z2 := hko.symm.trans z; contradiction)))))))]; rw [hst, htt, hnt, hwt, hkN]) ⟨svI I 0 (spR I), frR_sv⟩ (by rw [uK0 (show fKinds (VI I) (VJ I J) s t n w = 0 by (try simp only [decide_eq_true_eq, decide_eq_false_iff_not, bI] at *); (rw [fK_V hgr hrl]; first | exact if_pos (by omega) | (rw [if_neg (by omega)]; first | exact if_pos (by omega) | (rw [if_neg (by omega)]; first | exact if_pos (by omega) | (rw [if_neg (by omega)]; first | exact if_pos (by omega) | (rw [if_neg (by omega)]; first | exact if_pos (hko.trans (by assumption)) | exact if_neg (fun z => by have z2 := hko.symm.trans z; contradiction)))))))]; (first | done | rfl)))
                                · omega
                            · refine z_aload_n C 0 rfl dX6_kinds_186 rfl ?_
                              refine z_bipush C dX6_kinds_187 (by decide) ?_
                              refine y_callV1 C oX6_no iX6_no eX6_no lkX6_83 (c_X6_no (by first | assumption | omega)) rfl (by decide) rfl rfl (by decide) (Nat.le_refl _) (Nat.le_refl _) (Nat.le_of_ble_eq_true rfl) dX6_kinds_189 ?_
                              exact zZ_iret C hR (Nat.le_refl _) (Nat.le_refl _) dX6_kinds_192 rfl (zEx_I (uRc (show fKinds (VI I) (VJ I J) s t n w = -5 by (try simp only [decide_eq_true_eq, decide_eq_false_iff_not, bI] at *); (rw [fK_V hgr hrl]; first | exact if_pos (by omega) | (rw [if_neg (by omega)]; first | exact if_pos (by omega) | (rw [if_neg (by omega)]; first | exact if_pos (by omega) | (rw [if_neg (by omega)]; first | exact if_pos (by omega) | (rw [if_neg (by omega)]; first | exact if_pos (hko.trans (by assumption)) | exact if_neg (fun z => by have z2 := hko.symm.trans z; contradiction))))))) (by decide)).symm ⟨I, frR_rf⟩ (by rw [uKc (show fKinds (VI I) (VJ I J) s t n w = -5 by (try simp only [decide_eq_true_eq, decide_eq_false_iff_not, bI] at *); (rw [fK_V hgr hrl]; first | exact if_pos (by omega) | (rw [if_neg (by omega)]; first | exact if_pos (by omega) | (rw [if_neg (by omega)]; first | exact if_pos (by omega) | (rw [if_neg (by omega)]; first | exact if_pos (by omega) | (rw [if_neg (by omega)]; first | exact if_pos (hko.trans (by assumption)) | exact if_neg (fun z => by have z2 := hko.symm.trans z; contradiction))))))) (by decide)]))
                          · omega
                      · refine z_iconst C dX6_kinds_128 ?_
                        refine z_goto C 133 dX6_kinds_129 (by decide) ?_
                        refine z_topI C (fun x0 ex0 => ?_)
                        refine z_istore C [(5, .int (iI x0)), (0, .ref 58), (1, .int (iI ((sn : Int)))), (2, .int (iI ((tn : Int)))), (3, .int (iI ((nn : Int)))), (4, .int (iI ((wn : Int))))] dX6_kinds_133 (by decide) rfl ?_
                        refine z_iconst C dX6_kinds_135 ?_
                        refine z_istore C [(6, .int (iI 0)), (5, .int (iI x0)), (0, .ref 58), (1, .int (iI ((sn : Int)))), (2, .int (iI ((tn : Int)))), (3, .int (iI ((nn : Int)))), (4, .int (iI ((wn : Int))))] dX6_kinds_136 (by decide) rfl ?_
                        refine zZ_sub [2, 3, 4, 5, 6, 1, 0] rfl ?_
                        refine zZ_cast (σ' := (fun _ : Nat => zst I J q) 0) (L' := (fun e : Nat => [(0, .ref 58), (1, .int (iI ((sn : Int)))), (2, .int (iI ((tn : Int)))), (3, .int (iI ((nn : Int)))), (4, .int (iI ((wn : Int)))), (5, .int (iI (okV x0 (bcP (I 58 0) (roF J sn) (roF J tn)) e))), (6, .int (iI (e : Int)))]) 0) rfl rfl rfl ?_
                        refine zfor (nn) (fun _ => True) (fun _ : Nat => zst I J q) (fun e : Nat => [(0, .ref 58), (1, .int (iI ((sn : Int)))), (2, .int (iI ((tn : Int)))), (3, .int (iI ((nn : Int)))), (4, .int (iI ((wn : Int)))), (5, .int (iI (okV x0 (bcP (I 58 0) (roF J sn) (roF J tn)) e))), (6, .int (iI (e : Int)))]) trivial ?_ ?_
                        · intro e hee hpe kke
                          refine z_iload C 6 rfl dX6_kinds_138 ?_
                          refine z_iload_n C 3 rfl dX6_kinds_140 rfl ?_
                          refine z_icmp_ge C 181 dX6_kinds_141 (by decide) (by omega) (by omega) (fun h141 => ?_) (fun h141 => ?_)
                          · omega
                          · refine z_aload_n C 0 rfl dX6_kinds_144 rfl ?_
                            refine z_aload_n C 0 rfl dX6_kinds_145 rfl ?_
                            refine z_iload_n C 1 rfl dX6_kinds_146 rfl ?_
                            refine z_iload C 6 rfl dX6_kinds_147 ?_
                            refine y_callV2 C oX6_toldAt iX6_toldAt eX6_toldAt lkX6_256 (c_X6_toldAt (by first | assumption | omega) (by first | assumption | omega)) rfl (by decide) rfl rfl (by decide) (Nat.le_refl _) (Nat.le_refl _) (Nat.le_of_ble_eq_true rfl) dX6_kinds_149 ?_
                            refine y_callV1 C oX6_isCell iX6_isCell eX6_isCell lkX6_128 (c_X6_isCell hgr) rfl (by decide) rfl rfl (by decide) (Nat.le_refl _) (Nat.le_refl _) (Nat.le_of_ble_eq_true rfl) dX6_kinds_152 ?_
                            refine y_if_eqB C 172 dX6_kinds_155 (by decide) (fun h155 => ?_) (fun h155 => ?_)
                            · refine z_iconst C dX6_kinds_172 ?_
                              refine z_istore C [(5, .int (iI 0)), (0, .ref 58), (1, .int (iI ((sn : Int)))), (2, .int (iI ((tn : Int)))), (3, .int (iI ((nn : Int)))), (4, .int (iI ((wn : Int)))), (6, .int (iI ((e : Int))))] dX6_kinds_173 (by decide) rfl ?_
                              obtain ⟨v6, ev6⟩ : ∃ y : Int, y = (e : Int) + 1 := ⟨_, rfl⟩
                              refine z_iinc C 6 v6 [(6, .int (iI v6)), (5, .int (iI 0)), (0, .ref 58), (1, .int (iI ((sn : Int)))), (2, .int (iI ((tn : Int)))), (3, .int (iI ((nn : Int)))), (4, .int (iI ((wn : Int))))] dX6_kinds_175 rfl ev6.symm (by decide) rfl ?_
                              refine z_goto C 138 dX6_kinds_178 (by decide) ?_
                              refine zZ_sub [2, 3, 4, 5, 6, 1, 0] rfl ?_
                              refine zZ_cast rfl (zLk (zLk (zLk (zLk (zLk (zLc (okV_f (by simp only [bcP]; rw [show isCellN (I 58 0) (roF J sn e).toInt = false from h155]; rfl)) (zLc (by omega) rfl))))))) rfl (kke trivial)
                            · refine z_aload_n C 0 rfl dX6_kinds_158 rfl ?_
                              refine z_aload_n C 0 rfl dX6_kinds_159 rfl ?_
                              refine z_iload_n C 2 rfl dX6_kinds_160 rfl ?_
                              refine z_iload C 6 rfl dX6_kinds_161 ?_
                              refine y_callV2 C oX6_toldAt iX6_toldAt eX6_toldAt lkX6_256 (c_X6_toldAt (by first | assumption | omega) (by first | assumption | omega)) rfl (by decide) rfl rfl (by decide) (Nat.le_refl _) (Nat.le_refl _) (Nat.le_of_ble_eq_true rfl) dX6_kinds_163 ?_
                              refine y_callV1 C oX6_isCell iX6_isCell eX6_isCell lkX6_128 (c_X6_isCell hgr) rfl (by decide) rfl rfl (by decide) (Nat.le_refl _) (Nat.le_refl _) (Nat.le_of_ble_eq_true rfl) dX6_kinds_166 ?_
                              refine y_if_neB C 175 dX6_kinds_169 (by decide) (fun h169 => ?_) (fun h169 => ?_)
                              · obtain ⟨v7, ev7⟩ : ∃ y : Int, y = (e : Int) + 1 := ⟨_, rfl⟩
                                refine z_iinc C 6 v7 [(6, .int (iI v7)), (0, .ref 58), (1, .int (iI ((sn : Int)))), (2, .int (iI ((tn : Int)))), (3, .int (iI ((nn : Int)))), (4, .int (iI ((wn : Int)))), (5, .int (iI ((okV x0 (bcP (I 58 0) (roF J sn) (roF J tn)) e))))] dX6_kinds_175 rfl ev7.symm (by decide) rfl ?_
                                refine z_goto C 138 dX6_kinds_178 (by decide) ?_
                                refine zZ_sub [1, 2, 3, 4, 5, 6, 0] rfl ?_
                                refine zZ_cast rfl (zLk (zLk (zLk (zLk (zLk (zLc (okV_t (by simp only [bcP]; rw [show isCellN (I 58 0) (roF J sn e).toInt = true from h155, show isCellN (I 58 0) (roF J tn e).toInt = true from h169]; rfl)) (zLc (by omega) rfl))))))) rfl (kke trivial)
                              · refine z_iconst C dX6_kinds_172 ?_
                                refine z_istore C [(5, .int (iI 0)), (0, .ref 58), (1, .int (iI ((sn : Int)))), (2, .int (iI ((tn : Int)))), (3, .int (iI ((nn : Int)))), (4, .int (iI ((wn : Int)))), (6, .int (iI ((e : Int))))] dX6_kinds_173 (by decide) rfl ?_
                                obtain ⟨v8, ev8⟩ : ∃ y : Int, y = (e : Int) + 1 := ⟨_, rfl⟩
                                refine z_iinc C 6 v8 [(6, .int (iI v8)), (5, .int (iI 0)), (0, .ref 58), (1, .int (iI ((sn : Int)))), (2, .int (iI ((tn : Int)))), (3, .int (iI ((nn : Int)))), (4, .int (iI ((wn : Int))))] dX6_kinds_175 rfl ev8.symm (by decide) rfl ?_
                                refine z_goto C 138 dX6_kinds_178 (by decide) ?_
                                refine zZ_sub [2, 3, 4, 5, 6, 1, 0] rfl ?_
                                refine zZ_cast rfl (zLk (zLk (zLk (zLk (zLk (zLc (okV_f (by simp only [bcP]; rw [show isCellN (I 58 0) (roF J tn e).toInt = false from h169, Bool.and_false]; rfl)) (zLc (by omega) rfl))))))) rfl (kke trivial)
                        · intro hpe
                          refine z_iload C 6 rfl dX6_kinds_138 ?_
                          refine z_iload_n C 3 rfl dX6_kinds_140 rfl ?_
                          refine z_icmp_ge C 181 dX6_kinds_141 (by decide) (by omega) (by omega) (fun h141 => ?_) (fun h141 => ?_)
                          · have hko : okV (if I 62 w.toNat = I 58 2 then 0 else 1) (bcP (I 58 0) (roF J s.toNat) (roF J t.toNat)) n.toNat = okV x0 (bcP (I 58 0) (roF J sn) (roF J tn)) nn := by rw [hwt, hst, htt, hnt, if_neg (of_decide_eq_false h125), ex0]
                            have hokr : 0 ≤ okV x0 (bcP (I 58 0) (roF J sn) (roF J tn)) nn ∧ okV x0 (bcP (I 58 0) (roF J sn) (roF J tn)) nn ≤ 1 := by unfold okV; split <;> omega
                            refine z_iload C 5 rfl dX6_kinds_181 ?_
                            refine z_if_ne C 193 dX6_kinds_183 (by decide) (by omega) (fun h183 => ?_) (fun h183 => ?_)
                            · have hbc : firstN (bcP (I 58 0) (roF J sn) (roF J tn)) nn = none := by
                                by_cases z : firstN (bcP (I 58 0) (roF J sn) (roF J tn)) nn = none
                                · exact z
                                · exact absurd (show okV x0 (bcP (I 58 0) (roF J sn) (roF J tn)) nn = 0 from if_neg z) h183
                              have hf7 : ∀ k, k < nn → gC7 (roF J sn k).toInt ∧ gC7 (roF J tn k).toInt := fun k hk => by
                                have h4 := firstN_none.mp hbc k hk
                                simp only [bcP, Bool.not_eq_false', Bool.and_eq_true] at h4
                                exact ⟨gC7_of b1.2 h4.1, gC7_of b1.2 h4.2⟩
                              obtain ⟨P, hP⟩ : ∃ P : Nat → Bool, P = fun (k : Nat) => goesN (hvR I) (I 62) wn (k : Int) (roF J sn) (roF J tn) nn := ⟨_, rfl⟩
                              have hkN : kindsR I J sn tn nn wn = bitsN P 6 := by rw [hP]; rfl
                              refine z_aload_n C 0 rfl dX6_kinds_193 rfl ?_
                              refine y_getR C zCl6 6 flX6_13 rfl rfl rfl dX6_kinds_194 ?_
                              refine z_iload C 4 rfl dX6_kinds_197 ?_
                              refine y_iald C wn (by omega) rfl (by omega) (by decide) dX6_kinds_199 ?_
                              refine z_topI C (fun kw ekw => ?_)
                              refine z_istore C [(6, .int (iI kw)), (0, .ref 58), (1, .int (iI ((sn : Int)))), (2, .int (iI ((tn : Int)))), (3, .int (iI ((nn : Int)))), (4, .int (iI ((wn : Int)))), (5, .int (iI ((okV x0 (bcP (I 58 0) (roF J sn) (roF J tn)) nn))))] dX6_kinds_200 (by decide) rfl ?_
                              refine z_iconst C dX6_kinds_202 ?_
                              refine z_istore C [(7, .int (iI 0)), (6, .int (iI kw)), (0, .ref 58), (1, .int (iI ((sn : Int)))), (2, .int (iI ((tn : Int)))), (3, .int (iI ((nn : Int)))), (4, .int (iI ((wn : Int)))), (5, .int (iI ((okV x0 (bcP (I 58 0) (roF J sn) (roF J tn)) nn))))] dX6_kinds_203 (by decide) rfl ?_
                              refine z_aload_n C 2 rfl dX6_kinds_205 rfl ?_
                              refine z_iconst C dX6_kinds_206 ?_
                              refine z_top C (((0 : Nat) : Int)) (rfl) ?_
                              refine y_callV1 C oX6_saves iX6_saves eX6_saves lkX6_104 (c_X6_saves (by first | assumption | omega)) rfl (by decide) rfl rfl (by decide) (Nat.le_refl _) (Nat.le_refl _) (Nat.le_of_ble_eq_true rfl) dX6_kinds_207 ?_
                              refine z_iconst C dX6_kinds_210 ?_
                              refine z_istore C [(8, .int (iI 0)), (7, .int (iI 0)), (6, .int (iI kw)), (0, .ref 58), (1, .int (iI ((sn : Int)))), (2, .int (iI ((tn : Int)))), (3, .int (iI ((nn : Int)))), (4, .int (iI ((wn : Int)))), (5, .int (iI ((okV x0 (bcP (I 58 0) (roF J sn) (roF J tn)) nn))))] dX6_kinds_211 (by decide) rfl ?_
                              refine zZ_sub [3, 4, 5, 6, 7, 2, 1, 0] rfl ?_
                              refine zZ_cast (σ' := (fun (_ : Nat) (kd : Int) => zst (zu (svI I 0 (spR I)) 60 wn kd) J q) 0 (I 60 wn)) (L' := (fun (e : Nat) (kd : Int) => [(0, .ref 58), (1, .int (iI ((sn : Int)))), (2, .int (iI ((tn : Int)))), (3, .int (iI ((nn : Int)))), (4, .int (iI ((wn : Int)))), (6, .int (iI kw)), (7, .int (iI (bitsN P e : Nat))), (8, .int (iI (e : Int)))]) 0 (I 60 wn)) (by refine congrArg (fun I' => zst I' J q) ?_; rw [← show svI I 0 (spR I) 60 wn = I 60 wn by rw [svI_n (by decide)]]; exact zu_self.symm) rfl rfl ?_
                              refine zforE (6) (fun _ _ => True) (fun (_ : Nat) (kd : Int) => zst (zu (svI I 0 (spR I)) 60 wn kd) J q) (fun (e : Nat) (kd : Int) => [(0, .ref 58), (1, .int (iI ((sn : Int)))), (2, .int (iI ((tn : Int)))), (3, .int (iI ((nn : Int)))), (4, .int (iI ((wn : Int)))), (6, .int (iI kw)), (7, .int (iI (bitsN P e : Nat))), (8, .int (iI (e : Int)))]) (I 60 wn) trivial ?_ ?_
                              · intro e kd hee hpe kke
                                refine z_iload C 7 rfl dX6_kinds_213 ?_
                                refine z_bipush C dX6_kinds_215 (by decide) ?_
                                refine z_icmp_ge C 261 dX6_kinds_217 (by decide) (by omega) (by omega) (fun h217 => ?_) (fun h217 => ?_)
                                · omega
                                · refine z_aload_n C 0 rfl dX6_kinds_220 rfl ?_
                                  refine y_getR C zCl6 6 flX6_13 rfl rfl rfl dX6_kinds_221 ?_
                                  refine z_iload C 4 rfl dX6_kinds_224 ?_
                                  refine z_iload C 7 rfl dX6_kinds_226 ?_
                                  refine y_iast C wn (by omega) rfl (by omega) (by decide) dX6_kinds_228 ?_
                                  refine zZ_cast (σ' := zst (zu (svI I 0 (spR I)) 60 wn (e : Int)) J q)  (by refine congrArg (fun I' => zst I' J q) ?_; rw [zu_zu]) rfl rfl ?_
                                  have hg1 : gR (zu (svI I 0 (spR I)) 60 wn (e : Int)) := gR_60 (gR_sv hgr) (by omega)
                                  have hr1 : gRS (spR (zu (svI I 0 (spR I)) 60 wn (e : Int))) := by rw [show spR (zu (svI I 0 (spR I)) 60 wn (e : Int)) = spR (svI I 0 (spR I)) from rfl, spR_sv]; exact hrs
                                  have hs1 : svAt (zu (svI I 0 (spR I)) 60 wn (e : Int)) 0 (spR I) := (svAt_sv : svAt (svI I 0 (spR I)) 0 (spR I))
                                  refine z_aload_n C 0 rfl dX6_kinds_229 rfl ?_
                                  refine z_iload_n C 1 rfl dX6_kinds_230 rfl ?_
                                  refine z_iload_n C 2 rfl dX6_kinds_231 rfl ?_
                                  refine z_iload_n C 3 rfl dX6_kinds_232 rfl ?_
                                  refine z_iload C 4 rfl dX6_kinds_233 ?_
                                  refine y_callVE4 C oX6_isSo iX6_isSo eX6_isSo lkX6_292 (c_X6_isSo hg1 hr1 (by first | assumption | omega) (by first | assumption | omega) (by first | assumption | omega) (by first | assumption | omega) (fun k hk => (hf7 k hk).1) (fun k hk => (hf7 k hk).2)) rfl (by decide) rfl rfl (by decide) (Nat.le_refl _) (Nat.le_refl _) (Nat.le_of_ble_eq_true rfl) dX6_kinds_235 (fun p2 => ?_)
                                  refine z_top C (bI (P e)) (by rw [goes_60, hvR_sv, show zu (svI I 0 (spR I)) 60 wn (e : Int) 62 = I 62 by rw [zu_ne (by decide), svI_n (by decide)], zu_s, hP]) ?_
                                  refine y_if_eqB C 250 dX6_kinds_238 (by decide) (fun h238 => ?_) (fun h238 => ?_)
                                  · refine z_aload_n C 0 rfl dX6_kinds_250 rfl ?_
                                    refine z_iconst C dX6_kinds_251 ?_
                                    refine z_top C (((0 : Nat) : Int)) (rfl) ?_
                                    refine y_callV1 C oX6_again iX6_again eX6_again lkX6_111 (c_X6_again (by first | assumption | omega) (svAt_q hs1)) rfl (by decide) rfl rfl (by decide) (Nat.le_refl _) (Nat.le_refl _) (Nat.le_of_ble_eq_true rfl) dX6_kinds_252 ?_
                                    refine zZ_cast (σ' := zst (zu (svI I 0 (spR I)) 60 wn (e : Int)) J q)  (by refine congrArg (fun I' => zst I' J q) ?_; rw [zRq_zRq, ← show spR (zu (svI I 0 (spR I)) 60 wn (e : Int)) = spR I from spR_sv (I := I) (d := 0) (p := spR I)]; exact zRq_self) rfl rfl ?_
                                    obtain ⟨v9, ev9⟩ : ∃ y : Int, y = (e : Int) + 1 := ⟨_, rfl⟩
                                    refine z_iinc C 7 v9 [(8, .int (iI v9)), (0, .ref 58), (1, .int (iI ((sn : Int)))), (2, .int (iI ((tn : Int)))), (3, .int (iI ((nn : Int)))), (4, .int (iI ((wn : Int)))), (6, .int (iI kw)), (7, .int (iI ((bitsN P e : Nat))))] dX6_kinds_255 rfl ev9.symm (by decide) rfl ?_
                                    refine z_goto C 213 dX6_kinds_258 (by decide) ?_
                                    refine zZ_sub [1, 2, 3, 4, 5, 6, 7, 0] rfl ?_
                                    refine zZ_cast rfl (zLk (zLk (zLk (zLk (zLk (zLk (zLc (by rw [bitsN_no h238]) (zLc (by omega) rfl)))))))) rfl (kke (e : Int) trivial)
                                  · refine z_iload C 6 rfl dX6_kinds_241 ?_
                                    refine z_iconst C dX6_kinds_243 ?_
                                    refine z_iload C 7 rfl dX6_kinds_244 ?_
                                    refine z_ishl C ((2 ^ e : Nat) : Int) dX6_kinds_246 (iI_sh1 (by omega)) ?_
                                    refine z_ior C (bitsN P (e + 1) : Nat) dX6_kinds_247 (bitsN_step (by omega) h238) ?_
                                    refine z_istore C [(7, .int (iI ((bitsN P (e + 1) : Nat)))), (0, .ref 58), (1, .int (iI ((sn : Int)))), (2, .int (iI ((tn : Int)))), (3, .int (iI ((nn : Int)))), (4, .int (iI ((wn : Int)))), (6, .int (iI kw)), (8, .int (iI ((e : Int))))] dX6_kinds_248 (by decide) rfl ?_
                                    refine z_aload_n C 1 rfl dX6_kinds_250 rfl ?_
                                    refine z_iconst C dX6_kinds_251 ?_
                                    refine z_top C (((0 : Nat) : Int)) (rfl) ?_
                                    refine y_callV1 C oX6_again iX6_again eX6_again lkX6_111 (c_X6_again (by first | assumption | omega) (svAt_q hs1)) rfl (by decide) rfl rfl (by decide) (Nat.le_refl _) (Nat.le_refl _) (Nat.le_of_ble_eq_true rfl) dX6_kinds_252 ?_
                                    refine zZ_cast (σ' := zst (zu (svI I 0 (spR I)) 60 wn (e : Int)) J q)  (by refine congrArg (fun I' => zst I' J q) ?_; rw [zRq_zRq, ← show spR (zu (svI I 0 (spR I)) 60 wn (e : Int)) = spR I from spR_sv (I := I) (d := 0) (p := spR I)]; exact zRq_self) rfl rfl ?_
                                    obtain ⟨v10, ev10⟩ : ∃ y : Int, y = (e : Int) + 1 := ⟨_, rfl⟩
                                    refine z_iinc C 7 v10 [(8, .int (iI v10)), (7, .int (iI ((bitsN P (e + 1) : Nat)))), (0, .ref 58), (1, .int (iI ((sn : Int)))), (2, .int (iI ((tn : Int)))), (3, .int (iI ((nn : Int)))), (4, .int (iI ((wn : Int)))), (6, .int (iI kw))] dX6_kinds_255 rfl ev10.symm (by decide) rfl ?_
                                    refine z_goto C 213 dX6_kinds_258 (by decide) ?_
                                    refine zZ_sub [2, 3, 4, 5, 6, 7, 1, 0] rfl ?_
                                    refine zZ_cast rfl (zLk (zLk (zLk (zLk (zLk (zLk (zLc rfl (zLc (by omega) rfl)))))))) rfl (kke (e : Int) trivial)
                              · intro kd hpe
                                refine z_iload C 7 rfl dX6_kinds_213 ?_
                                refine z_bipush C dX6_kinds_215 (by decide) ?_
                                refine z_icmp_ge C 261 dX6_kinds_217 (by decide) (by omega) (by omega) (fun h217 => ?_) (fun h217 => ?_)
                                · refine z_aload_n C 0 rfl dX6_kinds_261 rfl ?_
                                  refine y_getR C zCl6 6 flX6_13 rfl rfl rfl dX6_kinds_262 ?_
                                  refine z_iload C 4 rfl dX6_kinds_265 ?_
                                  refine z_iload C 5 rfl dX6_kinds_267 ?_
                                  refine y_iast C wn (by omega) rfl (by omega) (by decide) dX6_kinds_269 ?_
                                  refine zZ_cast (σ' := zst (svI I 0 (spR I)) J q)  (by refine congrArg (fun I' => zst I' J q) ?_; rw [zu_zu, show kw = svI I 0 (spR I) 60 wn by rw [svI_n (by decide)]; exact ekw]; exact zu_self) rfl rfl ?_
                                  refine z_iload C 6 rfl dX6_kinds_270 ?_
                                  exact zZ_iret C hR (Nat.le_refl _) (Nat.le_refl _) dX6_kinds_272 rfl (zEx_I (by rw [uR0 (show fKinds (VI I) (VJ I J) s t n w = 0 by (try simp only [decide_eq_true_eq, decide_eq_false_iff_not, bI] at *); (rw [fK_V hgr hrl]; first | exact if_pos (by omega) | (rw [if_neg (by omega)]; first | exact if_pos (by omega) | (rw [if_neg (by omega)]; first | exact if_pos (by omega) | (rw [if_neg (by omega)]; first | exact if_pos (by omega) | (rw [if_neg (by omega)]; first | exact if_pos (hko.trans (by assumption)) | exact if_neg (fun z => by have z2 := hko.symm.trans z; contradiction)))))))]; rw [hst, htt, hnt, hwt, hkN]) ⟨svI I 0 (spR I), frR_sv⟩ (by rw [uK0 (show fKinds (VI I) (VJ I J) s t n w = 0 by (try simp only [decide_eq_true_eq, decide_eq_false_iff_not, bI] at *); (rw [fK_V hgr hrl]; first | exact if_pos (by omega) | (rw [if_neg (by omega)]; first | exact if_pos (by omega) | (rw [if_neg (by omega)]; first | exact if_pos (by omega) | (rw [if_neg (by omega)]; first | exact if_pos (by omega) | (rw [if_neg (by omega)]; first | exact if_pos (hko.trans (by assumption)) | exact if_neg (fun z => by have z2 := hko.symm.trans z; contradiction)))))))]; (first | done | rfl)))
                                · omega
                            · refine z_aload_n C 0 rfl dX6_kinds_186 rfl ?_
                              refine z_bipush C dX6_kinds_187 (by decide) ?_
                              refine y_callV1 C oX6_no iX6_no eX6_no lkX6_83 (c_X6_no (by first | assumption | omega)) rfl (by decide) rfl rfl (by decide) (Nat.le_refl _) (Nat.le_refl _) (Nat.le_of_ble_eq_true rfl) dX6_kinds_189 ?_
                              exact zZ_iret C hR (Nat.le_refl _) (Nat.le_refl _) dX6_kinds_192 rfl (zEx_I (uRc (show fKinds (VI I) (VJ I J) s t n w = -5 by (try simp only [decide_eq_true_eq, decide_eq_false_iff_not, bI] at *); (rw [fK_V hgr hrl]; first | exact if_pos (by omega) | (rw [if_neg (by omega)]; first | exact if_pos (by omega) | (rw [if_neg (by omega)]; first | exact if_pos (by omega) | (rw [if_neg (by omega)]; first | exact if_pos (by omega) | (rw [if_neg (by omega)]; first | exact if_pos (hko.trans (by assumption)) | exact if_neg (fun z => by have z2 := hko.symm.trans z; contradiction))))))) (by decide)).symm ⟨I, frR_rf⟩ (by rw [uKc (show fKinds (VI I) (VJ I J) s t n w = -5 by (try simp only [decide_eq_true_eq, decide_eq_false_iff_not, bI] at *); (rw [fK_V hgr hrl]; first | exact if_pos (by omega) | (rw [if_neg (by omega)]; first | exact if_pos (by omega) | (rw [if_neg (by omega)]; first | exact if_pos (by omega) | (rw [if_neg (by omega)]; first | exact if_pos (by omega) | (rw [if_neg (by omega)]; first | exact if_pos (hko.trans (by assumption)) | exact if_neg (fun z => by have z2 := hko.symm.trans z; contradiction))))))) (by decide)]))
                          · omega
                    · refine z_aload_n C 0 rfl dX6_kinds_112 rfl ?_
                      refine z_bipush C dX6_kinds_113 (by decide) ?_
                      refine y_callV1 C oX6_no iX6_no eX6_no lkX6_83 (c_X6_no (by first | assumption | omega)) rfl (by decide) rfl rfl (by decide) (Nat.le_refl _) (Nat.le_refl _) (Nat.le_of_ble_eq_true rfl) dX6_kinds_115 ?_
                      exact zZ_iret C hR (Nat.le_refl _) (Nat.le_refl _) dX6_kinds_118 rfl (zEx_I (uRc (show fKinds (VI I) (VJ I J) s t n w = -2 by (try simp only [decide_eq_true_eq, decide_eq_false_iff_not, bI] at *); (rw [fK_V hgr hrl]; first | exact if_pos (by omega) | (rw [if_neg (by omega)]; first | exact if_pos (by omega) | (rw [if_neg (by omega)]; first | exact if_pos (by omega) | (rw [if_neg (by omega)]; first | exact if_pos (by omega) | (rw [if_neg (by omega)]; first | exact if_pos (hko.trans (by assumption)) | exact if_neg (fun z => by have z2 := hko.symm.trans z; contradiction))))))) (by decide)).symm ⟨I, frR_rf⟩ (by rw [uKc (show fKinds (VI I) (VJ I J) s t n w = -2 by (try simp only [decide_eq_true_eq, decide_eq_false_iff_not, bI] at *); (rw [fK_V hgr hrl]; first | exact if_pos (by omega) | (rw [if_neg (by omega)]; first | exact if_pos (by omega) | (rw [if_neg (by omega)]; first | exact if_pos (by omega) | (rw [if_neg (by omega)]; first | exact if_pos (by omega) | (rw [if_neg (by omega)]; first | exact if_pos (hko.trans (by assumption)) | exact if_neg (fun z => by have z2 := hko.symm.trans z; contradiction))))))) (by decide)]))
                · refine z_aload_n C 0 rfl dX6_kinds_85 rfl ?_
                  refine z_bipush C dX6_kinds_86 (by decide) ?_
                  refine y_callV1 C oX6_no iX6_no eX6_no lkX6_83 (c_X6_no (by first | assumption | omega)) rfl (by decide) rfl rfl (by decide) (Nat.le_refl _) (Nat.le_refl _) (Nat.le_of_ble_eq_true rfl) dX6_kinds_88 ?_
                  exact zZ_iret C hR (Nat.le_refl _) (Nat.le_refl _) dX6_kinds_91 rfl (zEx_I (uRc (show fKinds (VI I) (VJ I J) s t n w = -4 by (try simp only [decide_eq_true_eq, decide_eq_false_iff_not, bI] at *); (rw [fK_V hgr hrl]; first | exact if_pos (by omega) | (rw [if_neg (by omega)]; first | exact if_pos (by omega) | (rw [if_neg (by omega)]; first | exact if_pos (by omega) | (rw [if_neg (by omega)]; first | exact if_pos (by omega) | (rw [if_neg (by omega)]; first | exact if_pos (hko.trans (by assumption)) | exact if_neg (fun z => by have z2 := hko.symm.trans z; contradiction))))))) (by decide)).symm ⟨I, frR_rf⟩ (by rw [uKc (show fKinds (VI I) (VJ I J) s t n w = -4 by (try simp only [decide_eq_true_eq, decide_eq_false_iff_not, bI] at *); (rw [fK_V hgr hrl]; first | exact if_pos (by omega) | (rw [if_neg (by omega)]; first | exact if_pos (by omega) | (rw [if_neg (by omega)]; first | exact if_pos (by omega) | (rw [if_neg (by omega)]; first | exact if_pos (by omega) | (rw [if_neg (by omega)]; first | exact if_pos (hko.trans (by assumption)) | exact if_neg (fun z => by have z2 := hko.symm.trans z; contradiction))))))) (by decide)]))
            · refine z_aload_n C 0 rfl dX6_kinds_60 rfl ?_
              refine z_bipush C dX6_kinds_61 (by decide) ?_
              refine y_callV1 C oX6_no iX6_no eX6_no lkX6_83 (c_X6_no (by first | assumption | omega)) rfl (by decide) rfl rfl (by decide) (Nat.le_refl _) (Nat.le_refl _) (Nat.le_of_ble_eq_true rfl) dX6_kinds_63 ?_
              exact zZ_iret C hR (Nat.le_refl _) (Nat.le_refl _) dX6_kinds_66 rfl (zEx_I (uRc (show fKinds (VI I) (VJ I J) s t n w = -3 by (try simp only [decide_eq_true_eq, decide_eq_false_iff_not, bI] at *); (rw [fK_V hgr hrl]; first | exact if_pos (by omega) | (rw [if_neg (by omega)]; first | exact if_pos (by omega) | (rw [if_neg (by omega)]; first | exact if_pos (by omega) | (rw [if_neg (by omega)]; first | exact if_pos (by omega) | (rw [if_neg (by omega)]; first | exact if_pos (hko.trans (by assumption)) | exact if_neg (fun z => by have z2 := hko.symm.trans z; contradiction))))))) (by decide)).symm ⟨I, frR_rf⟩ (by rw [uKc (show fKinds (VI I) (VJ I J) s t n w = -3 by (try simp only [decide_eq_true_eq, decide_eq_false_iff_not, bI] at *); (rw [fK_V hgr hrl]; first | exact if_pos (by omega) | (rw [if_neg (by omega)]; first | exact if_pos (by omega) | (rw [if_neg (by omega)]; first | exact if_pos (by omega) | (rw [if_neg (by omega)]; first | exact if_pos (by omega) | (rw [if_neg (by omega)]; first | exact if_pos (hko.trans (by assumption)) | exact if_neg (fun z => by have z2 := hko.symm.trans z; contradiction))))))) (by decide)]))
        · refine z_aload_n C 0 rfl dX6_kinds_33 rfl ?_
          refine z_bipush C dX6_kinds_34 (by decide) ?_
          refine y_callV1 C oX6_no iX6_no eX6_no lkX6_83 (c_X6_no (by first | assumption | omega)) rfl (by decide) rfl rfl (by decide) (Nat.le_refl _) (Nat.le_refl _) (Nat.le_of_ble_eq_true rfl) dX6_kinds_36 ?_
          exact zZ_iret C hR (Nat.le_refl _) (Nat.le_refl _) dX6_kinds_39 rfl (zEx_I (uRc (show fKinds (VI I) (VJ I J) s t n w = -2 by (try simp only [decide_eq_true_eq, decide_eq_false_iff_not, bI] at *); (rw [fK_V hgr hrl]; first | exact if_pos (by omega) | (rw [if_neg (by omega)]; first | exact if_pos (by omega) | (rw [if_neg (by omega)]; first | exact if_pos (by omega) | (rw [if_neg (by omega)]; first | exact if_pos (by omega) | (rw [if_neg (by omega)]; first | exact if_pos (hko.trans (by assumption)) | exact if_neg (fun z => by have z2 := hko.symm.trans z; contradiction))))))) (by decide)).symm ⟨I, frR_rf⟩ (by rw [uKc (show fKinds (VI I) (VJ I J) s t n w = -2 by (try simp only [decide_eq_true_eq, decide_eq_false_iff_not, bI] at *); (rw [fK_V hgr hrl]; first | exact if_pos (by omega) | (rw [if_neg (by omega)]; first | exact if_pos (by omega) | (rw [if_neg (by omega)]; first | exact if_pos (by omega) | (rw [if_neg (by omega)]; first | exact if_pos (by omega) | (rw [if_neg (by omega)]; first | exact if_pos (hko.trans (by assumption)) | exact if_neg (fun z => by have z2 := hko.symm.trans z; contradiction))))))) (by decide)]))
