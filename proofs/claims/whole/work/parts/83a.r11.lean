set_option maxHeartbeats 4000000 in
set_option maxRecDepth 100000 in
theorem c_X6_isSo {g : zG} {I : Nat → Nat → Int} {J : Nat → Nat → Int64} {q : Nat × Nat} {sn tn nn wn : Nat} (hgr : gR I) (hrs : gRS (spR I)) (hs : sn < 8) (ht : tn < 8) (hn : nn ≤ 40) (hw : wn < 5) (hf : ∀ k, k < nn → gC7 (roF J sn k).toInt) (hh : ∀ k, k < nn → gC7 (roF J tn k).toInt) : zRuns g mX6_isSo 6 0 0 [.ref 58, .int (iI ((sn : Int))), .int (iI ((tn : Int))), .int (iI ((nn : Int))), .int (iI ((wn : Int)))] (zst I J q) (zEx (some (.int (iI (bI (goesN (hvR I) (I 62) wn (I 60 wn) (roF J sn) (roF J tn) nn))))) (fun p : SP => zst (zRq I p) J q)) := by
  obtain ⟨b1, b2, b3, b4, b5, b6, b7⟩ := id hgr
  obtain ⟨k1, k2, k3⟩ := id hrs
  have k1 : gC7 (I 58 3) := k1
  have k2 : 0 ≤ I 58 4 ∧ I 58 4 ≤ 4 := k2
  have k3 : ∀ e, e < 5 → gC7 (I 62 e) := k3
  have k1' := k1.1
  have b2' := b2.1
  have hkw := b5 wn hw
  have hsp := fun k (hk : k ≤ nn) => sogo7 (H := hvR I) (w := wn) (kd := I 60 wn) (f := roF J sn) k3 hh k hk
  refine zRuns_intro rfl (Nat.le_of_ble_eq_true rfl) (fun X C hR => ?_)
  show zZ g X 0 0 _ 0 [(0, .ref 58), (1, .int (iI ((sn : Int)))), (2, .int (iI ((tn : Int)))), (3, .int (iI ((nn : Int)))), (4, .int (iI ((wn : Int))))] []
  refine z_iconst C dX6_isSo_0 ?_
  refine z_istore C [(5, .int (iI 0)), (0, .ref 58), (1, .int (iI ((sn : Int)))), (2, .int (iI ((tn : Int)))), (3, .int (iI ((nn : Int)))), (4, .int (iI ((wn : Int))))] dX6_isSo_1 (by decide) rfl ?_
  refine zZ_sub [1, 2, 3, 4, 5, 0] rfl ?_
  refine zZ_cast (σ' := (fun (e : Nat) (dd : Int) => zst (zRq I (dd, I 58 4, sogoP (hvR I) (I 62) wn (I 60 wn) (roF J sn) (roF J tn) e)) J q) 0 (I 58 3)) (L' := (fun (e : Nat) (dd : Int) => [(0, .ref 58), (1, .int (iI ((sn : Int)))), (2, .int (iI ((tn : Int)))), (3, .int (iI ((nn : Int)))), (4, .int (iI ((wn : Int)))), (5, .int (iI (e : Int)))]) 0 (I 58 3)) (congrArg (fun I' => zst I' J q) zRq_self.symm) rfl rfl ?_
  refine zforE (nn) (fun e _ => firstN (fun k => !sogoN (hvR I) (I 62) wn (I 60 wn) (roF J sn) (roF J tn) k) e = none) (fun (e : Nat) (dd : Int) => zst (zRq I (dd, I 58 4, sogoP (hvR I) (I 62) wn (I 60 wn) (roF J sn) (roF J tn) e)) J q) (fun (e : Nat) (dd : Int) => [(0, .ref 58), (1, .int (iI ((sn : Int)))), (2, .int (iI ((tn : Int)))), (3, .int (iI ((nn : Int)))), (4, .int (iI ((wn : Int)))), (5, .int (iI (e : Int)))]) (I 58 3) rfl ?_ ?_
  · intro e dd hee hpe kke
    have hfe := hf e hee
    have hfe : gC7 (J 66 (40 * sn + e)).toInt := hfe
    have hhe := hh e hee
    have hhe : gC7 (J 66 (40 * tn + e)).toInt := hhe
    have hse := hsp e (by omega)
    have hse2 := hse wn hw
    have hfr := hfe.1
    refine z_iload C 5 rfl dX6_isSo_3 ?_
    refine z_iload_n C 3 rfl dX6_isSo_5 rfl ?_
    refine z_icmp_ge C 54 dX6_isSo_6 (by decide) (by omega) (by omega) (fun h6 => ?_) (fun h6 => ?_)
    · omega
    · refine z_aload_n C 0 rfl dX6_isSo_9 rfl ?_
      refine z_aload_n C 0 rfl dX6_isSo_10 rfl ?_
      refine z_iload_n C 1 rfl dX6_isSo_11 rfl ?_
      refine z_iload C 5 rfl dX6_isSo_12 ?_
      refine y_callV2 C oX6_toldAt iX6_toldAt eX6_toldAt lkX6_256 (c_X6_toldAt (by first | assumption | omega) (by first | assumption | omega)) rfl (by decide) rfl rfl (by decide) (Nat.le_refl _) (Nat.le_refl _) (Nat.le_of_ble_eq_true rfl) dX6_isSo_14 ?_
      refine z_l2i C (J 66 (40 * sn + e)).toInt dX6_isSo_17 (l2i_eq _) ?_
      refine y_putI C zCl6 3 flX6_61 rfl rfl rfl rfl dX6_isSo_18 ?_
      refine zZ_cast (σ' := zst (zRq I ((J 66 (40 * sn + e)).toInt, I 58 4, sogoP (hvR I) (I 62) wn (I 60 wn) (roF J sn) (roF J tn) e)) J q)  (by refine congrArg (fun I' => zst I' J q) ?_; exact zRq_p3) rfl rfl ?_
      refine z_aload_n C 0 rfl dX6_isSo_21 rfl ?_
      refine z_iload C 4 rfl dX6_isSo_22 ?_
      refine y_callV1 C oX6_eweGoes iX6_eweGoes eX6_eweGoes lkX6_108 (c_X6_eweGoes (gR_q hgr) ⟨hfe, k2, hse⟩ (by first | assumption | omega)) rfl (by decide) rfl rfl (by decide) (Nat.le_refl _) (Nat.le_refl _) (Nat.le_of_ble_eq_true rfl) dX6_isSo_24 ?_
      refine zZ_cast (σ' := zst (zRq I ((J 66 (40 * sn + e)).toInt, I 58 4, up1 (sogoP (hvR I) (I 62) wn (I 60 wn) (roF J sn) (roF J tn) e) wn (goalN (hvR I) (J 66 (40 * sn + e)).toInt (sogoP (hvR I) (I 62) wn (I 60 wn) (roF J sn) (roF J tn) e) wn (I 60 wn)))) J q)  (by refine congrArg (fun I' => zst I' J q) ?_; rw [zRq_zRq, hvR_q]; rfl) rfl rfl ?_
      obtain ⟨go, ego⟩ : ∃ go, go = goalN (hvR I) (J 66 (40 * sn + e)).toInt (sogoP (hvR I) (I 62) wn (I 60 wn) (roF J sn) (roF J tn) e) wn (I 60 wn) := ⟨_, rfl⟩
      have hgr2 := goalN_7 (H := hvR I) (dog := (J 66 (40 * sn + e)).toInt) (C := sogoP (hvR I) (I 62) wn (I 60 wn) (roF J sn) (roF J tn) e) (w := wn) (kd := I 60 wn) b1.2 hse2
      rw [← ego] at hgr2 ⊢
      have hgr3 := hgr2.1
      refine z_aload_n C 0 rfl dX6_isSo_27 rfl ?_
      refine y_getR C zCl6 8 flX6_20 rfl rfl rfl dX6_isSo_28 ?_
      refine z_iload C 4 rfl dX6_isSo_31 ?_
      refine y_iald C wn (by omega) rfl (by omega) (by decide) dX6_isSo_33 ?_
      refine z_top C (go) (up1_s) ?_
      refine z_i2l C ((iI go).toInt64) dX6_isSo_34 rfl ?_
      refine z_aload_n C 0 rfl dX6_isSo_35 rfl ?_
      refine z_iload_n C 2 rfl dX6_isSo_36 rfl ?_
      refine z_iload C 5 rfl dX6_isSo_37 ?_
      refine y_callV2 C oX6_toldAt iX6_toldAt eX6_toldAt lkX6_256 (c_X6_toldAt (by first | assumption | omega) (by first | assumption | omega)) rfl (by decide) rfl rfl (by decide) (Nat.le_refl _) (Nat.le_refl _) (Nat.le_of_ble_eq_true rfl) dX6_isSo_39 ?_
      refine z_lcmp_eq C 48 dX6_isSo_42 dX6_isSo_43 (by decide) (fun h42 => ?_) (fun h42 => ?_)
      · obtain ⟨v1, ev1⟩ : ∃ y : Int, y = (e : Int) + 1 := ⟨_, rfl⟩
        refine z_iinc C 5 v1 [(5, .int (iI v1)), (0, .ref 58), (1, .int (iI ((sn : Int)))), (2, .int (iI ((tn : Int)))), (3, .int (iI ((nn : Int)))), (4, .int (iI ((wn : Int))))] dX6_isSo_48 rfl ev1.symm (by decide) rfl ?_
        refine z_goto C 3 dX6_isSo_51 (by decide) ?_
        refine zZ_sub [1, 2, 3, 4, 5, 0] rfl ?_
        have hgoe : go = (J 66 (40 * tn + e)).toInt := by rw [← h42]; exact (i2l_toInt (by omega)).symm
        refine zZ_cast (by refine congrArg (fun I' => zst I' J q) ?_; rw [hgoe]; rfl) (zLk (zLk (zLk (zLk (zLk (zLc (by omega) rfl)))))) rfl (kke (J 66 (40 * sn + e)).toInt (by simp only [firstN, hpe]; rw [if_neg]; simp only [sogoN]; rw [show goalN (hvR I) (roF J sn e).toInt (sogoP (hvR I) (I 62) wn (I 60 wn) (roF J sn) (roF J tn) e) wn (I 60 wn) = (roF J tn e).toInt from ego.symm.trans hgoe]; simp))
      · refine z_iconst C dX6_isSo_46 ?_
        exact zZ_zret C hR (Nat.le_refl _) (Nat.le_refl _) dX6_isSo_47 rfl (Or.inl rfl) (zEx_I (by unfold goesN; rw [firstN_some hee hpe (by simp only [sogoN]; rw [show goalN (hvR I) (roF J sn e).toInt (sogoP (hvR I) (I 62) wn (I 60 wn) (roF J sn) (roF J tn) e) wn (I 60 wn) = go from ego.symm]; simp; intro hz; exact h42 (Int64.toInt_inj.mp ((i2l_toInt (by omega)).trans hz)))]; rfl) _ rfl)
  · intro dd hpe
    refine z_iload C 5 rfl dX6_isSo_3 ?_
    refine z_iload_n C 3 rfl dX6_isSo_5 rfl ?_
    refine z_icmp_ge C 54 dX6_isSo_6 (by decide) (by omega) (by omega) (fun h6 => ?_) (fun h6 => ?_)
    · refine z_iconst C dX6_isSo_54 ?_
      exact zZ_zret C hR (Nat.le_refl _) (Nat.le_refl _) dX6_isSo_55 rfl (Or.inr rfl) (zEx_I (by unfold goesN; rw [hpe]; rfl) (dd, I 58 4, sogoP (hvR I) (I 62) wn (I 60 wn) (roF J sn) (roF J tn) nn) rfl)
    · omega
