set_option maxHeartbeats 4000000 in
set_option maxRecDepth 100000 in
theorem c_X6_doneAll {g : zG} {I : Nat → Nat → Int} {J : Nat → Nat → Int64} {q : Nat × Nat} {s n : Nat} (hgr : gR I) (hrs : gRS (spR I)) (hdo : openN (I 58 0) (maskW (I 59)) (I 58 3) = true) (hs : s < 8) (hn : n ≤ 40) : zRun g mX6_doneAll 6 [.ref 58, .int (iI ((s : Int))), .int (iI ((n : Int)))] (zst I J q) (some (.int (iI (dnR I J s n)))) (zst (zRq I (runS (hvR I) (spR I) (tdF J s) (dnK I J s n))) J q) := by
  obtain ⟨b1, b2, b3, b4, b5, b6, b7⟩ := id hgr
  obtain ⟨k1, k2, k3⟩ := id hrs
  have k1 : gC7 (I 58 3) := k1
  have k2 : 0 ≤ I 58 4 ∧ I 58 4 ≤ 4 := k2
  have k3 : ∀ e, e < 5 → gC7 (I 62 e) := k3
  have k1' := k1.1
  have b2' := b2.1
  refine zRuns_intro rfl (Nat.le_of_ble_eq_true rfl) (fun X C hR => ?_)
  show zZ g X 0 0 _ 0 [(0, .ref 58), (1, .int (iI ((s : Int)))), (2, .int (iI ((n : Int))))] []
  refine z_iconst C dX6_doneAll_0 ?_
  refine z_istore_n C [(3, .int (iI 0)), (0, .ref 58), (1, .int (iI ((s : Int)))), (2, .int (iI ((n : Int))))] dX6_doneAll_1 rfl (by decide) rfl ?_
  refine zZ_sub [1, 2, 3, 0] rfl ?_
  refine zZ_cast (σ' := (fun e : Nat => zst (zRq I (runS (hvR I) (spR I) (tdF J s) e)) J q) 0) (L' := (fun e : Nat => [(0, .ref 58), (1, .int (iI ((s : Int)))), (2, .int (iI ((n : Int)))), (3, .int (iI (e : Int)))]) 0) (congrArg (fun I' => zst I' J q) zRq_self.symm) rfl rfl ?_
  refine zfor (n) (fun e => firstN (dnP I J s) e = none) (fun e : Nat => zst (zRq I (runS (hvR I) (spR I) (tdF J s) e)) J q) (fun e : Nat => [(0, .ref 58), (1, .int (iI ((s : Int)))), (2, .int (iI ((n : Int)))), (3, .int (iI (e : Int)))]) rfl ?_ ?_
  · intro e hee hpe kke
    have hrk := run_ok (p := spR I) hgr hrs hdo e (dn_cmd hpe)
    obtain ⟨p, hp⟩ : ∃ p, p = runS (hvR I) (spR I) (tdF J s) e := ⟨_, rfl⟩
    have htd : tdF J s e = (J 66 (40 * s + e)).toInt := rfl
    rw [← hp] at hrk ⊢
    refine z_iload_n C 3 rfl dX6_doneAll_2 rfl ?_
    refine z_iload_n C 2 rfl dX6_doneAll_3 rfl ?_
    refine z_icmp_ge C 64 dX6_doneAll_4 (by decide) (by omega) (by omega) (fun h4 => ?_) (fun h4 => ?_)
    · omega
    · refine z_aload_n C 0 rfl dX6_doneAll_7 rfl ?_
      refine z_iload_n C 1 rfl dX6_doneAll_8 rfl ?_
      refine z_iload_n C 3 rfl dX6_doneAll_9 rfl ?_
      refine y_callV2 C oX6_toldAt iX6_toldAt eX6_toldAt lkX6_256 (c_X6_toldAt (by first | assumption | omega) (by first | assumption | omega)) rfl (by decide) rfl rfl (by decide) (Nat.le_refl _) (Nat.le_refl _) (Nat.le_of_ble_eq_true rfl) dX6_doneAll_10 ?_
      refine z_lconst C 0 dX6_doneAll_13 rfl ?_
      refine z_lcmp_lt C 45 dX6_doneAll_14 dX6_doneAll_15 (by decide) (fun h14 => ?_) (fun h14 => ?_)
      · refine z_iload_n C 3 rfl dX6_doneAll_45 rfl ?_
        exact zZ_iret C hR (Nat.le_refl _) (Nat.le_refl _) dX6_doneAll_46 rfl (zIs_I (by unfold dnR; rw [firstN_some hee hpe (by unfold dnP isCmd; rw [i64lt] at h14; have h14 : (J 66 (40 * s + e)).toInt < 0 := h14; rw [decide_eq_false (show ¬ (0 ≤ (J 66 (40 * s + e)).toInt ∧ (J 66 (40 * s + e)).toInt < 5) by omega)]; rfl)]) (by unfold dnK; rw [firstN_some hee hpe (by unfold dnP isCmd; rw [i64lt] at h14; have h14 : (J 66 (40 * s + e)).toInt < 0 := h14; rw [decide_eq_false (show ¬ (0 ≤ (J 66 (40 * s + e)).toInt ∧ (J 66 (40 * s + e)).toInt < 5) by omega)]; rfl), hp]; rfl))
      · refine z_aload_n C 0 rfl dX6_doneAll_18 rfl ?_
        refine z_iload_n C 1 rfl dX6_doneAll_19 rfl ?_
        refine z_iload_n C 3 rfl dX6_doneAll_20 rfl ?_
        refine y_callV2 C oX6_toldAt iX6_toldAt eX6_toldAt lkX6_256 (c_X6_toldAt (by first | assumption | omega) (by first | assumption | omega)) rfl (by decide) rfl rfl (by decide) (Nat.le_refl _) (Nat.le_refl _) (Nat.le_of_ble_eq_true rfl) dX6_doneAll_21 ?_
        refine z_ldc2 C 4 dX6_doneAll_24 kcX6_260 ?_
        refine z_lcmp_gt C 45 dX6_doneAll_27 dX6_doneAll_28 (by decide) (fun h27 => ?_) (fun h27 => ?_)
        · refine z_iload_n C 3 rfl dX6_doneAll_45 rfl ?_
          exact zZ_iret C hR (Nat.le_refl _) (Nat.le_refl _) dX6_doneAll_46 rfl (zIs_I (by unfold dnR; rw [firstN_some hee hpe (by unfold dnP isCmd; rw [i64lt] at h27; have h27 : 4 < (J 66 (40 * s + e)).toInt := h27; rw [decide_eq_false (show ¬ (0 ≤ (J 66 (40 * s + e)).toInt ∧ (J 66 (40 * s + e)).toInt < 5) by omega)]; rfl)]) (by unfold dnK; rw [firstN_some hee hpe (by unfold dnP isCmd; rw [i64lt] at h27; have h27 : 4 < (J 66 (40 * s + e)).toInt := h27; rw [decide_eq_false (show ¬ (0 ≤ (J 66 (40 * s + e)).toInt ∧ (J 66 (40 * s + e)).toInt < 5) by omega)]; rfl), hp]; rfl))
        · rw [i64lt] at h14 h27
          have h14 : ¬ (J 66 (40 * s + e)).toInt < 0 := h14
          have h27 : ¬ 4 < (J 66 (40 * s + e)).toInt := h27
          have hcm : isCmd (J 66 (40 * s + e)) = true := by unfold isCmd; exact decide_eq_true (by omega)
          obtain ⟨k4, hk4⟩ : ∃ k : Nat, (J 66 (40 * s + e)).toInt = k := ⟨(J 66 (40 * s + e)).toInt.toNat, by omega⟩
          refine z_aload_n C 0 rfl dX6_doneAll_31 rfl ?_
          refine z_aload_n C 0 rfl dX6_doneAll_32 rfl ?_
          refine z_iload_n C 1 rfl dX6_doneAll_33 rfl ?_
          refine z_iload_n C 3 rfl dX6_doneAll_34 rfl ?_
          refine y_callV2 C oX6_toldAt iX6_toldAt eX6_toldAt lkX6_256 (c_X6_toldAt (by first | assumption | omega) (by first | assumption | omega)) rfl (by decide) rfl rfl (by decide) (Nat.le_refl _) (Nat.le_refl _) (Nat.le_of_ble_eq_true rfl) dX6_doneAll_35 ?_
          refine z_l2i C (J 66 (40 * s + e)).toInt dX6_doneAll_38 (l2i_eq _) ?_
          rw [hk4]
          refine y_callV1 C oX6_can iX6_can eX6_can lkX6_232 (c_X6_can (gR_q hgr) hrk.1 (by first | assumption | omega)) rfl (by decide) rfl rfl (by decide) (Nat.le_refl _) (Nat.le_refl _) (Nat.le_of_ble_eq_true rfl) dX6_doneAll_39 ?_
          refine z_top C (bI (canN (I 58 0) (maskW (I 59)) (I 58 2) p.1 (k4 : Int))) (by rw [zRq_k (by decide) (by decide), zRq_k (by decide) (by decide), zRq_n (by decide) (by decide), zRq_3]) ?_
          refine y_if_neB C 47 dX6_doneAll_42 (by decide) (fun h42 => ?_) (fun h42 => ?_)
          · refine z_aload_n C 0 rfl dX6_doneAll_47 rfl ?_
            refine z_aload_n C 0 rfl dX6_doneAll_48 rfl ?_
            refine z_iload_n C 1 rfl dX6_doneAll_49 rfl ?_
            refine z_iload_n C 3 rfl dX6_doneAll_50 rfl ?_
            refine y_callV2 C oX6_toldAt iX6_toldAt eX6_toldAt lkX6_256 (c_X6_toldAt (by first | assumption | omega) (by first | assumption | omega)) rfl (by decide) rfl rfl (by decide) (Nat.le_refl _) (Nat.le_refl _) (Nat.le_of_ble_eq_true rfl) dX6_doneAll_51 ?_
            refine z_l2i C (J 66 (40 * s + e)).toInt dX6_doneAll_54 (l2i_eq _) ?_
            rw [hk4]
            refine y_callV1 C oX6_goes iX6_goes eX6_goes lkX6_238 (c_X6_goes (gR_q hgr) hrk.1 (by rw [zRq_k (by decide) (by decide), zRq_n (by decide) (by decide), zRq_3]; exact hrk.2) (by first | assumption | omega)) rfl (by decide) rfl rfl (by decide) (Nat.le_refl _) (Nat.le_refl _) (Nat.le_of_ble_eq_true rfl) dX6_doneAll_55 ?_
            obtain ⟨v1, ev1⟩ : ∃ y : Int, y = (e : Int) + 1 := ⟨_, rfl⟩
            refine z_iinc C 3 v1 [(3, .int (iI v1)), (0, .ref 58), (1, .int (iI ((s : Int)))), (2, .int (iI ((n : Int))))] dX6_doneAll_58 rfl ev1.symm (by decide) rfl ?_
            refine z_goto C 2 dX6_doneAll_61 (by decide) ?_
            refine zZ_sub [1, 2, 3, 0] rfl ?_
            refine zZ_cast (by refine congrArg (fun I' => zst I' J q) ?_; rw [zRq_zRq, hvR_q, zRq_sp, hp, ← hk4]; rfl) (zLk (zLk (zLk (zLc (by omega) rfl)))) rfl (kke (by simp only [firstN, hpe]; rw [if_neg (by unfold dnP; rw [← hp, hcm, htd, hk4, h42]; decide)]))
          · refine z_iload_n C 3 rfl dX6_doneAll_45 rfl ?_
            exact zZ_iret C hR (Nat.le_refl _) (Nat.le_refl _) dX6_doneAll_46 rfl (zIs_I (by unfold dnR; rw [firstN_some hee hpe (by unfold dnP; rw [← hp, hcm, htd, hk4, h42]; rfl)]) (by unfold dnK; rw [firstN_some hee hpe (by unfold dnP; rw [← hp, hcm, htd, hk4, h42]; rfl), hp]; rfl))
  · intro hpe
    refine z_iload_n C 3 rfl dX6_doneAll_2 rfl ?_
    refine z_iload_n C 2 rfl dX6_doneAll_3 rfl ?_
    refine z_icmp_ge C 64 dX6_doneAll_4 (by decide) (by omega) (by omega) (fun h4 => ?_) (fun h4 => ?_)
    · refine z_iconst C dX6_doneAll_64 ?_
      exact zZ_iret C hR (Nat.le_refl _) (Nat.le_refl _) dX6_doneAll_65 rfl (zIs_I (by unfold dnR; rw [hpe]) (by unfold dnK; rw [hpe]; rfl))
    · omega
