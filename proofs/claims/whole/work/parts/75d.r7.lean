set_option maxHeartbeats 4000000 in
set_option maxRecDepth 100000 in
theorem c_X6_stand {g : zG} {I : Nat → Nat → Int} {J : Nat → Nat → Int64} {q : Nat × Nat}  (hgr : gR I) (hrs : gRS (spR I)) (hdo : openN (I 58 0) (maskW (I 59)) (I 58 3) = true) : zRun g mX6_stand 7 [.ref 58] (zst I J q) (some (.int (iI ((leastF (sdP I) (sdV I) 67).1)))) (zst (svI I 0 (spR I)) J q) := by
  obtain ⟨b1, b2, b3, b4, b5, b6, b7⟩ := id hgr
  obtain ⟨k1, k2, k3⟩ := id hrs
  have k1 : gC7 (I 58 3) := k1
  have k2 : 0 ≤ I 58 4 ∧ I 58 4 ≤ 4 := k2
  have k3 : ∀ e, e < 5 → gC7 (I 62 e) := k3
  have k1' := k1.1
  have b2' := b2.1
  obtain ⟨P, hP⟩ : ∃ P, P = sdP I := ⟨_, rfl⟩
  obtain ⟨V, hV⟩ : ∃ V, V = sdV I := ⟨_, rfl⟩
  rw [← hP, ← hV]
  have sz : svI I 0 (spR I) 59 = I 59 ∧ svI I 0 (spR I) 58 = I 58 := ⟨svI_n (by decide), svI_n (by decide)⟩
  refine zRuns_intro rfl (Nat.le_of_ble_eq_true rfl) (fun X C hR => ?_)
  show zZ g X 0 0 _ 0 [(0, .ref 58)] []
  refine z_iconst C dX6_stand_0 ?_
  refine z_istore_n C [(1, .int (iI ((-1)))), (0, .ref 58)] dX6_stand_1 rfl (by decide) rfl ?_
  refine z_iconst C dX6_stand_2 ?_
  refine z_istore_n C [(2, .int (iI 0)), (1, .int (iI ((-1)))), (0, .ref 58)] dX6_stand_3 rfl (by decide) rfl ?_
  refine z_aload_n C 2 rfl dX6_stand_4 rfl ?_
  refine z_iconst C dX6_stand_5 ?_
  refine z_top C (((0 : Nat) : Int)) (rfl) ?_
  refine y_callV1 C oX6_saves iX6_saves eX6_saves lkX6_104 (c_X6_saves (by first | assumption | omega)) rfl (by decide) rfl rfl (by decide) (Nat.le_refl _) (Nat.le_refl _) (Nat.le_of_ble_eq_true rfl) dX6_stand_6 ?_
  refine z_iconst C dX6_stand_9 ?_
  refine z_istore_n C [(3, .int (iI 0)), (2, .int (iI 0)), (1, .int (iI ((-1)))), (0, .ref 58)] dX6_stand_10 rfl (by decide) rfl ?_
  refine zZ_sub [3, 2, 1, 0] rfl ?_
  refine zZ_cast (σ' := (fun _ : Nat => zst (svI I 0 (spR I)) J q) 0) (L' := (fun e : Nat => [(0, .ref 58), (1, .int (iI (leastF P V e).1)), (2, .int (iI (leastF P V e).2)), (3, .int (iI (e : Int)))]) 0) rfl rfl rfl ?_
  refine zfor (67) (fun _ => True) (fun _ : Nat => zst (svI I 0 (spR I)) J q) (fun e : Nat => [(0, .ref 58), (1, .int (iI (leastF P V e).1)), (2, .int (iI (leastF P V e).2)), (3, .int (iI (e : Int)))]) trivial ?_ ?_
  · intro e hee hpe kke
    have hr := leastF_r (P := P) (v := V) (k := e) (by omega) (fun c hc hPc => by rw [hV]; have hq : gC7 ((c : Nat) : Int) := (by rw [hP] at hPc; simp only [sdP, dogsN, Bool.and_eq_true] at hPc; exact gC7_o b1.2 hPc.2); have := penR_b hgr (gRS_turn hgr (p := ((c : Int), I 58 4, I 62)) ⟨hq, k2, k3⟩ (c := 0) (by decide)).2.2; unfold sdV; omega)
    obtain ⟨nr, ls, hnl⟩ : ∃ nr ls, leastF P V e = (nr, ls) := ⟨_, _, rfl⟩
    rw [hnl] at hr ⊢
    simp only at hr
    refine z_iload_n C 3 rfl dX6_stand_11 rfl ?_
    refine z_bipush C dX6_stand_12 (by decide) ?_
    refine z_icmp_ge C 83 dX6_stand_14 (by decide) (by omega) (by omega) (fun h14 => ?_) (fun h14 => ?_)
    · omega
    · refine z_aload_n C 0 rfl dX6_stand_17 rfl ?_
      refine z_iload_n C 3 rfl dX6_stand_18 rfl ?_
      refine z_i2l C (iI (e : Int)).toInt64 dX6_stand_19 rfl ?_
      refine y_callV1 C oX6_isCell iX6_isCell eX6_isCell lkX6_128 (c_X6_isCell (gR_sv hgr)) rfl (by decide) rfl rfl (by decide) (Nat.le_refl _) (Nat.le_refl _) (Nat.le_of_ble_eq_true rfl) dX6_stand_20 ?_
      refine z_top C (bI (isCellN (I 58 0) (e : Int))) (by rw [i2l_toInt (by omega), svI_n (by decide)]) ?_
      refine y_if_eqB C 77 dX6_stand_23 (by decide) (fun h23 => ?_) (fun h23 => ?_)
      · have hPf : P e = false := by rw [hP]; unfold sdP; rw [dogs_c, h23]; rfl
        obtain ⟨v1, ev1⟩ : ∃ y : Int, y = (e : Int) + 1 := ⟨_, rfl⟩
        refine z_iinc C 3 v1 [(3, .int (iI v1)), (0, .ref 58), (1, .int (iI nr)), (2, .int (iI ls))] dX6_stand_77 rfl ev1.symm (by decide) rfl ?_
        refine z_goto C 11 dX6_stand_80 (by decide) ?_
        refine zZ_sub [1, 2, 3, 0] rfl ?_
        refine zZ_cast rfl (zLk (zLc (by simp only [leastF, hnl]; rw [if_neg (fun z => absurd (z.1.symm.trans hPf) (by decide))]) (zLc (by simp only [leastF, hnl]; rw [if_neg (fun z => absurd (z.1.symm.trans hPf) (by decide))]) (zLc (by omega) rfl)))) rfl (kke trivial)
      · have hc7 := gC7_of b1.2 h23
        have hc7r := hc7.1
        refine z_aload_n C 0 rfl dX6_stand_26 rfl ?_
        refine z_iload_n C 3 rfl dX6_stand_27 rfl ?_
        refine y_callV1 C oX6_mayDog iX6_mayDog eX6_mayDog lkX6_142 (c_X6_mayDog (gR_sv hgr) (by rw [spR_sv]; exact hrs) hc7) rfl (by decide) rfl rfl (by decide) (Nat.le_refl _) (Nat.le_refl _) (Nat.le_of_ble_eq_true rfl) dX6_stand_28 ?_
        refine z_top C (bI (!wallL (maskW (I 59)) (e : Int) && !decide ((e : Int) = I 58 2))) (by rw [sz.1, sz.2]) ?_
        refine y_if_neB C 37 dX6_stand_31 (by decide) (fun h31 => ?_) (fun h31 => ?_)
        · have hPt : P e = true := by rw [hP]; unfold sdP; rw [dogs_c, h23]; exact h31
          have hrc : gRS ((e : Int), I 58 4, I 62) := ⟨hc7, k2, k3⟩
          have hdc : openN (I 58 0) (maskW (I 59)) (e : Int) = true := by have h := hPt; rw [hP] at h; simp only [sdP, dogsN, Bool.and_eq_true] at h; exact h.2
          have hrt := gRS_turn hgr hrc (c := 0) (by decide)
          have hVb : 0 ≤ V e ∧ V e ≤ 90 := by rw [hV]; exact penR_b hgr hrt.2.2
          refine z_aload_n C 0 rfl dX6_stand_37 rfl ?_
          refine z_iload_n C 3 rfl dX6_stand_38 rfl ?_
          refine y_putI C zCl6 3 flX6_61 rfl rfl rfl rfl dX6_stand_39 ?_
          refine zZ_cast (σ' := zst (zRq (svI I 0 (spR I)) ((e : Int), I 58 4, I 62)) J q)  (by refine congrArg (fun I' => zst I' J q) ?_; rw [zu583, sz.2, svI_n (by decide)]) rfl rfl ?_
          refine z_aload_n C 0 rfl dX6_stand_42 rfl ?_
          refine z_iconst C dX6_stand_43 ?_
          refine z_top C (((0 : Nat) : Int)) (rfl) ?_
          refine y_callV1 C oX6_goes iX6_goes eX6_goes lkX6_238 (c_X6_goes (gR_q (gR_sv hgr)) hrc (by rw [zRq_k (by decide) (by decide), zRq_n (by decide) (by decide), zRq_3, sz.1, sz.2]; exact hdc) (by decide)) rfl (by decide) rfl rfl (by decide) (Nat.le_refl _) (Nat.le_refl _) (Nat.le_of_ble_eq_true rfl) dX6_stand_44 ?_
          refine zZ_cast (σ' := zst (zRq (svI I 0 (spR I)) (turnS (hvR I) ((e : Int), I 58 4, I 62) 0)) J q)  (by refine congrArg (fun I' => zst I' J q) ?_; rw [zRq_zRq, hvR_q, hvR_sv]; rfl) rfl rfl ?_
          refine z_aload_n C 0 rfl dX6_stand_47 rfl ?_
          refine y_callV0 C oX6_allSteps iX6_allSteps eX6_allSteps lkX6_250 (c_X6_allSteps (gR_q (gR_sv hgr)) hrt) rfl (by decide) rfl rfl (by decide) (Nat.le_refl _) (Nat.le_refl _) (Nat.le_of_ble_eq_true rfl) dX6_stand_48 ?_
          refine z_top C (V e) (by rw [hvR_q, hvR_sv, hV]; rfl) ?_
          refine z_topI C (fun is eis => ?_)
          refine z_istore C [(4, .int (iI is)), (0, .ref 58), (1, .int (iI nr)), (2, .int (iI ls)), (3, .int (iI ((e : Int))))] dX6_stand_51 (by decide) rfl ?_
          refine z_aload_n C 1 rfl dX6_stand_53 rfl ?_
          refine z_iconst C dX6_stand_54 ?_
          refine z_top C (((0 : Nat) : Int)) (rfl) ?_
          refine y_callV1 C oX6_again iX6_again eX6_again lkX6_111 (c_X6_again (by first | assumption | omega) (svAt_q svAt_sv)) rfl (by decide) rfl rfl (by decide) (Nat.le_refl _) (Nat.le_refl _) (Nat.le_of_ble_eq_true rfl) dX6_stand_55 ?_
          refine zZ_cast (σ' := zst (svI I 0 (spR I)) J q)  (by refine congrArg (fun I' => zst I' J q) ?_; rw [zRq_zRq]; exact zRq_svs) rfl rfl ?_
          refine z_iload_n C 2 rfl dX6_stand_58 rfl ?_
          refine z_iconst C dX6_stand_59 ?_
          refine z_icmp_eq C 72 dX6_stand_60 (by decide) (by omega) (by omega) (fun h60 => ?_) (fun h60 => ?_)
          · refine z_iload C 0 rfl dX6_stand_72 ?_
            refine z_istore_n C [(2, .int (iI is)), (4, .int (iI is)), (0, .ref 58), (1, .int (iI nr)), (3, .int (iI ((e : Int))))] dX6_stand_74 rfl (by decide) rfl ?_
            refine z_iload_n C 4 rfl dX6_stand_75 rfl ?_
            refine z_istore_n C [(1, .int (iI ((e : Int)))), (2, .int (iI is)), (4, .int (iI is)), (0, .ref 58), (3, .int (iI ((e : Int))))] dX6_stand_76 rfl (by decide) rfl ?_
            obtain ⟨v2, ev2⟩ : ∃ y : Int, y = (e : Int) + 1 := ⟨_, rfl⟩
            refine z_iinc C 4 v2 [(3, .int (iI v2)), (1, .int (iI ((e : Int)))), (2, .int (iI is)), (4, .int (iI is)), (0, .ref 58)] dX6_stand_77 rfl ev2.symm (by decide) rfl ?_
            refine z_goto C 11 dX6_stand_80 (by decide) ?_
            refine zZ_sub [4, 1, 2, 0] rfl ?_
            refine zZ_cast rfl (zLk (zLc (by simp only [leastF, hnl]; rw [if_pos ⟨hPt, .inl (by omega)⟩]) (zLc (by simp only [leastF, hnl]; rw [if_pos ⟨hPt, .inl (by omega)⟩]; exact eis) (zLc (by omega) rfl)))) rfl (kke trivial)
          · refine z_iload C 0 rfl dX6_stand_63 ?_
            refine z_iload_n C 3 rfl dX6_stand_65 rfl ?_
            refine z_icmp_lt C 72 dX6_stand_66 (by decide) (by omega) (by omega) (fun h66 => ?_) (fun h66 => ?_)
            · refine z_iload C 0 rfl dX6_stand_72 ?_
              refine z_istore_n C [(2, .int (iI is)), (4, .int (iI is)), (0, .ref 58), (1, .int (iI nr)), (3, .int (iI ((e : Int))))] dX6_stand_74 rfl (by decide) rfl ?_
              refine z_iload_n C 4 rfl dX6_stand_75 rfl ?_
              refine z_istore_n C [(1, .int (iI ((e : Int)))), (2, .int (iI is)), (4, .int (iI is)), (0, .ref 58), (3, .int (iI ((e : Int))))] dX6_stand_76 rfl (by decide) rfl ?_
              obtain ⟨v3, ev3⟩ : ∃ y : Int, y = (e : Int) + 1 := ⟨_, rfl⟩
              refine z_iinc C 4 v3 [(3, .int (iI v3)), (1, .int (iI ((e : Int)))), (2, .int (iI is)), (4, .int (iI is)), (0, .ref 58)] dX6_stand_77 rfl ev3.symm (by decide) rfl ?_
              refine z_goto C 11 dX6_stand_80 (by decide) ?_
              refine zZ_sub [4, 1, 2, 0] rfl ?_
              refine zZ_cast rfl (zLk (zLc (by simp only [leastF, hnl]; rw [if_pos ⟨hPt, .inr (by omega)⟩]) (zLc (by simp only [leastF, hnl]; rw [if_pos ⟨hPt, .inr (by omega)⟩]; exact eis) (zLc (by omega) rfl)))) rfl (kke trivial)
            · refine z_goto C 77 dX6_stand_69 (by decide) ?_
              obtain ⟨v4, ev4⟩ : ∃ y : Int, y = (e : Int) + 1 := ⟨_, rfl⟩
              refine z_iinc C 4 v4 [(3, .int (iI v4)), (4, .int (iI is)), (0, .ref 58), (1, .int (iI nr)), (2, .int (iI ls))] dX6_stand_77 rfl ev4.symm (by decide) rfl ?_
              refine z_goto C 11 dX6_stand_80 (by decide) ?_
              refine zZ_sub [2, 3, 4, 0] rfl ?_
              refine zZ_cast rfl (zLk (zLc (by simp only [leastF, hnl]; rw [if_neg (fun z => by have := z.2; omega)]) (zLc (by simp only [leastF, hnl]; rw [if_neg (fun z => by have := z.2; omega)]) (zLc (by omega) rfl)))) rfl (kke trivial)
        · have hPf : P e = false := by rw [hP]; unfold sdP; rw [dogs_c, h23]; exact h31
          refine z_goto C 77 dX6_stand_34 (by decide) ?_
          obtain ⟨v5, ev5⟩ : ∃ y : Int, y = (e : Int) + 1 := ⟨_, rfl⟩
          refine z_iinc C 3 v5 [(3, .int (iI v5)), (0, .ref 58), (1, .int (iI nr)), (2, .int (iI ls))] dX6_stand_77 rfl ev5.symm (by decide) rfl ?_
          refine z_goto C 11 dX6_stand_80 (by decide) ?_
          refine zZ_sub [1, 2, 3, 0] rfl ?_
          refine zZ_cast rfl (zLk (zLc (by simp only [leastF, hnl]; rw [if_neg (fun z => absurd (z.1.symm.trans hPf) (by decide))]) (zLc (by simp only [leastF, hnl]; rw [if_neg (fun z => absurd (z.1.symm.trans hPf) (by decide))]) (zLc (by omega) rfl)))) rfl (kke trivial)
  · intro hpe
    refine z_iload_n C 3 rfl dX6_stand_11 rfl ?_
    refine z_bipush C dX6_stand_12 (by decide) ?_
    refine z_icmp_ge C 83 dX6_stand_14 (by decide) (by omega) (by omega) (fun h14 => ?_) (fun h14 => ?_)
    · refine z_iload_n C 1 rfl dX6_stand_83 rfl ?_
      exact zZ_iret C hR (Nat.le_refl _) (Nat.le_refl _) dX6_stand_84 rfl (zIs_I rfl rfl)
    · omega
