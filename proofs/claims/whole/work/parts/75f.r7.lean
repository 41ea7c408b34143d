set_option maxHeartbeats 4000000 in
set_option maxRecDepth 100000 in
theorem c_X6_still {g : zG} {I : Nat → Nat → Int} {J : Nat → Nat → Int64} {q : Nat × Nat} {w : Int} (hgr : gR I) (hrs : gRS (spR I)) (hrl : gRL I) (hw : -2147483648 ≤ w ∧ w ≤ 2147483647) : zRuns g mX6_still 8 0 0 [.ref 58, .int (iI w)] (zst I J q) (zEx (some (.int (iI (uR (fStill w) (stillR I w))))) (fun I2 : {I2 // frR I I2} => zst (uK I2.1 (fStill w) (I2.1)) J q)) := by
  obtain ⟨b1, b2, b3, b4, b5, b6, b7⟩ := id hgr
  obtain ⟨k1, k2, k3⟩ := id hrs
  have k1 : gC7 (I 58 3) := k1
  have k2 : 0 ≤ I 58 4 ∧ I 58 4 ≤ 4 := k2
  have k3 : ∀ e, e < 5 → gC7 (I 62 e) := k3
  have k1' := k1.1
  have b2' := b2.1
  have v10 : VI I 1 0 = I 58 0 := congrArg (fun x => x) rfl
  have v11 : VI I 1 1 = I 58 2 := congrArg (fun x => x) rfl
  have v12 : VI I 1 2 = I 58 9 := congrArg (fun x => x) rfl
  have v16 : VI I 1 6 = I 58 5 := congrArg (fun x => x) rfl
  have v40 : VI I 4 0 = I 58 3 := congrArg (fun x => x) rfl
  have v41 : VI I 4 1 = I 58 4 := congrArg (fun x => x) rfl
  have v111 : VI I 11 1 = I 58 12 := congrArg (fun x => x) rfl
  have v13 : VI I 1 3 = I 58 10 := congrArg (fun x => x) rfl
  have v14 : VI I 1 4 = I 58 11 := congrArg (fun x => x) rfl
  refine zRuns_intro rfl (Nat.le_of_ble_eq_true rfl) (fun X C hR => ?_)
  show zZ g X 0 0 _ 0 [(0, .ref 58), (1, .int (iI w))] []
  refine z_iload_n C 1 rfl dX6_still_0 rfl ?_
  refine z_iconst C dX6_still_1 ?_
  refine z_iconst C dX6_still_2 ?_
  refine y_callS3 C oX6_within sX6_within lkX6_75 (c_X6_within (by first | assumption | omega) (by first | assumption | omega) (by first | assumption | omega)) (by decide) (Nat.le_refl _) (Nat.le_refl _) (Nat.le_of_ble_eq_true rfl) dX6_still_3 ?_
  refine y_if_neB C 16 dX6_still_6 (by decide) (fun h6 => ?_) (fun h6 => ?_)
  · obtain ⟨P, hP⟩ : ∃ P, P = sdP I := ⟨_, rfl⟩
    obtain ⟨V, hV⟩ : ∃ V : Nat → Int, V = fun (c : Nat) => bcI (mvD I (c : Int)) := ⟨_, rfl⟩
    have hsR : stillR I w = if w = 0 then (stillF (sdP I) (fun (c : Nat) => bcI (mvD I (c : Int))) 67).1 else (stillF (sdP I) (fun (c : Nat) => bcI (mvD I (c : Int))) 67).2 := rfl
    rw [← hP, ← hV] at hsR
    have hVr : ∀ e, 0 ≤ V e ∧ V e ≤ 5 := fun e => by rw [hV]; exact bcI_r (mvD_lt hgr)
    refine z_aload_n C 0 rfl dX6_still_16 rfl ?_
    refine y_getI C zCl6 3 flX6_61 rfl rfl dX6_still_17 ?_
    refine z_topI C (fun hd ehd => ?_)
    have ehd : hd = I 58 3 := ehd
    refine z_istore_n C [(2, .int (iI hd)), (0, .ref 58), (1, .int (iI w))] dX6_still_20 rfl (by decide) rfl ?_
    refine z_iconst C dX6_still_21 ?_
    refine z_istore_n C [(3, .int (iI 0)), (2, .int (iI hd)), (0, .ref 58), (1, .int (iI w))] dX6_still_22 rfl (by decide) rfl ?_
    refine z_iconst C dX6_still_23 ?_
    refine z_istore C [(4, .int (iI 0)), (3, .int (iI 0)), (2, .int (iI hd)), (0, .ref 58), (1, .int (iI w))] dX6_still_24 (by decide) rfl ?_
    refine z_iconst C dX6_still_26 ?_
    refine z_istore C [(5, .int (iI 0)), (4, .int (iI 0)), (3, .int (iI 0)), (2, .int (iI hd)), (0, .ref 58), (1, .int (iI w))] dX6_still_27 (by decide) rfl ?_
    refine zZ_sub [4, 5, 3, 2, 1, 0] rfl ?_
    refine zZ_cast (σ' := (fun (_ : Nat) (I2 : Nat → Nat → Int) => zst I2 J q) 0 I) (L' := (fun (e : Nat) (I2 : Nat → Nat → Int) => [(0, .ref 58), (1, .int (iI w)), (2, .int (iI hd)), (3, .int (iI (stillF P V e).1)), (4, .int (iI (stillF P V e).2)), (5, .int (iI (e : Int)))]) 0 I) rfl rfl rfl ?_
    refine zforE (67) (fun _ I2 => stI I I2) (fun (_ : Nat) (I2 : Nat → Nat → Int) => zst I2 J q) (fun (e : Nat) (I2 : Nat → Nat → Int) => [(0, .ref 58), (1, .int (iI w)), (2, .int (iI hd)), (3, .int (iI (stillF P V e).1)), (4, .int (iI (stillF P V e).2)), (5, .int (iI (e : Int)))]) I (stI_0 k1) ?_ ?_
    · intro e I2 hee hpe kke
      have hI2 := hpe
      have hr := stillF_r (P := P) (V := V) (k := e) (fun c _ => hVr c)
      obtain ⟨st, mm, hnl⟩ : ∃ st mm, stillF P V e = (st, mm) := ⟨_, _, rfl⟩
      rw [hnl] at hr ⊢
      simp only at hr
      obtain ⟨hg2, hr2, hn2, hp2, hw2⟩ := stI_g hgr hrs hI2
      refine z_iload C 5 rfl dX6_still_29 ?_
      refine z_bipush C dX6_still_31 (by decide) ?_
      refine z_icmp_ge C 96 dX6_still_33 (by decide) (by omega) (by omega) (fun h33 => ?_) (fun h33 => ?_)
      · omega
      · refine z_aload_n C 0 rfl dX6_still_36 rfl ?_
        refine z_iload C 5 rfl dX6_still_37 ?_
        refine z_i2l C (iI (e : Int)).toInt64 dX6_still_39 rfl ?_
        refine y_callV1 C oX6_isCell iX6_isCell eX6_isCell lkX6_128 (c_X6_isCell hg2) rfl (by decide) rfl rfl (by decide) (Nat.le_refl _) (Nat.le_refl _) (Nat.le_of_ble_eq_true rfl) dX6_still_40 ?_
        refine z_top C (bI (isCellN (I 58 0) (e : Int))) (by rw [i2l_toInt (by omega), hn2]) ?_
        refine y_if_eqB C 90 dX6_still_43 (by decide) (fun h43 => ?_) (fun h43 => ?_)
        · have hPf : P e = false := by rw [hP]; unfold sdP; rw [dogs_c, h43]; rfl
          obtain ⟨v1, ev1⟩ : ∃ y : Int, y = (e : Int) + 1 := ⟨_, rfl⟩
          refine z_iinc C 5 v1 [(5, .int (iI v1)), (0, .ref 58), (1, .int (iI w)), (2, .int (iI hd)), (3, .int (iI st)), (4, .int (iI mm))] dX6_still_90 rfl ev1.symm (by decide) rfl ?_
          refine z_goto C 29 dX6_still_93 (by decide) ?_
          refine zZ_sub [1, 2, 3, 4, 5, 0] rfl ?_
          refine zZ_cast rfl (zLk (zLk (zLk (zLc (by simp only [stillF, hnl]; rw [if_neg (fun z => absurd (z.symm.trans hPf) (by decide))]) (zLc (by simp only [stillF, hnl]; rw [if_neg (fun z => absurd (z.symm.trans hPf) (by decide))]) (zLc (by omega) rfl)))))) rfl (kke I2 hI2)
        · have hc7 := gC7_of b1.2 h43
          have hc7r := hc7.1
          refine z_aload_n C 0 rfl dX6_still_46 rfl ?_
          refine z_iload C 5 rfl dX6_still_47 ?_
          refine y_callV1 C oX6_mayDog iX6_mayDog eX6_mayDog lkX6_142 (c_X6_mayDog hg2 hr2 hc7) rfl (by decide) rfl rfl (by decide) (Nat.le_refl _) (Nat.le_refl _) (Nat.le_of_ble_eq_true rfl) dX6_still_49 ?_
          refine z_top C (bI (!wallL (maskW (I 59)) (e : Int) && !decide ((e : Int) = I 58 2))) (by rw [hw2, hp2]) ?_
          refine y_if_neB C 58 dX6_still_52 (by decide) (fun h52 => ?_) (fun h52 => ?_)
          · have hPt : P e = true := by rw [hP]; unfold sdP; rw [dogs_c, h43]; exact h52
            have hdc : openN (I 58 0) (maskW (I 59)) (e : Int) = true := by have h := hPt; rw [hP] at h; simp only [sdP, dogsN, Bool.and_eq_true] at h; exact h.2
            obtain ⟨I3, hI3⟩ : ∃ I3, I3 = zRq I2 ((e : Int), I 58 4, I 62) := ⟨_, rfl⟩
            have hf3 : frR (zRq I ((e : Int), I 58 4, I 62)) I3 := by rw [hI3]; exact stI_q hI2
            have hg3 : gR I3 := frR_gR hf3 (gR_q hgr)
            have hr3 : gRS (spR I3) := by rw [frR_sp hf3]; exact ⟨hc7, k2, k3⟩
            have hd3 : openN (I3 58 0) (maskW (I3 59)) (I3 58 3) = true := by rw [hf3.2 0 (by omega), hf3.2 3 (by omega), frR_i hf3 (by decide) (by decide)]; exact hdc
            have hmv : mvR I3 = mvD I (e : Int) := by rw [← mv_D]; exact mvR_fr hf3
            have hI23 : zu I2 58 3 (e : Int) = I3 := by rw [hI3, zu583, hI2.2.1, hI2.2.2.1]
            refine z_aload_n C 0 rfl dX6_still_58 rfl ?_
            refine z_iload C 5 rfl dX6_still_59 ?_
            refine y_putI C zCl6 3 flX6_61 rfl rfl rfl rfl dX6_still_61 ?_
            rw [hI23]
            refine z_aload_n C 0 rfl dX6_still_64 rfl ?_
            refine y_callV0 C oX6_moved iX6_moved eX6_moved lkX6_278 (c_X6_moved hg3 hr3 hd3) rfl (by decide) rfl rfl (by decide) (Nat.le_refl _) (Nat.le_refl _) (Nat.le_of_ble_eq_true rfl) dX6_still_65 ?_
            refine z_top C ((mvD I (e : Int) : Nat) : Int) (by rw [hmv]) ?_
            refine y_callS1 C oJ6_bitCount_0f7a4 sJ6_bitCount_0f7a4 lkX6_287 c_J6_bitCount_0f7a4 (by decide) (Nat.le_refl _) (Nat.le_refl _) (Nat.le_of_ble_eq_true rfl) dX6_still_68 ?_
            refine z_topI C (fun bc ebc => ?_)
            have hVe : bc = V e := by rw [hV]; exact ebc
            have hVb := hVr e
            refine z_istore C [(6, .int (iI bc)), (0, .ref 58), (1, .int (iI w)), (2, .int (iI hd)), (3, .int (iI st)), (4, .int (iI mm)), (5, .int (iI ((e : Int))))] dX6_still_71 (by decide) rfl ?_
            refine z_iload C 0 rfl dX6_still_73 ?_
            refine z_if_ne C 81 dX6_still_75 (by decide) (by omega) (fun h75 => ?_) (fun h75 => ?_)
            · refine z_iload C 5 rfl dX6_still_81 ?_
              refine z_iload C 0 rfl dX6_still_83 ?_
              refine z_mmax C lkX6_266 (by omega) (by omega) (by decide) (Nat.le_refl _) (Nat.le_refl _) (Nat.le_of_ble_eq_true rfl) dX6_still_85 ?_
              refine z_topI C (fun mx emx => ?_)
              
              refine z_istore C [(4, .int (iI mx)), (6, .int (iI bc)), (0, .ref 58), (1, .int (iI w)), (2, .int (iI hd)), (3, .int (iI st)), (5, .int (iI ((e : Int))))] dX6_still_88 (by decide) rfl ?_
              obtain ⟨v2, ev2⟩ : ∃ y : Int, y = (e : Int) + 1 := ⟨_, rfl⟩
              refine z_iinc C 6 v2 [(5, .int (iI v2)), (4, .int (iI mx)), (6, .int (iI bc)), (0, .ref 58), (1, .int (iI w)), (2, .int (iI hd)), (3, .int (iI st))] dX6_still_90 rfl ev2.symm (by decide) rfl ?_
              refine z_goto C 29 dX6_still_93 (by decide) ?_
              refine zZ_sub [3, 4, 5, 6, 1, 0] rfl ?_
              refine zZ_cast rfl (zLk (zLk (zLk (zLc (by simp only [stillF, hnl]; rw [if_pos hPt]; simp only; rw [if_neg (by omega)]; omega) (zLc (by simp only [stillF, hnl]; rw [if_pos hPt]; simp only; omega) (zLc (by omega) rfl)))))) rfl (kke (svI I3 0 (spR I3)) (stI_s hf3 hc7))
            · obtain ⟨v3, ev3⟩ : ∃ y : Int, y = st + 1 := ⟨_, rfl⟩
              refine z_iinc C 4 v3 [(3, .int (iI v3)), (6, .int (iI bc)), (0, .ref 58), (1, .int (iI w)), (2, .int (iI hd)), (4, .int (iI mm)), (5, .int (iI ((e : Int))))] dX6_still_78 rfl ev3.symm (by decide) rfl ?_
              refine z_iload C 5 rfl dX6_still_81 ?_
              refine z_iload C 1 rfl dX6_still_83 ?_
              refine z_mmax C lkX6_266 (by omega) (by omega) (by decide) (Nat.le_refl _) (Nat.le_refl _) (Nat.le_of_ble_eq_true rfl) dX6_still_85 ?_
              refine z_topI C (fun mx emx => ?_)
              
              refine z_istore C [(4, .int (iI mx)), (3, .int (iI v3)), (6, .int (iI bc)), (0, .ref 58), (1, .int (iI w)), (2, .int (iI hd)), (5, .int (iI ((e : Int))))] dX6_still_88 (by decide) rfl ?_
              obtain ⟨v4, ev4⟩ : ∃ y : Int, y = (e : Int) + 1 := ⟨_, rfl⟩
              refine z_iinc C 6 v4 [(5, .int (iI v4)), (4, .int (iI mx)), (3, .int (iI v3)), (6, .int (iI bc)), (0, .ref 58), (1, .int (iI w)), (2, .int (iI hd))] dX6_still_90 rfl ev4.symm (by decide) rfl ?_
              refine z_goto C 29 dX6_still_93 (by decide) ?_
              refine zZ_sub [4, 5, 6, 2, 1, 0] rfl ?_
              refine zZ_cast rfl (zLk (zLk (zLk (zLc (by simp only [stillF, hnl]; rw [if_pos hPt]; simp only; rw [if_pos (by omega)]; omega) (zLc (by simp only [stillF, hnl]; rw [if_pos hPt]; simp only; omega) (zLc (by omega) rfl)))))) rfl (kke (svI I3 0 (spR I3)) (stI_s hf3 hc7))
          · have hPf : P e = false := by rw [hP]; unfold sdP; rw [dogs_c, h43]; exact h52
            refine z_goto C 90 dX6_still_55 (by decide) ?_
            obtain ⟨v5, ev5⟩ : ∃ y : Int, y = (e : Int) + 1 := ⟨_, rfl⟩
            refine z_iinc C 5 v5 [(5, .int (iI v5)), (0, .ref 58), (1, .int (iI w)), (2, .int (iI hd)), (3, .int (iI st)), (4, .int (iI mm))] dX6_still_90 rfl ev5.symm (by decide) rfl ?_
            refine z_goto C 29 dX6_still_93 (by decide) ?_
            refine zZ_sub [1, 2, 3, 4, 5, 0] rfl ?_
            refine zZ_cast rfl (zLk (zLk (zLk (zLc (by simp only [stillF, hnl]; rw [if_neg (fun z => absurd (z.symm.trans hPf) (by decide))]) (zLc (by simp only [stillF, hnl]; rw [if_neg (fun z => absurd (z.symm.trans hPf) (by decide))]) (zLc (by omega) rfl)))))) rfl (kke I2 hI2)
    · intro I2 hpe
      have hI2 := hpe
      refine z_iload C 5 rfl dX6_still_29 ?_
      refine z_bipush C dX6_still_31 (by decide) ?_
      refine z_icmp_ge C 96 dX6_still_33 (by decide) (by omega) (by omega) (fun h33 => ?_) (fun h33 => ?_)
      · refine z_aload_n C 0 rfl dX6_still_96 rfl ?_
        refine z_iload_n C 2 rfl dX6_still_97 rfl ?_
        refine y_putI C zCl6 3 flX6_61 rfl rfl rfl rfl dX6_still_98 ?_
        refine z_iload_n C 1 rfl dX6_still_101 rfl ?_
        refine z_if_ne C 109 dX6_still_102 (by decide) (by omega) (fun h102 => ?_) (fun h102 => ?_)
        · refine z_iload C 4 rfl dX6_still_109 ?_
          exact zZ_iret C hR (Nat.le_refl _) (Nat.le_refl _) dX6_still_111 rfl (zEx_I (by rw [uR0 (show fStill w = 0 by (try simp only [decide_eq_true_eq, decide_eq_false_iff_not, bI] at *); (unfold fStill; (repeat' split) <;> first | rfl | omega | (exfalso; simp_all; done) | (exfalso; simp_all; omega)))]; rw [hsR, if_neg (by omega)]) ⟨_, frR_st hI2⟩ (by rw [uK0 (show fStill w = 0 by (try simp only [decide_eq_true_eq, decide_eq_false_iff_not, bI] at *); (unfold fStill; (repeat' split) <;> first | rfl | omega | (exfalso; simp_all; done) | (exfalso; simp_all; omega)))]; (first | done | rfl | (rw [ehd]; done))))
        · refine z_iload_n C 3 rfl dX6_still_105 rfl ?_
          refine z_goto C 111 dX6_still_106 (by decide) ?_
          exact zZ_iret C hR (Nat.le_refl _) (Nat.le_refl _) dX6_still_111 rfl (zEx_I (by rw [uR0 (show fStill w = 0 by (try simp only [decide_eq_true_eq, decide_eq_false_iff_not, bI] at *); (unfold fStill; (repeat' split) <;> first | rfl | omega | (exfalso; simp_all; done) | (exfalso; simp_all; omega)))]; rw [hsR, if_pos (by omega)]) ⟨_, frR_st hI2⟩ (by rw [uK0 (show fStill w = 0 by (try simp only [decide_eq_true_eq, decide_eq_false_iff_not, bI] at *); (unfold fStill; (repeat' split) <;> first | rfl | omega | (exfalso; simp_all; done) | (exfalso; simp_all; omega)))]; (first | done | rfl | (rw [ehd]; done))))
      · omega
  · refine z_aload_n C 0 rfl dX6_still_9 rfl ?_
    refine z_bipush C dX6_still_10 (by decide) ?_
    refine y_callV1 C oX6_no iX6_no eX6_no lkX6_83 (c_X6_no (by first | assumption | omega)) rfl (by decide) rfl rfl (by decide) (Nat.le_refl _) (Nat.le_refl _) (Nat.le_of_ble_eq_true rfl) dX6_still_12 ?_
    exact zZ_iret C hR (Nat.le_refl _) (Nat.le_refl _) dX6_still_15 rfl (zEx_I (uRc (show fStill w = -2 by (try simp only [decide_eq_true_eq, decide_eq_false_iff_not, bI] at *); (unfold fStill; (repeat' split) <;> first | rfl | omega | (exfalso; simp_all; done) | (exfalso; simp_all; omega))) (by decide)).symm ⟨I, frR_rf⟩ (by rw [uKc (show fStill w = -2 by (try simp only [decide_eq_true_eq, decide_eq_false_iff_not, bI] at *); (unfold fStill; (repeat' split) <;> first | rfl | omega | (exfalso; simp_all; done) | (exfalso; simp_all; omega))) (by decide)]))
