set_option maxHeartbeats 4000000 in
set_option maxRecDepth 100000 in
theorem c_X6_shy {g : zG} {I : Nat → Nat → Int} {J : Nat → Nat → Int64} {q : Nat × Nat} {w : Int} (hgr : gR I) (hrs : gRS (spR I)) (hrl : gRL I) (hdo : openN (I 58 0) (maskW (I 59)) (I 58 3) = true) (hw : -2147483648 ≤ w ∧ w ≤ 2147483647) : zRuns g mX6_shy 7 0 0 [.ref 58, .int (iI w)] (zst I J q) (zEx (some (.int (iI (uR (fShy (VI I) w) (shyR I w.toNat))))) (fun I2 : {I2 // frR I I2} => zst (uK I2.1 (fShy (VI I) w) (I2.1)) J q)) := by
  obtain ⟨b1, b2, b3, b4, b5, b6, b7⟩ := id hgr
  obtain ⟨k1, k2, k3⟩ := id hrs
  have k1 : gC7 (I 58 3) := k1
  have k2 : 0 ≤ I 58 4 ∧ I 58 4 ≤ 4 := k2
  have k3 : ∀ e, e < 5 → gC7 (I 62 e) := k3
  have k1' := k1.1
  have b2' := b2.1
  have v10 : VI I 1 0 = I 58 0 := congrArg (fun x => x) rfl
  have v11 : VI I 1 1 = I 58 2 := congrArg (fun x => x) rfl
  have v12 : VI I 1 2 = I 58 9 := congrArg (fun x => x) rfl
  have v16 : VI I 1 6 = I 58 5 := congrArg (fun x => x) rfl
  have v40 : VI I 4 0 = I 58 3 := congrArg (fun x => x) rfl
  have v41 : VI I 4 1 = I 58 4 := congrArg (fun x => x) rfl
  have v111 : VI I 11 1 = I 58 12 := congrArg (fun x => x) rfl
  have v13 : VI I 1 3 = I 58 10 := congrArg (fun x => x) rfl
  have v14 : VI I 1 4 = I 58 11 := congrArg (fun x => x) rfl
  refine zRuns_intro rfl (Nat.le_of_ble_eq_true rfl) (fun X C hR => ?_)
  show zZ g X 0 0 _ 0 [(0, .ref 58), (1, .int (iI w))] []
  refine z_aload_n C 0 rfl dX6_shy_0 rfl ?_
  refine z_iload_n C 1 rfl dX6_shy_1 rfl ?_
  refine y_callV1 C oX6_isEwe iX6_isEwe eX6_isEwe lkX6_97 (c_X6_isEwe hgr (by first | assumption | omega)) rfl (by decide) rfl rfl (by decide) (Nat.le_refl _) (Nat.le_refl _) (Nat.le_of_ble_eq_true rfl) dX6_shy_2 ?_
  refine y_if_neB C 15 dX6_shy_5 (by decide) (fun h5 => ?_) (fun h5 => ?_)
  · have hwr : 0 ≤ w ∧ w < I 58 5 := by simpa using h5
    obtain ⟨wn, hwn⟩ : ∃ n : Nat, w = n := ⟨w.toNat, by omega⟩
    have hwt : w.toNat = wn := by omega
    rw [hwn]
    have hcw := k3 wn (by omega)
    have hcw1 := hcw.1
    obtain ⟨P, hP⟩ : ∃ P : Nat → Bool, P = (fun (c : Nat) => sdP I c && !decide (goalN (hvR I) (c : Int) (I 62) wn (I 60 wn) = I 62 wn)) := ⟨_, rfl⟩
    obtain ⟨V, hV⟩ : ∃ V : Nat → Int, V = (fun (c : Nat) => stp (I 62 wn) (c : Int)) := ⟨_, rfl⟩
    have hsR : shyR I wn = shyF (fun (c : Nat) => sdP I c && !decide (goalN (hvR I) (c : Int) (I 62) wn (I 60 wn) = I 62 wn)) (fun (c : Nat) => stp (I 62 wn) (c : Int)) 67 := rfl
    rw [← hP, ← hV] at hsR
    have sz : svI I 0 (spR I) 59 = I 59 ∧ svI I 0 (spR I) 58 = I 58 := ⟨svI_n (by decide), svI_n (by decide)⟩
    have hsv2 : svI I 0 (spR I) 70 (2 + wn) = I 62 wn := by have h := (svI_p (I := I) (d := 0) (p := spR I)).2.2 wn (by omega); rw [← show 7 * 0 + 2 + wn = 2 + wn by omega]; exact h
    refine z_iconst C dX6_shy_15 ?_
    refine z_istore_n C [(2, .int (iI ((-1)))), (0, .ref 58), (1, .int (iI ((wn : Int))))] dX6_shy_16 rfl (by decide) rfl ?_
    refine z_aload_n C 1 rfl dX6_shy_17 rfl ?_
    refine z_iconst C dX6_shy_18 ?_
    refine z_top C (((0 : Nat) : Int)) (rfl) ?_
    refine y_callV1 C oX6_saves iX6_saves eX6_saves lkX6_104 (c_X6_saves (by first | assumption | omega)) rfl (by decide) rfl rfl (by decide) (Nat.le_refl _) (Nat.le_refl _) (Nat.le_of_ble_eq_true rfl) dX6_shy_19 ?_
    refine z_iconst C dX6_shy_22 ?_
    refine z_istore_n C [(3, .int (iI 0)), (2, .int (iI ((-1)))), (0, .ref 58), (1, .int (iI ((wn : Int))))] dX6_shy_23 rfl (by decide) rfl ?_
    refine zZ_sub [2, 3, 1, 0] rfl ?_
    refine zZ_cast (σ' := (fun _ : Nat => zst (svI I 0 (spR I)) J q) 0) (L' := (fun e : Nat => [(0, .ref 58), (1, .int (iI ((wn : Int)))), (2, .int (iI (shyF P V e))), (3, .int (iI (e : Int)))]) 0) rfl rfl rfl ?_
    refine zfor (67) (fun _ => True) (fun _ : Nat => zst (svI I 0 (spR I)) J q) (fun e : Nat => [(0, .ref 58), (1, .int (iI ((wn : Int)))), (2, .int (iI (shyF P V e))), (3, .int (iI (e : Int)))]) trivial ?_ ?_
    · intro e hee hpe kke
      have hr := shyF_r (P := P) (v := V) (k := e) (fun c hc => by rw [hV]; have := stp_r (c := I 62 wn) (d := (c : Int)) (by omega) (by omega); simp only; omega)
      obtain ⟨sh, hsh⟩ : ∃ sh, sh = shyF P V e := ⟨_, rfl⟩
      rw [← hsh] at hr ⊢
      refine z_iload_n C 3 rfl dX6_shy_24 rfl ?_
      refine z_bipush C dX6_shy_25 (by decide) ?_
      refine z_icmp_ge C 105 dX6_shy_27 (by decide) (by omega) (by omega) (fun h27 => ?_) (fun h27 => ?_)
      · omega
      · refine z_aload_n C 0 rfl dX6_shy_30 rfl ?_
        refine z_iload_n C 3 rfl dX6_shy_31 rfl ?_
        refine z_i2l C (iI (e : Int)).toInt64 dX6_shy_32 rfl ?_
        refine y_callV1 C oX6_isCell iX6_isCell eX6_isCell lkX6_128 (c_X6_isCell (gR_sv hgr)) rfl (by decide) rfl rfl (by decide) (Nat.le_refl _) (Nat.le_refl _) (Nat.le_of_ble_eq_true rfl) dX6_shy_33 ?_
        refine z_top C (bI (isCellN (I 58 0) (e : Int))) (by rw [i2l_toInt (by omega), svI_n (by decide)]) ?_
        refine y_if_eqB C 99 dX6_shy_36 (by decide) (fun h36 => ?_) (fun h36 => ?_)
        · have hPf : P e = false := by rw [hP]; simp only; unfold sdP; rw [dogs_c, h36]; rfl
          obtain ⟨v1, ev1⟩ : ∃ y : Int, y = (e : Int) + 1 := ⟨_, rfl⟩
          refine z_iinc C 3 v1 [(3, .int (iI v1)), (0, .ref 58), (1, .int (iI ((wn : Int)))), (2, .int (iI sh))] dX6_shy_99 rfl ev1.symm (by decide) rfl ?_
          refine z_goto C 24 dX6_shy_102 (by decide) ?_
          refine zZ_sub [1, 2, 3, 0] rfl ?_
          refine zZ_cast rfl (zLk (zLk (zLc (by simp only [shyF]; rw [if_neg (fun z => absurd (z.symm.trans hPf) (by decide))]; exact hsh) (zLc (by omega) rfl)))) rfl (kke trivial)
        · have hc7 := gC7_of b1.2 h36
          have hc7r := hc7.1
          refine z_aload_n C 0 rfl dX6_shy_39 rfl ?_
          refine z_iload_n C 3 rfl dX6_shy_40 rfl ?_
          refine y_callV1 C oX6_mayDog iX6_mayDog eX6_mayDog lkX6_142 (c_X6_mayDog (gR_sv hgr) (by rw [spR_sv]; exact hrs) hc7) rfl (by decide) rfl rfl (by decide) (Nat.le_refl _) (Nat.le_refl _) (Nat.le_of_ble_eq_true rfl) dX6_shy_41 ?_
          refine z_top C (bI (!wallL (maskW (I 59)) (e : Int) && !decide ((e : Int) = I 58 2))) (by rw [sz.1, sz.2]) ?_
          refine y_if_neB C 50 dX6_shy_44 (by decide) (fun h44 => ?_) (fun h44 => ?_)
          · have hS1 : sdP I e = true := by unfold sdP; rw [dogs_c, h36]; exact h44
            have hrc : gRS ((e : Int), I 58 4, I 62) := ⟨hc7, k2, k3⟩
            have hg7 := (goalN_7 (H := hvR I) (dog := (e : Int)) (C := I 62) (w := wn) (kd := I 60 wn) b1.2 hcw).1
            have hst := stp_r (c := I 62 wn) (d := (e : Int)) (by omega) (by omega)
            refine z_aload_n C 0 rfl dX6_shy_50 rfl ?_
            refine z_iload_n C 3 rfl dX6_shy_51 rfl ?_
            refine y_putI C zCl6 3 flX6_61 rfl rfl rfl rfl dX6_shy_52 ?_
            refine zZ_cast (σ' := zst (zRq (svI I 0 (spR I)) ((e : Int), I 58 4, I 62)) J q)  (by refine congrArg (fun I' => zst I' J q) ?_; rw [zu583, sz.2, svI_n (by decide)]) rfl rfl ?_
            refine z_aload_n C 0 rfl dX6_shy_55 rfl ?_
            refine z_iload_n C 1 rfl dX6_shy_56 rfl ?_
            refine y_callV1 C oX6_eweGoes iX6_eweGoes eX6_eweGoes lkX6_108 (c_X6_eweGoes (gR_q (gR_sv hgr)) hrc (by omega)) rfl (by decide) rfl rfl (by decide) (Nat.le_refl _) (Nat.le_refl _) (Nat.le_of_ble_eq_true rfl) dX6_shy_57 ?_
            refine zZ_cast (σ' := zst (zRq (svI I 0 (spR I)) ((e : Int), I 58 4, up1 (I 62) wn (goalN (hvR I) (e : Int) (I 62) wn (I 60 wn)))) J q)  (by refine congrArg (fun I' => zst I' J q) ?_; rw [zRq_zRq, hvR_q, hvR_sv]; rfl) rfl rfl ?_
            refine z_aload_n C 0 rfl dX6_shy_60 rfl ?_
            refine y_getR C zCl6 8 flX6_20 rfl rfl rfl dX6_shy_61 ?_
            refine z_iload_n C 1 rfl dX6_shy_64 rfl ?_
            refine y_iald C wn (by omega) rfl (by omega) (by decide) dX6_shy_65 ?_
            refine z_top C (goalN (hvR I) (e : Int) (I 62) wn (I 60 wn)) (up1_s) ?_
            refine z_aload_n C 0 rfl dX6_shy_66 rfl ?_
            refine y_getR C zCl6 25 flX6_45 rfl rfl rfl dX6_shy_67 ?_
            refine z_iconst C dX6_shy_70 ?_
            refine z_iload_n C 1 rfl dX6_shy_71 rfl ?_
            refine z_iadd C dX6_shy_72 ?_
            refine y_iald C (2 + wn) (by omega) rfl (by omega) (by decide) dX6_shy_73 ?_
            refine z_top C (I 62 wn) (by rw [zRq_n (by decide) (by decide)]; exact hsv2) ?_
            refine z_icmp_eq C 94 dX6_shy_74 (by decide) (by omega) (by omega) (fun h74 => ?_) (fun h74 => ?_)
            · refine z_aload_n C 0 rfl dX6_shy_94 rfl ?_
              refine z_iconst C dX6_shy_95 ?_
              refine z_top C (((0 : Nat) : Int)) (rfl) ?_
              refine y_callV1 C oX6_again iX6_again eX6_again lkX6_111 (c_X6_again (by first | assumption | omega) (svAt_q svAt_sv)) rfl (by decide) rfl rfl (by decide) (Nat.le_refl _) (Nat.le_refl _) (Nat.le_of_ble_eq_true rfl) dX6_shy_96 ?_
              refine zZ_cast (σ' := zst (svI I 0 (spR I)) J q)  (by refine congrArg (fun I' => zst I' J q) ?_; rw [zRq_zRq]; exact zRq_svs) rfl rfl ?_
              obtain ⟨v2, ev2⟩ : ∃ y : Int, y = (e : Int) + 1 := ⟨_, rfl⟩
              refine z_iinc C 3 v2 [(3, .int (iI v2)), (0, .ref 58), (1, .int (iI ((wn : Int)))), (2, .int (iI sh))] dX6_shy_99 rfl ev2.symm (by decide) rfl ?_
              refine z_goto C 24 dX6_shy_102 (by decide) ?_
              refine zZ_sub [1, 2, 3, 0] rfl ?_
              refine zZ_cast rfl (zLk (zLk (zLc (by simp only [shyF]; rw [if_neg (fun z => absurd (z.symm.trans (show P e = false by rw [hP]; simp only; rw [hS1, decide_eq_true (show goalN (hvR I) (e : Int) (I 62) wn (I 60 wn) = I 62 wn from h74)]; rfl)) (by decide))]; exact hsh) (zLc (by omega) rfl)))) rfl (kke trivial)
            · refine z_iload_n C 2 rfl dX6_shy_77 rfl ?_
              refine z_aload_n C 0 rfl dX6_shy_78 rfl ?_
              refine y_getR C zCl6 25 flX6_45 rfl rfl rfl dX6_shy_79 ?_
              refine z_iconst C dX6_shy_82 ?_
              refine z_iload_n C 1 rfl dX6_shy_83 rfl ?_
              refine z_iadd C dX6_shy_84 ?_
              refine y_iald C (2 + wn) (by omega) rfl (by omega) (by decide) dX6_shy_85 ?_
              refine z_top C (I 62 wn) (by rw [zRq_n (by decide) (by decide)]; exact hsv2) ?_
              refine z_iload_n C 3 rfl dX6_shy_86 rfl ?_
              refine y_callS2 C oX6_steps sX6_steps lkX6_215 (c_X6_steps (by first | assumption | omega) (by first | assumption | omega)) (by decide) (Nat.le_refl _) (Nat.le_refl _) (Nat.le_of_ble_eq_true rfl) dX6_shy_87 ?_
              refine z_mmax C lkX6_266 (by omega) (by omega) (by decide) (Nat.le_refl _) (Nat.le_refl _) (Nat.le_of_ble_eq_true rfl) dX6_shy_90 ?_
              refine z_topI C (fun mx emx => ?_)
              refine z_istore_n C [(2, .int (iI mx)), (0, .ref 58), (1, .int (iI ((wn : Int)))), (3, .int (iI ((e : Int))))] dX6_shy_93 rfl (by decide) rfl ?_
              refine z_aload_n C 1 rfl dX6_shy_94 rfl ?_
              refine z_iconst C dX6_shy_95 ?_
              refine z_top C (((0 : Nat) : Int)) (rfl) ?_
              refine y_callV1 C oX6_again iX6_again eX6_again lkX6_111 (c_X6_again (by first | assumption | omega) (svAt_q svAt_sv)) rfl (by decide) rfl rfl (by decide) (Nat.le_refl _) (Nat.le_refl _) (Nat.le_of_ble_eq_true rfl) dX6_shy_96 ?_
              refine zZ_cast (σ' := zst (svI I 0 (spR I)) J q)  (by refine congrArg (fun I' => zst I' J q) ?_; rw [zRq_zRq]; exact zRq_svs) rfl rfl ?_
              obtain ⟨v3, ev3⟩ : ∃ y : Int, y = (e : Int) + 1 := ⟨_, rfl⟩
              refine z_iinc C 3 v3 [(3, .int (iI v3)), (2, .int (iI mx)), (0, .ref 58), (1, .int (iI ((wn : Int))))] dX6_shy_99 rfl ev3.symm (by decide) rfl ?_
              refine z_goto C 24 dX6_shy_102 (by decide) ?_
              refine zZ_sub [2, 3, 1, 0] rfl ?_
              refine zZ_cast rfl (zLk (zLk (zLc (by simp only [shyF]; rw [if_pos (show P e = true by rw [hP]; simp only; rw [hS1, decide_eq_false (show ¬ goalN (hvR I) (e : Int) (I 62) wn (I 60 wn) = I 62 wn from h74)]; rfl), ← hsh]; rw [emx, show V e = stp (I 62 wn) (e : Int) from by rw [hV]]; split <;> omega) (zLc (by omega) rfl)))) rfl (kke trivial)
          · have hPf : P e = false := by rw [hP]; simp only; unfold sdP; rw [dogs_c, h36, show (true && (!wallL (maskW (I 59)) (e : Int) && !decide ((e : Int) = I 58 2))) = false from h44]; rfl
            refine z_goto C 99 dX6_shy_47 (by decide) ?_
            obtain ⟨v4, ev4⟩ : ∃ y : Int, y = (e : Int) + 1 := ⟨_, rfl⟩
            refine z_iinc C 3 v4 [(3, .int (iI v4)), (0, .ref 58), (1, .int (iI ((wn : Int)))), (2, .int (iI sh))] dX6_shy_99 rfl ev4.symm (by decide) rfl ?_
            refine z_goto C 24 dX6_shy_102 (by decide) ?_
            refine zZ_sub [1, 2, 3, 0] rfl ?_
            refine zZ_cast rfl (zLk (zLk (zLc (by simp only [shyF]; rw [if_neg (fun z => absurd (z.symm.trans hPf) (by decide))]; exact hsh) (zLc (by omega) rfl)))) rfl (kke trivial)
    · intro hpe
      refine z_iload_n C 3 rfl dX6_shy_24 rfl ?_
      refine z_bipush C dX6_shy_25 (by decide) ?_
      refine z_icmp_ge C 105 dX6_shy_27 (by decide) (by omega) (by omega) (fun h27 => ?_) (fun h27 => ?_)
      · refine z_iload_n C 2 rfl dX6_shy_105 rfl ?_
        exact zZ_iret C hR (Nat.le_refl _) (Nat.le_refl _) dX6_shy_106 rfl (zEx_I (by rw [uR0 (show fShy (VI I) w = 0 by (unfold fShy; rw [v16, if_pos hwr]))]; rw [hwt, hsR]) ⟨svI I 0 (spR I), frR_sv⟩ (by rw [uK0 (show fShy (VI I) w = 0 by (unfold fShy; rw [v16, if_pos hwr]))]; (first | done | rfl)))
      · omega
  · refine z_aload_n C 0 rfl dX6_shy_8 rfl ?_
    refine z_bipush C dX6_shy_9 (by decide) ?_
    refine y_callV1 C oX6_no iX6_no eX6_no lkX6_83 (c_X6_no (by first | assumption | omega)) rfl (by decide) rfl rfl (by decide) (Nat.le_refl _) (Nat.le_refl _) (Nat.le_of_ble_eq_true rfl) dX6_shy_11 ?_
    exact zZ_iret C hR (Nat.le_refl _) (Nat.le_refl _) dX6_shy_14 rfl (zEx_I (uRc (show fShy (VI I) w = -2 by (try simp only [decide_eq_true_eq, decide_eq_false_iff_not, bI] at *); (unfold fShy; simp only [v16]; (repeat' split) <;> first | rfl | omega | (exfalso; simp_all; done) | (exfalso; simp_all; omega))) (by decide)).symm ⟨I, frR_rf⟩ (by rw [uKc (show fShy (VI I) w = -2 by (try simp only [decide_eq_true_eq, decide_eq_false_iff_not, bI] at *); (unfold fShy; simp only [v16]; (repeat' split) <;> first | rfl | omega | (exfalso; simp_all; done) | (exfalso; simp_all; omega))) (by decide)]))
