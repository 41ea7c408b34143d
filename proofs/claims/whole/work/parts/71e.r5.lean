set_option maxHeartbeats 4000000 in
set_option maxRecDepth 100000 in
theorem c_X6_ewes {g : zG} {I : Nat → Nat → Int} {J : Nat → Nat → Int64} {q : Nat × Nat} {w : Int} (hgr : gR I) (hrs : gRS (spR I)) (hdo : openN (I 58 0) (maskW (I 59)) (I 58 3) = true) (hw : -2147483648 ≤ w ∧ w ≤ 2147483647) : zRuns g mX6_ewes 7 0 0 [.ref 58, .int (iI w)] (zst I J q) (zEx (some (.int (iI (uR (fEwes w) (ewesR I w))))) (fun I2 : {I2 // frR I I2} => zst (uK I2.1 (fEwes w) I2.1) J q)) := by
  refine zRuns_intro rfl (Nat.le_of_ble_eq_true rfl) (fun X C hR => ?_)
  show zZ g X 0 0 _ 0 [(0, .ref 58), (1, .int (iI w))] []
  refine z_iload_n C 1 rfl dX6_ewes_0 rfl ?_
  rcases (show w = 0 ∨ w = 1 ∨ w = 2 ∨ w = 3 ∨ (w < 0 ∨ 3 < w) by omega) with hsw | hsw | hsw | hsw | hsw
  · rw [hsw]
    refine z_tabIn C 32 dX6_ewes_1 (by decide) (by decide) (by decide) rfl (by decide) ?_
    refine z_aload_n C 0 rfl dX6_ewes_32 rfl ?_
    refine y_callV0 C oX6_apart iX6_apart eX6_apart lkX6_269 (c_X6_apart hgr hrs) rfl (by decide) rfl rfl (by decide) (Nat.le_refl _) (Nat.le_refl _) (Nat.le_of_ble_eq_true rfl) dX6_ewes_33 ?_
    exact zZ_iret C hR (Nat.le_refl _) (Nat.le_refl _) dX6_ewes_36 rfl (zEx_I (by rw [uR0 (show fEwes w = 0 by rw [hsw]; rfl), hsw]; rfl) ⟨I, frR_rf⟩ (by rw [uK0 (show fEwes w = 0 by rw [hsw]; rfl)]))
  · rw [hsw]
    refine z_tabIn C 37 dX6_ewes_1 (by decide) (by decide) (by decide) rfl (by decide) ?_
    refine z_aload_n C 0 rfl dX6_ewes_37 rfl ?_
    refine y_callV0 C oX6_flock iX6_flock eX6_flock lkX6_272 (c_X6_flock hgr hrs) rfl (by decide) rfl rfl (by decide) (Nat.le_refl _) (Nat.le_refl _) (Nat.le_of_ble_eq_true rfl) dX6_ewes_38 ?_
    exact zZ_iret C hR (Nat.le_refl _) (Nat.le_refl _) dX6_ewes_41 rfl (zEx_I (by rw [uR0 (show fEwes w = 0 by rw [hsw]; rfl), hsw]; rfl) ⟨I, frR_rf⟩ (by rw [uK0 (show fEwes w = 0 by rw [hsw]; rfl)]))
  · rw [hsw]
    refine z_tabIn C 42 dX6_ewes_1 (by decide) (by decide) (by decide) rfl (by decide) ?_
    refine z_aload_n C 0 rfl dX6_ewes_42 rfl ?_
    refine y_callV0 C oX6_nearest iX6_nearest eX6_nearest lkX6_275 (c_X6_nearest hgr hrs) rfl (by decide) rfl rfl (by decide) (Nat.le_refl _) (Nat.le_refl _) (Nat.le_of_ble_eq_true rfl) dX6_ewes_43 ?_
    exact zZ_iret C hR (Nat.le_refl _) (Nat.le_refl _) dX6_ewes_46 rfl (zEx_I (by rw [uR0 (show fEwes w = 0 by rw [hsw]; rfl), hsw]; rfl) ⟨I, frR_rf⟩ (by rw [uK0 (show fEwes w = 0 by rw [hsw]; rfl)]))
  · rw [hsw]
    refine z_tabIn C 47 dX6_ewes_1 (by decide) (by decide) (by decide) rfl (by decide) ?_
    refine z_aload_n C 0 rfl dX6_ewes_47 rfl ?_
    refine y_callV0 C oX6_moved iX6_moved eX6_moved lkX6_278 (c_X6_moved hgr hrs hdo) rfl (by decide) rfl rfl (by decide) (Nat.le_refl _) (Nat.le_refl _) (Nat.le_of_ble_eq_true rfl) dX6_ewes_48 ?_
    exact zZ_iret C hR (Nat.le_refl _) (Nat.le_refl _) dX6_ewes_51 rfl (zEx_I (by rw [uR0 (show fEwes w = 0 by rw [hsw]; rfl), hsw]; rfl) ⟨svI I 0 (spR I), frR_sv⟩ (by rw [uK0 (show fEwes w = 0 by rw [hsw]; rfl)]))
  · refine z_tabOut C 52 dX6_ewes_1 (by omega) hsw (by decide) ?_
    refine z_aload_n C 0 rfl dX6_ewes_52 rfl ?_
    refine z_bipush C dX6_ewes_53 (by decide) ?_
    refine y_callV1 C oX6_no iX6_no eX6_no lkX6_83 (c_X6_no (by first | assumption | omega)) rfl (by decide) rfl rfl (by decide) (Nat.le_refl _) (Nat.le_refl _) (Nat.le_of_ble_eq_true rfl) dX6_ewes_55 ?_
    exact zZ_iret C hR (Nat.le_refl _) (Nat.le_refl _) dX6_ewes_58 rfl (zEx_I (uRc (show fEwes w = -2 by unfold fEwes; rw [if_neg (by omega)]) (by decide)).symm ⟨I, frR_rf⟩ (by rw [uKc (show fEwes w = -2 by unfold fEwes; rw [if_neg (by omega)]) (by decide)]))
set_option maxHeartbeats 4000000 in
set_option maxRecDepth 100000 in
theorem c_X6_held {g : zG} {I : Nat → Nat → Int} {J : Nat → Nat → Int64} {q : Nat × Nat}  (hgr : gR I) (hrs : gRS (spR I)) (hdo : openN (I 58 0) (maskW (I 59)) (I 58 3) = true) : zRun g mX6_held 7 [.ref 58] (zst I J q) (some (.int (iI ((bitsN (hdP I) (I 58 5).toNat : Nat))))) (zst (svI I 0 (spR I)) J q) := by
  obtain ⟨b1, b2, b3, b4, b5, b6, b7⟩ := id hgr
  obtain ⟨k1, k2, k3⟩ := id hrs
  have k1 : gC7 (I 58 3) := k1
  have k2 : 0 ≤ I 58 4 ∧ I 58 4 ≤ 4 := k2
  have k3 : ∀ e, e < 5 → gC7 (I 62 e) := k3
  have k1' := k1.1
  have b2' := b2.1
  obtain ⟨n, hn⟩ : ∃ n : Nat, I 58 5 = n := ⟨(I 58 5).toNat, by omega⟩
  have hn2 : (I 58 5).toNat = n := by omega
  rw [hn2]
  obtain ⟨P, hP⟩ : ∃ P, P = hdP I := ⟨_, rfl⟩
  rw [← hP]
  have hmv : mvR I = bitsN (mvP I) n := by rw [← hn2]; rfl
  have hml := bitsN_lt (mvP I) n
  have hml2 : (2 : Nat) ^ n ≤ 2 ^ 5 := Nat.pow_le_pow_right (by decide) (by omega)
  have s5 : (svI I 0 (spR I)) 58 5 = I 58 5 := by rw [svI_n (by decide)]
  have s3 : (svI I 0 (spR I)) 58 3 = I 58 3 := by rw [svI_n (by decide)]
  refine zRuns_intro rfl (Nat.le_of_ble_eq_true rfl) (fun X C hR => ?_)
  show zZ g X 0 0 _ 0 [(0, .ref 58)] []
  refine z_aload_n C 0 rfl dX6_held_0 rfl ?_
  refine y_callV0 C oX6_moved iX6_moved eX6_moved lkX6_278 (c_X6_moved hgr hrs hdo) rfl (by decide) rfl rfl (by decide) (Nat.le_refl _) (Nat.le_refl _) (Nat.le_of_ble_eq_true rfl) dX6_held_1 ?_
  refine z_topI C (fun mv emv => ?_)
  have emv : mv = (bitsN (mvP I) n : Nat) := by rw [emv, hmv]
  refine z_istore_n C [(1, .int (iI mv)), (0, .ref 58)] dX6_held_4 rfl (by decide) rfl ?_
  refine z_iconst C dX6_held_5 ?_
  refine z_istore_n C [(2, .int (iI 0)), (1, .int (iI mv)), (0, .ref 58)] dX6_held_6 rfl (by decide) rfl ?_
  refine z_iconst C dX6_held_7 ?_
  refine z_istore_n C [(3, .int (iI 0)), (2, .int (iI 0)), (1, .int (iI mv)), (0, .ref 58)] dX6_held_8 rfl (by decide) rfl ?_
  refine zZ_sub [3, 2, 1, 0] rfl ?_
  refine zZ_cast (σ' := (fun _ : Nat => zst (svI I 0 (spR I)) J q) 0) (L' := (fun e : Nat => [(0, .ref 58), (1, .int (iI mv)), (2, .int (iI (bitsN P e : Nat))), (3, .int (iI (e : Int)))]) 0) rfl rfl rfl ?_
  refine zfor (n) (fun _ => True) (fun _ : Nat => zst (svI I 0 (spR I)) J q) (fun e : Nat => [(0, .ref 58), (1, .int (iI mv)), (2, .int (iI (bitsN P e : Nat))), (3, .int (iI (e : Int)))]) trivial ?_ ?_
  · intro e hee hpe kke
    have q3 := (k3 e (by omega)).1
    have qs := stp_r (c := I 62 e) (d := I 58 3) (by omega) (by omega)
    have hbt := bits_at (P := mvP I) (n := n) (e := e) (by omega)
    refine z_iload_n C 3 rfl dX6_held_9 rfl ?_
    refine z_aload_n C 0 rfl dX6_held_10 rfl ?_
    refine y_getI C zCl6 5 flX6_72 rfl rfl dX6_held_11 ?_
    rw [s5]
    refine z_icmp_ge C 62 dX6_held_14 (by decide) (by omega) (by omega) (fun h14 => ?_) (fun h14 => ?_)
    · omega
    · refine z_aload_n C 0 rfl dX6_held_17 rfl ?_
      refine z_iload_n C 3 rfl dX6_held_18 rfl ?_
      refine y_callV1 C oX6_isIn iX6_isIn eX6_isIn lkX6_122 (c_X6_isIn (gR_sv hgr) (by rw [spR_sv]; exact hrs) (by first | assumption | omega)) rfl (by decide) rfl rfl (by decide) (Nat.le_refl _) (Nat.le_refl _) (Nat.le_of_ble_eq_true rfl) dX6_held_19 ?_
      refine z_top C (bI (decide (I 62 e = I 58 2))) (by rw [svI_n (by decide), svI_n (by decide)]) ?_
      refine y_if_neB C 56 dX6_held_22 (by decide) (fun h22 => ?_) (fun h22 => ?_)
      · obtain ⟨v1, ev1⟩ : ∃ y : Int, y = (e : Int) + 1 := ⟨_, rfl⟩
        refine z_iinc C 3 v1 [(3, .int (iI v1)), (0, .ref 58), (1, .int (iI mv)), (2, .int (iI ((bitsN P e : Nat))))] dX6_held_56 rfl ev1.symm (by decide) rfl ?_
        refine z_goto C 9 dX6_held_59 (by decide) ?_
        refine zZ_sub [1, 2, 3, 0] rfl ?_
        refine zZ_cast rfl (zLk (zLk (zLc (by rw [bitsN_no (by rw [hP]; unfold hdP; simp [show I 62 e = I 58 2 by simpa using h22])]) (zLc (by omega) rfl)))) rfl (kke trivial)
      · refine z_aload_n C 0 rfl dX6_held_25 rfl ?_
        refine y_getR C zCl6 8 flX6_20 rfl rfl rfl dX6_held_26 ?_
        refine z_iload_n C 3 rfl dX6_held_29 rfl ?_
        refine y_iald C e (by omega) rfl (by omega) (by decide) dX6_held_30 ?_
        refine z_top C (I 62 e) (by rw [svI_n (by decide)]) ?_
        refine z_aload_n C 0 rfl dX6_held_31 rfl ?_
        refine y_getI C zCl6 3 flX6_61 rfl rfl dX6_held_32 ?_
        rw [s3]
        refine y_callS2 C oX6_steps sX6_steps lkX6_215 (c_X6_steps (by first | assumption | omega) (by first | assumption | omega)) (by decide) (Nat.le_refl _) (Nat.le_refl _) (Nat.le_of_ble_eq_true rfl) dX6_held_35 ?_
        refine z_iconst C dX6_held_38 ?_
        refine z_icmp_ge C 56 dX6_held_39 (by decide) (by omega) (by omega) (fun h39 => ?_) (fun h39 => ?_)
        · obtain ⟨v2, ev2⟩ : ∃ y : Int, y = (e : Int) + 1 := ⟨_, rfl⟩
          refine z_iinc C 3 v2 [(3, .int (iI v2)), (0, .ref 58), (1, .int (iI mv)), (2, .int (iI ((bitsN P e : Nat))))] dX6_held_56 rfl ev2.symm (by decide) rfl ?_
          refine z_goto C 9 dX6_held_59 (by decide) ?_
          refine zZ_sub [1, 2, 3, 0] rfl ?_
          refine zZ_cast rfl (zLk (zLk (zLc (by rw [bitsN_no (by rw [hP]; unfold hdP; rw [decide_eq_false (show ¬ stp (I 62 e) (I 58 3) < 4 by omega)]; simp)]) (zLc (by omega) rfl)))) rfl (kke trivial)
        · refine z_iload_n C 1 rfl dX6_held_42 rfl ?_
          refine z_iload_n C 3 rfl dX6_held_43 rfl ?_
          refine z_ishr C ((bitsN (mvP I) n / 2 ^ e : Nat) : Int) dX6_held_44 (by rw [emv]; exact iI_shr (by omega) (by omega)) ?_
          refine z_iconst C dX6_held_45 ?_
          refine z_iand C ((bitsN (mvP I) n / 2 ^ e % 2 : Nat) : Int) dX6_held_46 (iI_and1 (by have := Nat.div_le_self (bitsN (mvP I) n) (2 ^ e); omega)) ?_
          refine z_if_ne C 56 dX6_held_47 (by decide) (by omega) (fun h47 => ?_) (fun h47 => ?_)
          · obtain ⟨v3, ev3⟩ : ∃ y : Int, y = (e : Int) + 1 := ⟨_, rfl⟩
            refine z_iinc C 3 v3 [(3, .int (iI v3)), (0, .ref 58), (1, .int (iI mv)), (2, .int (iI ((bitsN P e : Nat))))] dX6_held_56 rfl ev3.symm (by decide) rfl ?_
            refine z_goto C 9 dX6_held_59 (by decide) ?_
            refine zZ_sub [1, 2, 3, 0] rfl ?_
            refine zZ_cast rfl (zLk (zLk (zLc (by rw [bitsN_no (by rw [hP]; unfold hdP; rw [show mvP I e = true from Decidable.byContradiction (fun z => by rw [if_neg z] at hbt; omega)]; simp)]) (zLc (by omega) rfl)))) rfl (kke trivial)
          · refine z_iload_n C 2 rfl dX6_held_50 rfl ?_
            refine z_iconst C dX6_held_51 ?_
            refine z_iload_n C 3 rfl dX6_held_52 rfl ?_
            refine z_ishl C ((2 ^ e : Nat) : Int) dX6_held_53 (iI_sh1 (by omega)) ?_
            refine z_ior C (bitsN P (e + 1) : Nat) dX6_held_54 (bitsN_step (by omega) (by rw [hP]; unfold hdP; rw [decide_eq_false (show ¬ I 62 e = I 58 2 by simpa using h22), decide_eq_true (show stp (I 62 e) (I 58 3) < 4 by omega), show mvP I e = false from Bool.eq_false_iff.mpr (fun z => by rw [if_pos z] at hbt; omega)]; rfl)) ?_
            refine z_istore_n C [(2, .int (iI ((bitsN P (e + 1) : Nat)))), (0, .ref 58), (1, .int (iI mv)), (3, .int (iI ((e : Int))))] dX6_held_55 rfl (by decide) rfl ?_
            obtain ⟨v4, ev4⟩ : ∃ y : Int, y = (e : Int) + 1 := ⟨_, rfl⟩
            refine z_iinc C 3 v4 [(3, .int (iI v4)), (2, .int (iI ((bitsN P (e + 1) : Nat)))), (0, .ref 58), (1, .int (iI mv))] dX6_held_56 rfl ev4.symm (by decide) rfl ?_
            refine z_goto C 9 dX6_held_59 (by decide) ?_
            refine zZ_sub [2, 3, 1, 0] rfl ?_
            refine zZ_cast rfl (zLk (zLk (zLc rfl (zLc (by omega) rfl)))) rfl (kke trivial)
  · intro hpe
    refine z_iload_n C 3 rfl dX6_held_9 rfl ?_
    refine z_aload_n C 0 rfl dX6_held_10 rfl ?_
    refine y_getI C zCl6 5 flX6_72 rfl rfl dX6_held_11 ?_
    rw [s5]
    refine z_icmp_ge C 62 dX6_held_14 (by decide) (by omega) (by omega) (fun h14 => ?_) (fun h14 => ?_)
    · refine z_iload_n C 2 rfl dX6_held_62 rfl ?_
      exact zZ_iret C hR (Nat.le_refl _) (Nat.le_refl _) dX6_held_63 rfl (zIs_I rfl rfl)
    · omega
