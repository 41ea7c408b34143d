set_option maxHeartbeats 4000000 in
set_option maxRecDepth 100000 in
theorem c_X5_grazing {g : zG} {I : Nat → Nat → Int} {J : Nat → Nat → Int64} {q : Nat × Nat}  (hg : gH I 1) (hq : gS I 4) (hl : gL I) : zRun g mX5_grazing 3 [.ref 0] (zst I J q) (some (.int (iI ((grazN I : Nat))))) (zst I J q) := by
  obtain ⟨g1, g2, g3, g4, g5, g6⟩ := id hg
  obtain ⟨k1, k2, k3⟩ := id hq
  have k3 : ∀ e, e < 5 → 0 ≤ I 5 e ∧ I 5 e ≤ 66 := k3
  have hPen : I 1 1 = I 1 1 := rfl
  obtain ⟨n, hn⟩ : ∃ n : Nat, I 1 6 = n := ⟨(I 1 6).toNat, by omega⟩
  have hn2 : (I 1 6).toNat = n := by omega
  unfold grazN
  obtain ⟨P, hP⟩ : ∃ P, P = fun e => !decide (I 5 e = I 1 1) && decide (3 < stp (I 5 e) (I 4 0)) := ⟨_, rfl⟩
  rw [← hP]
  refine zRuns_intro rfl (Nat.le_of_ble_eq_true rfl) (fun X C hR => ?_)
  show zZ g X 0 0 _ 0 [(0, .ref 0)] []
  refine z_iconst C dX5_grazing_0 ?_
  refine z_istore_n C [(1, .int (iI 0)), (0, .ref 0)] dX5_grazing_1 rfl (by decide) rfl ?_
  refine z_iconst C dX5_grazing_2 ?_
  refine z_istore_n C [(2, .int (iI 0)), (1, .int (iI 0)), (0, .ref 0)] dX5_grazing_3 rfl (by decide) rfl ?_
  refine zZ_sub [2, 1, 0] rfl ?_
  refine zZ_cast (σ' := (fun _ : Nat => zst I J q) 0) (L' := (fun e : Nat => [(0, .ref 0), (1, .int (iI (bitsN P e : Nat))), (2, .int (iI (e : Int)))]) 0) rfl rfl rfl ?_
  refine zfor (n) (fun _ => True) (fun _ : Nat => zst I J q) (fun e : Nat => [(0, .ref 0), (1, .int (iI (bitsN P e : Nat))), (2, .int (iI (e : Int)))]) trivial ?_ ?_
  · intro e hee hpe kke
    have qe : 0 ≤ I (1 + 3 + 1) e ∧ I (1 + 3 + 1) e ≤ 66 := k3 e (by omega)
    have qd : 0 ≤ I (1 + 3) 0 ∧ I (1 + 3) 0 ≤ 66 := k1
    have qs := stp_r (c := I (1 + 3 + 1) e) (d := I (1 + 3) 0) (by omega) (by omega)
    refine z_iload_n C 2 rfl dX5_grazing_4 rfl ?_
    refine z_aload_n C 0 rfl dX5_grazing_5 rfl ?_
    refine y_getR C zCl5 0 flX5_10 rfl rfl rfl dX5_grazing_6 ?_
    refine y_getI C zCl0 6 flX5_156 rfl rfl dX5_grazing_9 ?_
    refine z_icmp_ge C 74 dX5_grazing_12 (by decide) (by omega) (by omega) (fun h12 => ?_) (fun h12 => ?_)
    · omega
    · refine z_aload_n C 0 rfl dX5_grazing_15 rfl ?_
      refine y_getR C zCl5 0 flX5_10 rfl rfl rfl dX5_grazing_16 ?_
      refine z_aload_n C 0 rfl dX5_grazing_19 rfl ?_
      refine y_getR C zCl5 0 flX5_10 rfl rfl rfl dX5_grazing_20 ?_
      refine y_getR C zCl0 9 flX5_118 rfl rfl rfl dX5_grazing_23 ?_
      refine z_iload_n C 2 rfl dX5_grazing_26 rfl ?_
      refine y_callV2 C oX0_isIn iX0_isIn eX0_isIn lkX5_307 (c_X0_isIn isH_1 isS_4 hg hq (by first | assumption | omega)) rfl (by decide) rfl rfl (by decide) (Nat.le_refl _) (Nat.le_refl _) (Nat.le_of_ble_eq_true rfl) dX5_grazing_27 ?_
      refine y_if_neB C 68 dX5_grazing_30 (by decide) (fun h30 => ?_) (fun h30 => ?_)
      · obtain ⟨v1, ev1⟩ : ∃ y : Int, y = (e : Int) + 1 := ⟨_, rfl⟩
        refine z_iinc C 2 v1 [(2, .int (iI v1)), (0, .ref 0), (1, .int (iI ((bitsN P e : Nat))))] dX5_grazing_68 rfl ev1.symm (by decide) rfl ?_
        refine z_goto C 4 dX5_grazing_71 (by decide) ?_
        refine zZ_sub [1, 2, 0] rfl ?_
        refine zZ_cast rfl (zLk (zLc (by rw [bitsN_no (by rw [hP]; simp [show I 5 e = I 1 1 by simpa using h30])]) (zLc (by omega) rfl))) rfl (kke trivial)
      · refine z_aload_n C 0 rfl dX5_grazing_33 rfl ?_
        refine y_getR C zCl5 0 flX5_10 rfl rfl rfl dX5_grazing_34 ?_
        refine y_getR C zCl0 9 flX5_118 rfl rfl rfl dX5_grazing_37 ?_
        refine y_getR C zCl3 2 flX5_162 rfl rfl rfl dX5_grazing_40 ?_
        refine z_iload_n C 2 rfl dX5_grazing_43 rfl ?_
        refine y_iald C e (by omega) rfl (by omega) (by decide) dX5_grazing_44 ?_
        refine z_aload_n C 0 rfl dX5_grazing_45 rfl ?_
        refine y_getR C zCl5 0 flX5_10 rfl rfl rfl dX5_grazing_46 ?_
        refine y_getR C zCl0 9 flX5_118 rfl rfl rfl dX5_grazing_49 ?_
        refine y_getI C zCl3 0 flX5_150 rfl rfl dX5_grazing_52 ?_
        refine y_callS2 C oX5_stepsBetween sX5_stepsBetween lkX5_183 (c_X5_stepsBetween (by first | assumption | omega) (by first | assumption | omega)) (by decide) (Nat.le_refl _) (Nat.le_refl _) (Nat.le_of_ble_eq_true rfl) dX5_grazing_55 ?_
        refine z_iconst C dX5_grazing_58 ?_
        refine z_icmp_le C 68 dX5_grazing_59 (by decide) (by omega) (by omega) (fun h59 => ?_) (fun h59 => ?_)
        · obtain ⟨v2, ev2⟩ : ∃ y : Int, y = (e : Int) + 1 := ⟨_, rfl⟩
          refine z_iinc C 2 v2 [(2, .int (iI v2)), (0, .ref 0), (1, .int (iI ((bitsN P e : Nat))))] dX5_grazing_68 rfl ev2.symm (by decide) rfl ?_
          refine z_goto C 4 dX5_grazing_71 (by decide) ?_
          refine zZ_sub [1, 2, 0] rfl ?_
          refine zZ_cast rfl (zLk (zLc (by rw [bitsN_no (by rw [hP]; have h59 : stp (I 5 e) (I 4 0) ≤ 3 := h59; simp; intro; omega)]) (zLc (by omega) rfl))) rfl (kke trivial)
        · refine z_iload_n C 1 rfl dX5_grazing_62 rfl ?_
          refine z_iconst C dX5_grazing_63 ?_
          refine z_iload_n C 2 rfl dX5_grazing_64 rfl ?_
          refine z_ishl C ((2 ^ e : Nat) : Int) dX5_grazing_65 (iI_sh1 (by omega)) ?_
          refine z_ior C (bitsN P (e + 1) : Nat) dX5_grazing_66 (bitsN_step (by omega) (by rw [hP]; have h59 : ¬ stp (I 5 e) (I 4 0) ≤ 3 := h59; simp [show ¬ I 5 e = I 1 1 by simpa using h30]; omega)) ?_
          refine z_istore_n C [(1, .int (iI ((bitsN P (e + 1) : Nat)))), (0, .ref 0), (2, .int (iI ((e : Int))))] dX5_grazing_67 rfl (by decide) rfl ?_
          obtain ⟨v3, ev3⟩ : ∃ y : Int, y = (e : Int) + 1 := ⟨_, rfl⟩
          refine z_iinc C 2 v3 [(2, .int (iI v3)), (1, .int (iI ((bitsN P (e + 1) : Nat)))), (0, .ref 0)] dX5_grazing_68 rfl ev3.symm (by decide) rfl ?_
          refine z_goto C 4 dX5_grazing_71 (by decide) ?_
          refine zZ_sub [2, 1, 0] rfl ?_
          refine zZ_cast rfl (zLk (zLc rfl (zLc (by omega) rfl))) rfl (kke trivial)
  · intro hpe
    refine z_iload_n C 2 rfl dX5_grazing_4 rfl ?_
    refine z_aload_n C 0 rfl dX5_grazing_5 rfl ?_
    refine y_getR C zCl5 0 flX5_10 rfl rfl rfl dX5_grazing_6 ?_
    refine y_getI C zCl0 6 flX5_156 rfl rfl dX5_grazing_9 ?_
    refine z_icmp_ge C 74 dX5_grazing_12 (by decide) (by omega) (by omega) (fun h12 => ?_) (fun h12 => ?_)
    · refine z_iload_n C 1 rfl dX5_grazing_74 rfl ?_
      exact zZ_iret C hR (Nat.le_refl _) (Nat.le_refl _) dX5_grazing_75 rfl (zIs_I (by rw [hn2]) rfl)
    · omega
set_option maxHeartbeats 4000000 in
set_option maxRecDepth 100000 in
theorem c_X5_last {g : zG} {I : Nat → Nat → Int} {J : Nat → Nat → Int64} {q : Nat × Nat}  (hg : gH I 1) (hq : gS I 4) (hl : gL I) : zRun g mX5_last 2 [.ref 0] (zst I J q) (some (.int (iI ((lastF (I 5) (I 1 1) (I 1 6).toNat).1)))) (zst I J q) := by
  obtain ⟨g1, g2, g3, g4, g5, g6⟩ := id hg
  obtain ⟨k1, k2, k3⟩ := id hq
  have k3 : ∀ e, e < 5 → 0 ≤ I 5 e ∧ I 5 e ≤ 66 := k3
  have hPen : I 1 1 = I 1 1 := rfl
  obtain ⟨n, hn⟩ : ∃ n : Nat, I 1 6 = n := ⟨(I 1 6).toNat, by omega⟩
  have hn2 : (I 1 6).toNat = n := by omega
  refine zRuns_intro rfl (Nat.le_of_ble_eq_true rfl) (fun X C hR => ?_)
  show zZ g X 0 0 _ 0 [(0, .ref 0)] []
  refine z_iconst C dX5_last_0 ?_
  refine z_istore_n C [(1, .int (iI ((-1)))), (0, .ref 0)] dX5_last_1 rfl (by decide) rfl ?_
  refine z_iconst C dX5_last_2 ?_
  refine z_istore_n C [(2, .int (iI ((-1)))), (1, .int (iI ((-1)))), (0, .ref 0)] dX5_last_3 rfl (by decide) rfl ?_
  refine z_iconst C dX5_last_4 ?_
  refine z_istore_n C [(3, .int (iI 0)), (2, .int (iI ((-1)))), (1, .int (iI ((-1)))), (0, .ref 0)] dX5_last_5 rfl (by decide) rfl ?_
  refine zZ_sub [3, 2, 1, 0] rfl ?_
  refine zZ_cast (σ' := (fun _ : Nat => zst I J q) 0) (L' := (fun e : Nat => [(0, .ref 0), (1, .int (iI (lastF (I 5) (I 1 1) e).1)), (2, .int (iI (lastF (I 5) (I 1 1) e).2)), (3, .int (iI (e : Int)))]) 0) rfl rfl rfl ?_
  refine zfor (n) (fun _ => True) (fun _ : Nat => zst I J q) (fun e : Nat => [(0, .ref 0), (1, .int (iI (lastF (I 5) (I 1 1) e).1)), (2, .int (iI (lastF (I 5) (I 1 1) e).2)), (3, .int (iI (e : Int)))]) trivial ?_ ?_
  · intro e hee hpe kke
    have qe : 0 ≤ I (1 + 3 + 1) e ∧ I (1 + 3 + 1) e ≤ 66 := k3 e (by omega)
    have qd : 0 ≤ I (1 + 3) 0 ∧ I (1 + 3) 0 ≤ 66 := k1
    have hst := stp_r (c := I (1 + 3 + 1) e) (d := I 1 1) (by omega) (by omega)
    have hr := lastF_r (C := I 5) (pen := I 1 1) (k := e) (by omega) g2 k3
    obtain ⟨nr, ls, hnl⟩ : ∃ nr ls, lastF (I 5) (I 1 1) e = (nr, ls) := ⟨_, _, rfl⟩
    rw [hnl] at hr ⊢
    simp only at hr
    refine z_iload_n C 3 rfl dX5_last_6 rfl ?_
    refine z_aload_n C 0 rfl dX5_last_7 rfl ?_
    refine y_getR C zCl5 0 flX5_10 rfl rfl rfl dX5_last_8 ?_
    refine y_getI C zCl0 6 flX5_156 rfl rfl dX5_last_11 ?_
    refine z_icmp_ge C 58 dX5_last_14 (by decide) (by omega) (by omega) (fun h14 => ?_) (fun h14 => ?_)
    · omega
    · refine z_aload_n C 0 rfl dX5_last_17 rfl ?_
      refine y_getR C zCl5 0 flX5_10 rfl rfl rfl dX5_last_18 ?_
      refine y_getR C zCl0 9 flX5_118 rfl rfl rfl dX5_last_21 ?_
      refine y_getR C zCl3 2 flX5_162 rfl rfl rfl dX5_last_24 ?_
      refine z_iload_n C 3 rfl dX5_last_27 rfl ?_
      refine y_iald C e (by omega) rfl (by omega) (by decide) dX5_last_28 ?_
      refine z_aload_n C 0 rfl dX5_last_29 rfl ?_
      refine y_getR C zCl5 0 flX5_10 rfl rfl rfl dX5_last_30 ?_
      refine y_getI C zCl0 1 flX5_144 rfl rfl dX5_last_33 ?_
      refine y_callS2 C oX5_stepsBetween sX5_stepsBetween lkX5_183 (c_X5_stepsBetween (by first | assumption | omega) (by first | assumption | omega)) (by decide) (Nat.le_refl _) (Nat.le_refl _) (Nat.le_of_ble_eq_true rfl) dX5_last_36 ?_
      refine z_topI C (fun aw eaw => ?_)
      refine z_istore C [(4, .int (iI aw)), (0, .ref 0), (1, .int (iI nr)), (2, .int (iI ls)), (3, .int (iI ((e : Int))))] dX5_last_39 (by decide) rfl ?_
      refine z_iload C 0 rfl dX5_last_41 ?_
      refine z_iload_n C 3 rfl dX5_last_43 rfl ?_
      refine z_icmp_le C 52 dX5_last_44 (by decide) (by omega) (by omega) (fun h44 => ?_) (fun h44 => ?_)
      · obtain ⟨v1, ev1⟩ : ∃ y : Int, y = (e : Int) + 1 := ⟨_, rfl⟩
        refine z_iinc C 4 v1 [(3, .int (iI v1)), (4, .int (iI aw)), (0, .ref 0), (1, .int (iI nr)), (2, .int (iI ls))] dX5_last_52 rfl ev1.symm (by decide) rfl ?_
        refine z_goto C 6 dX5_last_55 (by decide) ?_
        refine zZ_sub [2, 3, 4, 0] rfl ?_
        refine zZ_cast rfl (zLk (zLc (by simp only [lastF, hnl]; have eaw : aw = stp (I 5 e) (I 1 1) := eaw; rw [if_neg (by omega)]) (zLc (by simp only [lastF, hnl]; have eaw : aw = stp (I 5 e) (I 1 1) := eaw; rw [if_neg (by omega)]) (zLc (by omega) rfl)))) rfl (kke trivial)
      · refine z_iload_n C 4 rfl dX5_last_47 rfl ?_
        refine z_istore_n C [(1, .int (iI ((e : Int)))), (4, .int (iI aw)), (0, .ref 0), (2, .int (iI ls)), (3, .int (iI ((e : Int))))] dX5_last_48 rfl (by decide) rfl ?_
        refine z_iload C 1 rfl dX5_last_49 ?_
        refine z_istore_n C [(2, .int (iI aw)), (1, .int (iI ((e : Int)))), (4, .int (iI aw)), (0, .ref 0), (3, .int (iI ((e : Int))))] dX5_last_51 rfl (by decide) rfl ?_
        obtain ⟨v2, ev2⟩ : ∃ y : Int, y = (e : Int) + 1 := ⟨_, rfl⟩
        refine z_iinc C 4 v2 [(3, .int (iI v2)), (2, .int (iI aw)), (1, .int (iI ((e : Int)))), (4, .int (iI aw)), (0, .ref 0)] dX5_last_52 rfl ev2.symm (by decide) rfl ?_
        refine z_goto C 6 dX5_last_55 (by decide) ?_
        refine zZ_sub [4, 2, 1, 0] rfl ?_
        refine zZ_cast rfl (zLk (zLc (by simp only [lastF, hnl]; have eaw : aw = stp (I 5 e) (I 1 1) := eaw; rw [if_pos (by omega)] <;> (try simp only) <;> (try omega)) (zLc (by simp only [lastF, hnl]; have eaw : aw = stp (I 5 e) (I 1 1) := eaw; rw [if_pos (by omega)] <;> (try simp only) <;> (try omega)) (zLc (by omega) rfl)))) rfl (kke trivial)
  · intro hpe
    refine z_iload_n C 3 rfl dX5_last_6 rfl ?_
    refine z_aload_n C 0 rfl dX5_last_7 rfl ?_
    refine y_getR C zCl5 0 flX5_10 rfl rfl rfl dX5_last_8 ?_
    refine y_getI C zCl0 6 flX5_156 rfl rfl dX5_last_11 ?_
    refine z_icmp_ge C 58 dX5_last_14 (by decide) (by omega) (by omega) (fun h14 => ?_) (fun h14 => ?_)
    · refine z_iload_n C 1 rfl dX5_last_58 rfl ?_
      exact zZ_iret C hR (Nat.le_refl _) (Nat.le_refl _) dX5_last_59 rfl (zIs_I (by rw [hn2]) rfl)
    · omega
set_option maxHeartbeats 4000000 in
set_option maxRecDepth 100000 in
theorem c_X5_near {g : zG} {I : Nat → Nat → Int} {J : Nat → Nat → Int64} {q : Nat × Nat} {w k : Int} (hg : gH I 1) (hq : gS I 4) (hl : gL I) (hw : -2147483648 ≤ w ∧ w ≤ 2147483647) (hk : -2147483648 ≤ k ∧ k ≤ 2147483647) : zRun g mX5_near 2 [.ref 0, .int (iI w), .int (iI k)] (zst I J q) (some (.int (iI (uR (fNear I w k) ((nearN I w k : Nat)))))) (zst (uI I (fNear I w k) (I)) J q) := by
  obtain ⟨g1, g2, g3, g4, g5, g6⟩ := id hg
  obtain ⟨k1, k2, k3⟩ := id hq
  have k3 : ∀ e, e < 5 → 0 ≤ I 5 e ∧ I 5 e ≤ 66 := k3
  have hPen : I 1 1 = I 1 1 := rfl
  obtain ⟨n, hn⟩ : ∃ n : Nat, I 1 6 = n := ⟨(I 1 6).toNat, by omega⟩
  have hn2 : (I 1 6).toNat = n := by omega
  have hNN : nearN I w k = bitsN (fun e => decide (¬ (e : Int) = w) && decide (stp (I 5 e) (I 5 w.toNat) ≤ k)) (I 1 6).toNat := rfl
  obtain ⟨P, hP⟩ : ∃ P : Nat → Bool, P = fun (e : Nat) => decide (¬ (e : Int) = w) && decide (stp (I 5 e) (I 5 w.toNat) ≤ k) := ⟨_, rfl⟩
  rw [← hP] at hNN
  refine zRuns_intro rfl (Nat.le_of_ble_eq_true rfl) (fun X C hR => ?_)
  show zZ g X 0 0 _ 0 [(0, .ref 0), (1, .int (iI w)), (2, .int (iI k))] []
  refine z_aload_n C 0 rfl dX5_near_0 rfl ?_
  refine y_getR C zCl5 0 flX5_10 rfl rfl rfl dX5_near_1 ?_
  refine z_iload_n C 1 rfl dX5_near_4 rfl ?_
  refine y_callV1 C oX0_isEwe iX0_isEwe eX0_isEwe lkX5_103 (c_X0_isEwe isH_1 hg (by first | assumption | omega)) rfl (by decide) rfl rfl (by decide) (Nat.le_refl _) (Nat.le_refl _) (Nat.le_of_ble_eq_true rfl) dX5_near_5 ?_
  refine y_if_eqB C 21 dX5_near_8 (by decide) (fun h8 => ?_) (fun h8 => ?_)
  · refine z_aload_n C 0 rfl dX5_near_21 rfl ?_
    refine z_bipush C dX5_near_22 (by decide) ?_
    refine y_callV1 C oX5_refuse iX5_refuse eX5_refuse lkX5_59 (c_X5_refuse (by first | assumption | omega)) rfl (by decide) rfl rfl (by decide) (Nat.le_refl _) (Nat.le_refl _) (Nat.le_of_ble_eq_true rfl) dX5_near_24 ?_
    exact zZ_iret C hR (Nat.le_refl _) (Nat.le_refl _) dX5_near_27 rfl (zIs_I (uRc (show fNear I w k = -2 by (try simp only [decide_eq_true_eq, decide_eq_false_iff_not, bI] at *); unfold fNear; (repeat' split) <;> first | rfl | omega | (exfalso; simp_all; done) | (exfalso; simp_all; omega)) (by decide)).symm (by rw [uIc (show fNear I w k = -2 by (try simp only [decide_eq_true_eq, decide_eq_false_iff_not, bI] at *); unfold fNear; (repeat' split) <;> first | rfl | omega | (exfalso; simp_all; done) | (exfalso; simp_all; omega)) (by decide)]))
  · refine z_iload_n C 2 rfl dX5_near_11 rfl ?_
    refine z_if_lt C 21 dX5_near_12 (by decide) (by omega) (fun h12 => ?_) (fun h12 => ?_)
    · refine z_aload_n C 0 rfl dX5_near_21 rfl ?_
      refine z_bipush C dX5_near_22 (by decide) ?_
      refine y_callV1 C oX5_refuse iX5_refuse eX5_refuse lkX5_59 (c_X5_refuse (by first | assumption | omega)) rfl (by decide) rfl rfl (by decide) (Nat.le_refl _) (Nat.le_refl _) (Nat.le_of_ble_eq_true rfl) dX5_near_24 ?_
      exact zZ_iret C hR (Nat.le_refl _) (Nat.le_refl _) dX5_near_27 rfl (zIs_I (uRc (show fNear I w k = -2 by (try simp only [decide_eq_true_eq, decide_eq_false_iff_not, bI] at *); unfold fNear; (repeat' split) <;> first | rfl | omega | (exfalso; simp_all; done) | (exfalso; simp_all; omega)) (by decide)).symm (by rw [uIc (show fNear I w k = -2 by (try simp only [decide_eq_true_eq, decide_eq_false_iff_not, bI] at *); unfold fNear; (repeat' split) <;> first | rfl | omega | (exfalso; simp_all; done) | (exfalso; simp_all; omega)) (by decide)]))
    · refine z_iload_n C 2 rfl dX5_near_15 rfl ?_
      refine z_bipush C dX5_near_16 (by decide) ?_
      refine z_icmp_le C 28 dX5_near_18 (by decide) (by omega) (by omega) (fun h18 => ?_) (fun h18 => ?_)
      · have hwr : 0 ≤ w ∧ w < I 1 6 := by simpa using h8
        have qw : 0 ≤ I (1 + 3 + 1) w.toNat ∧ I (1 + 3 + 1) w.toNat ≤ 66 := k3 w.toNat (by omega)
        refine z_iconst C dX5_near_28 ?_
        refine z_istore_n C [(3, .int (iI 0)), (0, .ref 0), (1, .int (iI w)), (2, .int (iI k))] dX5_near_29 rfl (by decide) rfl ?_
        refine z_iconst C dX5_near_30 ?_
        refine z_istore C [(4, .int (iI 0)), (3, .int (iI 0)), (0, .ref 0), (1, .int (iI w)), (2, .int (iI k))] dX5_near_31 (by decide) rfl ?_
        refine zZ_sub [2, 3, 4, 1, 0] rfl ?_
        refine zZ_cast (σ' := (fun _ : Nat => zst I J q) 0) (L' := (fun e : Nat => [(0, .ref 0), (1, .int (iI w)), (2, .int (iI k)), (3, .int (iI (bitsN P e : Nat))), (4, .int (iI (e : Int)))]) 0) rfl rfl rfl ?_
        refine zfor (n) (fun _ => True) (fun _ : Nat => zst I J q) (fun e : Nat => [(0, .ref 0), (1, .int (iI w)), (2, .int (iI k)), (3, .int (iI (bitsN P e : Nat))), (4, .int (iI (e : Int)))]) trivial ?_ ?_
        · intro e hee hpe kke
          have qe : 0 ≤ I (1 + 3 + 1) e ∧ I (1 + 3 + 1) e ≤ 66 := k3 e (by omega)
          have qd : 0 ≤ I (1 + 3) 0 ∧ I (1 + 3) 0 ≤ 66 := k1
          have qs := stp_r (c := I (1 + 3 + 1) e) (d := I (1 + 3 + 1) w.toNat) (by omega) (by omega)
          refine z_iload C 4 rfl dX5_near_33 ?_
          refine z_aload_n C 0 rfl dX5_near_35 rfl ?_
          refine y_getR C zCl5 0 flX5_10 rfl rfl rfl dX5_near_36 ?_
          refine y_getI C zCl0 6 flX5_156 rfl rfl dX5_near_39 ?_
          refine z_icmp_ge C 96 dX5_near_42 (by decide) (by omega) (by omega) (fun h42 => ?_) (fun h42 => ?_)
          · omega
          · refine z_iload C 4 rfl dX5_near_45 ?_
            refine z_iload_n C 1 rfl dX5_near_47 rfl ?_
            refine z_icmp_eq C 90 dX5_near_48 (by decide) (by omega) (by omega) (fun h48 => ?_) (fun h48 => ?_)
            · obtain ⟨v1, ev1⟩ : ∃ y : Int, y = (e : Int) + 1 := ⟨_, rfl⟩
              refine z_iinc C 4 v1 [(4, .int (iI v1)), (0, .ref 0), (1, .int (iI w)), (2, .int (iI k)), (3, .int (iI ((bitsN P e : Nat))))] dX5_near_90 rfl ev1.symm (by decide) rfl ?_
              refine z_goto C 33 dX5_near_93 (by decide) ?_
              refine zZ_sub [1, 2, 3, 4, 0] rfl ?_
              refine zZ_cast rfl (zLk (zLk (zLk (zLc (by rw [bitsN_no (by rw [hP]; simp; intro z; exact absurd (by omega) z)]) (zLc (by omega) rfl))))) rfl (kke trivial)
            · refine z_aload_n C 0 rfl dX5_near_51 rfl ?_
              refine y_getR C zCl5 0 flX5_10 rfl rfl rfl dX5_near_52 ?_
              refine y_getR C zCl0 9 flX5_118 rfl rfl rfl dX5_near_55 ?_
              refine y_getR C zCl3 2 flX5_162 rfl rfl rfl dX5_near_58 ?_
              refine z_iload C 4 rfl dX5_near_61 ?_
              refine y_iald C e (by omega) rfl (by omega) (by decide) dX5_near_63 ?_
              refine z_aload_n C 0 rfl dX5_near_64 rfl ?_
              refine y_getR C zCl5 0 flX5_10 rfl rfl rfl dX5_near_65 ?_
              refine y_getR C zCl0 9 flX5_118 rfl rfl rfl dX5_near_68 ?_
              refine y_getR C zCl3 2 flX5_162 rfl rfl rfl dX5_near_71 ?_
              refine z_iload_n C 1 rfl dX5_near_74 rfl ?_
              refine y_iald C w.toNat (by omega) rfl (by omega) (by decide) dX5_near_75 ?_
              refine y_callS2 C oX5_stepsBetween sX5_stepsBetween lkX5_183 (c_X5_stepsBetween (by first | assumption | omega) (by first | assumption | omega)) (by decide) (Nat.le_refl _) (Nat.le_refl _) (Nat.le_of_ble_eq_true rfl) dX5_near_76 ?_
              refine z_iload_n C 2 rfl dX5_near_79 rfl ?_
              refine z_icmp_gt C 90 dX5_near_80 (by decide) (by omega) (by omega) (fun h80 => ?_) (fun h80 => ?_)
              · obtain ⟨v2, ev2⟩ : ∃ y : Int, y = (e : Int) + 1 := ⟨_, rfl⟩
                refine z_iinc C 4 v2 [(4, .int (iI v2)), (0, .ref 0), (1, .int (iI w)), (2, .int (iI k)), (3, .int (iI ((bitsN P e : Nat))))] dX5_near_90 rfl ev2.symm (by decide) rfl ?_
                refine z_goto C 33 dX5_near_93 (by decide) ?_
                refine zZ_sub [1, 2, 3, 4, 0] rfl ?_
                refine zZ_cast rfl (zLk (zLk (zLk (zLc (by rw [bitsN_no (by rw [hP]; simp; intro; exact h80)]) (zLc (by omega) rfl))))) rfl (kke trivial)
              · refine z_iload_n C 3 rfl dX5_near_83 rfl ?_
                refine z_iconst C dX5_near_84 ?_
                refine z_iload C 4 rfl dX5_near_85 ?_
                refine z_ishl C ((2 ^ e : Nat) : Int) dX5_near_87 (iI_sh1 (by omega)) ?_
                refine z_ior C (bitsN P (e + 1) : Nat) dX5_near_88 (bitsN_step (by omega) (by rw [hP]; have h80 : ¬ k < stp (I 5 e) (I 5 w.toNat) := h80; simp; omega)) ?_
                refine z_istore_n C [(3, .int (iI ((bitsN P (e + 1) : Nat)))), (0, .ref 0), (1, .int (iI w)), (2, .int (iI k)), (4, .int (iI ((e : Int))))] dX5_near_89 rfl (by decide) rfl ?_
                obtain ⟨v3, ev3⟩ : ∃ y : Int, y = (e : Int) + 1 := ⟨_, rfl⟩
                refine z_iinc C 4 v3 [(4, .int (iI v3)), (3, .int (iI ((bitsN P (e + 1) : Nat)))), (0, .ref 0), (1, .int (iI w)), (2, .int (iI k))] dX5_near_90 rfl ev3.symm (by decide) rfl ?_
                refine z_goto C 33 dX5_near_93 (by decide) ?_
                refine zZ_sub [2, 3, 4, 1, 0] rfl ?_
                refine zZ_cast rfl (zLk (zLk (zLk (zLc rfl (zLc (by omega) rfl))))) rfl (kke trivial)
        · intro hpe
          refine z_iload C 4 rfl dX5_near_33 ?_
          refine z_aload_n C 0 rfl dX5_near_35 rfl ?_
          refine y_getR C zCl5 0 flX5_10 rfl rfl rfl dX5_near_36 ?_
          refine y_getI C zCl0 6 flX5_156 rfl rfl dX5_near_39 ?_
          refine z_icmp_ge C 96 dX5_near_42 (by decide) (by omega) (by omega) (fun h42 => ?_) (fun h42 => ?_)
          · refine z_iload_n C 3 rfl dX5_near_96 rfl ?_
            exact zZ_iret C hR (Nat.le_refl _) (Nat.le_refl _) dX5_near_97 rfl (zIs_I (by rw [uR0 (show fNear I w k = 0 by (try simp only [decide_eq_true_eq, decide_eq_false_iff_not, bI] at *); unfold fNear; (repeat' split) <;> first | rfl | omega | (exfalso; simp_all; done) | (exfalso; simp_all; omega))]; rw [hNN, hn2]) (by rw [uI0 (show fNear I w k = 0 by (try simp only [decide_eq_true_eq, decide_eq_false_iff_not, bI] at *); unfold fNear; (repeat' split) <;> first | rfl | omega | (exfalso; simp_all; done) | (exfalso; simp_all; omega))]))
          · omega
      · refine z_aload_n C 0 rfl dX5_near_21 rfl ?_
        refine z_bipush C dX5_near_22 (by decide) ?_
        refine y_callV1 C oX5_refuse iX5_refuse eX5_refuse lkX5_59 (c_X5_refuse (by first | assumption | omega)) rfl (by decide) rfl rfl (by decide) (Nat.le_refl _) (Nat.le_refl _) (Nat.le_of_ble_eq_true rfl) dX5_near_24 ?_
        exact zZ_iret C hR (Nat.le_refl _) (Nat.le_refl _) dX5_near_27 rfl (zIs_I (uRc (show fNear I w k = -2 by (try simp only [decide_eq_true_eq, decide_eq_false_iff_not, bI] at *); unfold fNear; (repeat' split) <;> first | rfl | omega | (exfalso; simp_all; done) | (exfalso; simp_all; omega)) (by decide)).symm (by rw [uIc (show fNear I w k = -2 by (try simp only [decide_eq_true_eq, decide_eq_false_iff_not, bI] at *); unfold fNear; (repeat' split) <;> first | rfl | omega | (exfalso; simp_all; done) | (exfalso; simp_all; omega)) (by decide)]))
set_option maxHeartbeats 4000000 in
set_option maxRecDepth 100000 in
theorem c_X5_steps {g : zG} {I : Nat → Nat → Int} {J : Nat → Nat → Int64} {q : Nat × Nat}  (hg : gH I 1) (hq : gS I 4) (hl : gL I) : zRun g mX5_steps 3 [.ref 0] (zst I J q) (some (.int (iI (penN (hv I J 1) (I 5))))) (zst I J q) := by
  refine zRuns_intro rfl (Nat.le_of_ble_eq_true rfl) (fun X C hR => ?_)
  show zZ g X 0 0 _ 0 [(0, .ref 0)] []
  refine z_aload_n C 0 rfl dX5_steps_0 rfl ?_
  refine y_getR C zCl5 0 flX5_10 rfl rfl rfl dX5_steps_1 ?_
  refine z_aload_n C 0 rfl dX5_steps_4 rfl ?_
  refine y_getR C zCl5 0 flX5_10 rfl rfl rfl dX5_steps_5 ?_
  refine y_getR C zCl0 9 flX5_118 rfl rfl rfl dX5_steps_8 ?_
  refine y_callV1 C oX0_stepsToPen iX0_stepsToPen eX0_stepsToPen lkX5_215 (c_X0_stepsToPen isH_1 isS_4 hg hq) rfl (by decide) rfl rfl (by decide) (Nat.le_refl _) (Nat.le_refl _) (Nat.le_of_ble_eq_true rfl) dX5_steps_11 ?_
  exact zZ_iret C hR (Nat.le_refl _) (Nat.le_refl _) dX5_steps_14 rfl (zIs_I rfl rfl)
set_option maxHeartbeats 4000000 in
set_option maxRecDepth 100000 in
theorem c_X5_open {g : zG} {I : Nat → Nat → Int} {J : Nat → Nat → Int64} {q : Nat × Nat} {c : Int} (hg : gH I 1) (hq : gS I 4) (hl : gL I) (hc : -2147483648 ≤ c ∧ c ≤ 2147483647) : zRun g mX5_open 2 [.ref 0, .int (iI c)] (zst I J q) (some (.int (iI (uR (fHasW I c) (cnt (fun k => openN (I 1 0) (J 1 5) (c + shN (k + 1))) 4))))) (zst (uI I (fHasW I c) (I)) J q) := by
  obtain ⟨g1, g2, g3, g4, g5, g6⟩ := id hg
  obtain ⟨k1, k2, k3⟩ := id hq
  obtain ⟨P, hP⟩ : ∃ P, P = fun k => openN (I 1 0) (J 1 5) (c + shN (k + 1)) := ⟨_, rfl⟩
  rw [← hP]
  refine zRuns_intro rfl (Nat.le_of_ble_eq_true rfl) (fun X C hR => ?_)
  show zZ g X 0 0 _ 0 [(0, .ref 0), (1, .int (iI c))] []
  refine z_aload_n C 0 rfl dX5_open_0 rfl ?_
  refine y_getR C zCl5 0 flX5_10 rfl rfl rfl dX5_open_1 ?_
  refine z_iload_n C 1 rfl dX5_open_4 rfl ?_
  refine y_callV1 C oX0_isCell iX0_isCell eX0_isCell lkX5_128 (c_X0_isCell isH_1 hg (by first | assumption | omega)) rfl (by decide) rfl rfl (by decide) (Nat.le_refl _) (Nat.le_refl _) (Nat.le_of_ble_eq_true rfl) dX5_open_5 ?_
  refine y_if_neB C 18 dX5_open_8 (by decide) (fun h8 => ?_) (fun h8 => ?_)
  · have hcr := isCellN_r g1.2 h8
    refine z_iconst C dX5_open_18 ?_
    refine z_istore_n C [(2, .int (iI 0)), (0, .ref 0), (1, .int (iI c))] dX5_open_19 rfl (by decide) rfl ?_
    refine z_iconst C dX5_open_20 ?_
    refine z_istore_n C [(3, .int (iI 1)), (2, .int (iI 0)), (0, .ref 0), (1, .int (iI c))] dX5_open_21 rfl (by decide) rfl ?_
    refine zZ_sub [2, 3, 1, 0] rfl ?_
    refine zZ_cast (σ' := (fun _ : Nat => zst I J q) 0) (L' := (fun e : Nat => [(0, .ref 0), (1, .int (iI c)), (2, .int (iI (cnt P e))), (3, .int (iI ((e : Int) + 1)))]) 0) rfl rfl rfl ?_
    refine zfor (4) (fun _ => True) (fun _ : Nat => zst I J q) (fun e : Nat => [(0, .ref 0), (1, .int (iI c)), (2, .int (iI (cnt P e))), (3, .int (iI ((e : Int) + 1)))]) trivial ?_ ?_
    · intro e hee hpe kke
      have hsh := shN_r (e + 1)
      have hcn := cnt_r P e
      refine z_iload_n C 3 rfl dX5_open_22 rfl ?_
      refine z_iconst C dX5_open_23 ?_
      refine z_icmp_ge C 53 dX5_open_24 (by decide) (by omega) (by omega) (fun h24 => ?_) (fun h24 => ?_)
      · omega
      · refine z_aload_n C 0 rfl dX5_open_27 rfl ?_
        refine y_getR C zCl5 0 flX5_10 rfl rfl rfl dX5_open_28 ?_
        refine z_iload_n C 1 rfl dX5_open_31 rfl ?_
        refine z_gets C (k := 0) rfl flX5_294 dX5_open_32 ?_
        refine z_iload_n C 3 rfl dX5_open_35 rfl ?_
        refine z_ialdS C (k := 0) rfl (e + 1) (by omega) (show _ < 5 by omega) (by decide) dX5_open_36 ?_
        refine z_iadd C dX5_open_37 ?_
        refine z_topI C (fun b eb => ?_)
        have eb : b = c + shN (e + 1) := eb
        subst eb
        refine y_callV1 C oX0_isOpen iX0_isOpen eX0_isOpen lkX5_153 (c_X0_isOpen isH_1 hg (by first | assumption | omega)) rfl (by decide) rfl rfl (by decide) (Nat.le_refl _) (Nat.le_refl _) (Nat.le_of_ble_eq_true rfl) dX5_open_38 ?_
        refine y_if_eqB C 47 dX5_open_41 (by decide) (fun h41 => ?_) (fun h41 => ?_)
        · obtain ⟨v1, ev1⟩ : ∃ y : Int, y = (e : Int) + 1 + 1 := ⟨_, rfl⟩
          refine z_iinc C 3 v1 [(3, .int (iI v1)), (0, .ref 0), (1, .int (iI c)), (2, .int (iI ((cnt P e))))] dX5_open_47 rfl ev1.symm (by decide) rfl ?_
          refine z_goto C 22 dX5_open_50 (by decide) ?_
          refine zZ_sub [1, 2, 3, 0] rfl ?_
          refine zZ_cast rfl (zLk (zLk (zLc (by simp only [cnt]; rw [show P e = false by rw [hP]; exact h41]; simp [bI]) (zLc (by omega) rfl)))) rfl (kke trivial)
        · obtain ⟨v2, ev2⟩ : ∃ y : Int, y = (cnt P e) + 1 := ⟨_, rfl⟩
          refine z_iinc C 2 v2 [(2, .int (iI v2)), (0, .ref 0), (1, .int (iI c)), (3, .int (iI ((e : Int) + 1)))] dX5_open_44 rfl ev2.symm (by decide) rfl ?_
          obtain ⟨v3, ev3⟩ : ∃ y : Int, y = (e : Int) + 1 + 1 := ⟨_, rfl⟩
          refine z_iinc C 3 v3 [(3, .int (iI v3)), (2, .int (iI v2)), (0, .ref 0), (1, .int (iI c))] dX5_open_47 rfl ev3.symm (by decide) rfl ?_
          refine z_goto C 22 dX5_open_50 (by decide) ?_
          refine zZ_sub [2, 3, 1, 0] rfl ?_
          refine zZ_cast rfl (zLk (zLk (zLc (by simp only [cnt]; rw [show P e = true by rw [hP]; exact h41]; simp [bI]; omega) (zLc (by omega) rfl)))) rfl (kke trivial)
    · intro hpe
      refine z_iload_n C 3 rfl dX5_open_22 rfl ?_
      refine z_iconst C dX5_open_23 ?_
      refine z_icmp_ge C 53 dX5_open_24 (by decide) (by omega) (by omega) (fun h24 => ?_) (fun h24 => ?_)
      · refine z_iload_n C 2 rfl dX5_open_53 rfl ?_
        exact zZ_iret C hR (Nat.le_refl _) (Nat.le_refl _) dX5_open_54 rfl (zIs_I ((rfl).trans (uR0 (show fHasW I c = 0 by (try simp only [decide_eq_true_eq, decide_eq_false_iff_not, bI] at *); unfold fHasW; (repeat' split) <;> first | rfl | omega | (exfalso; simp_all; done) | (exfalso; simp_all; omega))).symm) (by rw [uI0 (show fHasW I c = 0 by (try simp only [decide_eq_true_eq, decide_eq_false_iff_not, bI] at *); unfold fHasW; (repeat' split) <;> first | rfl | omega | (exfalso; simp_all; done) | (exfalso; simp_all; omega))]))
      · omega
  · refine z_aload_n C 0 rfl dX5_open_11 rfl ?_
    refine z_bipush C dX5_open_12 (by decide) ?_
    refine y_callV1 C oX5_refuse iX5_refuse eX5_refuse lkX5_59 (c_X5_refuse (by first | assumption | omega)) rfl (by decide) rfl rfl (by decide) (Nat.le_refl _) (Nat.le_refl _) (Nat.le_of_ble_eq_true rfl) dX5_open_14 ?_
    exact zZ_iret C hR (Nat.le_refl _) (Nat.le_refl _) dX5_open_17 rfl (zIs_I (uRc (show fHasW I c = -2 by (try simp only [decide_eq_true_eq, decide_eq_false_iff_not, bI] at *); unfold fHasW; (repeat' split) <;> first | rfl | omega | (exfalso; simp_all; done) | (exfalso; simp_all; omega)) (by decide)).symm (by rw [uIc (show fHasW I c = -2 by (try simp only [decide_eq_true_eq, decide_eq_false_iff_not, bI] at *); unfold fHasW; (repeat' split) <;> first | rfl | omega | (exfalso; simp_all; done) | (exfalso; simp_all; omega)) (by decide)]))
set_option maxHeartbeats 4000000 in
set_option maxRecDepth 100000 in
theorem c_X5_held {g : zG} {I : Nat → Nat → Int} {J : Nat → Nat → Int64} {q : Nat × Nat}  (hg : gH I 1) (hq : gS I 4) (hl : gL I) : zRun g mX5_held 7 [.ref 0] (zst I J q) (some (.int (iI (heldN I J)))) (zst I J q) := by
  obtain ⟨g1, g2, g3, g4, g5, g6⟩ := id hg
  obtain ⟨k1, k2, k3⟩ := id hq
  refine zRuns_intro rfl (Nat.le_of_ble_eq_true rfl) (fun X C hR => ?_)
  show zZ g X 0 0 _ 0 [(0, .ref 0)] []
  refine z_aload_n C 0 rfl dX5_held_0 rfl ?_
  refine y_getR C zCl5 0 flX5_10 rfl rfl rfl dX5_held_1 ?_
  refine y_callV0 C oX0_notIn iX0_notIn eX0_notIn lkX5_301 (c_X0_notIn isH_1 hg hq) rfl (by decide) rfl rfl (by decide) (Nat.le_refl _) (Nat.le_refl _) (Nat.le_of_ble_eq_true rfl) dX5_held_4 ?_
  refine z_aload_n C 0 rfl dX5_held_7 rfl ?_
  refine y_callV0 C oX5_grazing iX5_grazing eX5_grazing lkX5_304 (c_X5_grazing hg hq hl) rfl (by decide) rfl rfl (by decide) (Nat.le_refl _) (Nat.le_refl _) (Nat.le_of_ble_eq_true rfl) dX5_held_8 ?_
  refine z_iconst C dX5_held_11 ?_
  refine z_ixor C (iI (grazN I : Nat) ^^^ iI (-1)).toInt dX5_held_12 (iI_of _) ?_
  refine z_iand C (iI (outN I : Nat) &&& (iI (grazN I : Nat) ^^^ iI (-1))).toInt dX5_held_13 (by rw [← iI_of]; exact iI_of _) ?_
  refine z_aload_n C 0 rfl dX5_held_14 rfl ?_
  refine y_getR C zCl5 0 flX5_10 rfl rfl rfl dX5_held_15 ?_
  refine z_aload_n C 0 rfl dX5_held_18 rfl ?_
  refine y_getR C zCl5 0 flX5_10 rfl rfl rfl dX5_held_19 ?_
  refine y_getR C zCl0 9 flX5_118 rfl rfl rfl dX5_held_22 ?_
  refine y_callV1 C oX0_moved iX0_moved eX0_moved lkX5_271 (c_X0_moved isH_1 isS_4 hg hq) rfl (by decide) rfl rfl (by decide) (Nat.le_refl _) (Nat.le_refl _) (Nat.le_of_ble_eq_true rfl) dX5_held_25 ?_
  refine z_iconst C dX5_held_28 ?_
  refine z_ixor C (iI (movN I J : Nat) ^^^ iI (-1)).toInt dX5_held_29 (iI_of _) ?_
  refine z_iand C (heldN I J) dX5_held_30 (by rw [← iI_of, ← iI_of]; exact iI_of _) ?_
  exact zZ_iret C hR (Nat.le_refl _) (Nat.le_refl _) dX5_held_31 rfl (zIs_I rfl rfl)
set_option maxHeartbeats 4000000 in
set_option maxRecDepth 100000 in
theorem c_X5_ewes {g : zG} {I : Nat → Nat → Int} {J : Nat → Nat → Int64} {q : Nat × Nat} {w : Int} (hg : gH I 1) (hq : gS I 4) (hl : gL I) (hw : -2147483648 ≤ w ∧ w ≤ 2147483647) : zRun g mX5_ewes 7 [.ref 0, .int (iI w)] (zst I J q) (some (.int (iI (uR (fEwes w) (ewesN I J w))))) (zst (uI I (fEwes w) I) J q) := by
  refine zRuns_intro rfl (Nat.le_of_ble_eq_true rfl) (fun X C hR => ?_)
  show zZ g X 0 0 _ 0 [(0, .ref 0), (1, .int (iI w))] []
  refine z_iload_n C 1 rfl dX5_ewes_0 rfl ?_
  rcases (show w = 0 ∨ w = 1 ∨ w = 2 ∨ w = 3 ∨ (w < 0 ∨ 3 < w) by omega) with hsw | hsw | hsw | hsw | hsw
  · rw [hsw]
    refine z_tabIn C 32 dX5_ewes_1 (by decide) (by decide) (by decide) rfl (by decide) ?_
    refine z_aload_n C 0 rfl dX5_ewes_32 rfl ?_
    refine y_getR C zCl5 0 flX5_10 rfl rfl rfl dX5_ewes_33 ?_
    refine z_aload_n C 0 rfl dX5_ewes_36 rfl ?_
    refine y_getR C zCl5 0 flX5_10 rfl rfl rfl dX5_ewes_37 ?_
    refine y_getR C zCl0 9 flX5_118 rfl rfl rfl dX5_ewes_40 ?_
    refine y_callV1 C oX0_apart iX0_apart eX0_apart lkX5_261 (c_X0_apart isH_1 isS_4 hg hq) rfl (by decide) rfl rfl (by decide) (Nat.le_refl _) (Nat.le_refl _) (Nat.le_of_ble_eq_true rfl) dX5_ewes_43 ?_
    exact zZ_iret C hR (Nat.le_refl _) (Nat.le_refl _) dX5_ewes_46 rfl (zIs_I (by rw [uR0 (show fEwes w = 0 by rw [hsw]; rfl), hsw]; rfl) (by rw [uI0 (show fEwes w = 0 by rw [hsw]; rfl)]))
  · rw [hsw]
    refine z_tabIn C 47 dX5_ewes_1 (by decide) (by decide) (by decide) rfl (by decide) ?_
    refine z_aload_n C 0 rfl dX5_ewes_47 rfl ?_
    refine y_getR C zCl5 0 flX5_10 rfl rfl rfl dX5_ewes_48 ?_
    refine y_callV0 C oX0_flock iX0_flock eX0_flock lkX5_264 (c_X0_flock isH_1 hg hq) rfl (by decide) rfl rfl (by decide) (Nat.le_refl _) (Nat.le_refl _) (Nat.le_of_ble_eq_true rfl) dX5_ewes_51 ?_
    exact zZ_iret C hR (Nat.le_refl _) (Nat.le_refl _) dX5_ewes_54 rfl (zIs_I (by rw [uR0 (show fEwes w = 0 by rw [hsw]; rfl), hsw]; rfl) (by rw [uI0 (show fEwes w = 0 by rw [hsw]; rfl)]))
  · rw [hsw]
    refine z_tabIn C 55 dX5_ewes_1 (by decide) (by decide) (by decide) rfl (by decide) ?_
    refine z_aload_n C 0 rfl dX5_ewes_55 rfl ?_
    refine y_getR C zCl5 0 flX5_10 rfl rfl rfl dX5_ewes_56 ?_
    refine y_callV0 C oX0_nearest iX0_nearest eX0_nearest lkX5_268 (c_X0_nearest isH_1 hg hq) rfl (by decide) rfl rfl (by decide) (Nat.le_refl _) (Nat.le_refl _) (Nat.le_of_ble_eq_true rfl) dX5_ewes_59 ?_
    exact zZ_iret C hR (Nat.le_refl _) (Nat.le_refl _) dX5_ewes_62 rfl (zIs_I (by rw [uR0 (show fEwes w = 0 by rw [hsw]; rfl), hsw]; rfl) (by rw [uI0 (show fEwes w = 0 by rw [hsw]; rfl)]))
  · rw [hsw]
    refine z_tabIn C 63 dX5_ewes_1 (by decide) (by decide) (by decide) rfl (by decide) ?_
    refine z_aload_n C 0 rfl dX5_ewes_63 rfl ?_
    refine y_getR C zCl5 0 flX5_10 rfl rfl rfl dX5_ewes_64 ?_
    refine z_aload_n C 0 rfl dX5_ewes_67 rfl ?_
    refine y_getR C zCl5 0 flX5_10 rfl rfl rfl dX5_ewes_68 ?_
    refine y_getR C zCl0 9 flX5_118 rfl rfl rfl dX5_ewes_71 ?_
    refine y_callV1 C oX0_moved iX0_moved eX0_moved lkX5_271 (c_X0_moved isH_1 isS_4 hg hq) rfl (by decide) rfl rfl (by decide) (Nat.le_refl _) (Nat.le_refl _) (Nat.le_of_ble_eq_true rfl) dX5_ewes_74 ?_
    exact zZ_iret C hR (Nat.le_refl _) (Nat.le_refl _) dX5_ewes_77 rfl (zIs_I (by rw [uR0 (show fEwes w = 0 by rw [hsw]; rfl), hsw]; rfl) (by rw [uI0 (show fEwes w = 0 by rw [hsw]; rfl)]))
  · refine z_tabOut C 78 dX5_ewes_1 (by omega) hsw (by decide) ?_
    refine z_aload_n C 0 rfl dX5_ewes_78 rfl ?_
    refine z_bipush C dX5_ewes_79 (by decide) ?_
    refine y_callV1 C oX5_refuse iX5_refuse eX5_refuse lkX5_59 (c_X5_refuse (by first | assumption | omega)) rfl (by decide) rfl rfl (by decide) (Nat.le_refl _) (Nat.le_refl _) (Nat.le_of_ble_eq_true rfl) dX5_ewes_81 ?_
    exact zZ_iret C hR (Nat.le_refl _) (Nat.le_refl _) dX5_ewes_84 rfl (zIs_I (uRc (show fEwes w = -2 by unfold fEwes; rw [if_neg (by omega)]) (by decide)).symm (by rw [uIc (show fEwes w = -2 by unfold fEwes; rw [if_neg (by omega)]) (by decide)]))
set_option maxHeartbeats 4000000 in
set_option maxRecDepth 100000 in
theorem c_X5_says {g : zG} {I : Nat → Nat → Int} {J : Nat → Nat → Int64} {q : Nat × Nat} {s kd : Int} (hg : gH I 1) (hq : gS I 4) (hl : gL I) (hs : -2147483648 ≤ s ∧ s ≤ 2147483647) (hkd : -2147483648 ≤ kd ∧ kd ≤ 2147483647) : zRun g mX5_says 5 [.ref 0, .int (iI s), .int (iI kd)] (zst I J q) (some (.int (iI (uR (fSays I s kd) (saysN I J s kd))))) (zst (uI I (fSays I s kd) (I)) J q) := by
  obtain ⟨g1, g2, g3, g4, g5, g6⟩ := id hg
  obtain ⟨k1, k2, k3⟩ := id hq
  have k3 : ∀ e, e < 5 → 0 ≤ I 5 e ∧ I 5 e ≤ 66 := k3
  refine zRuns_intro rfl (Nat.le_of_ble_eq_true rfl) (fun X C hR => ?_)
  show zZ g X 0 0 _ 0 [(0, .ref 0), (1, .int (iI s)), (2, .int (iI kd))] []
  refine z_iload_n C 1 rfl dX5_says_0 rfl ?_
  refine y_callS1 C oX5_isShelf sX5_isShelf lkX5_55 (c_X5_isShelf (by first | assumption | omega)) (by decide) (Nat.le_refl _) (Nat.le_refl _) (Nat.le_of_ble_eq_true rfl) dX5_says_1 ?_
  refine y_if_eqB C 14 dX5_says_4 (by decide) (fun h4 => ?_) (fun h4 => ?_)
  · refine z_aload_n C 0 rfl dX5_says_14 rfl ?_
    refine z_bipush C dX5_says_15 (by decide) ?_
    refine y_callV1 C oX5_refuse iX5_refuse eX5_refuse lkX5_59 (c_X5_refuse (by first | assumption | omega)) rfl (by decide) rfl rfl (by decide) (Nat.le_refl _) (Nat.le_refl _) (Nat.le_of_ble_eq_true rfl) dX5_says_17 ?_
    exact zZ_iret C hR (Nat.le_refl _) (Nat.le_refl _) dX5_says_20 rfl (zIs_I (uRc (show fSays I s kd = -2 by (try simp only [decide_eq_true_eq, decide_eq_false_iff_not, bI] at *); unfold fSays; (repeat' split) <;> first | rfl | omega | (exfalso; simp_all; done) | (exfalso; simp_all; omega)) (by decide)).symm (by rw [uIc (show fSays I s kd = -2 by (try simp only [decide_eq_true_eq, decide_eq_false_iff_not, bI] at *); unfold fSays; (repeat' split) <;> first | rfl | omega | (exfalso; simp_all; done) | (exfalso; simp_all; omega)) (by decide)]))
  · refine z_iload_n C 2 rfl dX5_says_7 rfl ?_
    refine y_callS1 C oX5_isKind sX5_isKind lkX5_106 (c_X5_isKind (by first | assumption | omega)) (by decide) (Nat.le_refl _) (Nat.le_refl _) (Nat.le_of_ble_eq_true rfl) dX5_says_8 ?_
    refine y_if_neB C 21 dX5_says_11 (by decide) (fun h11 => ?_) (fun h11 => ?_)
    · have hs8 : 0 ≤ s ∧ s < 8 := by simpa using h4
      have hls := hl s.toNat (by omega)
      have hkr : 0 ≤ kd ∧ kd < 6 := by simpa using h11
      refine z_aload_n C 0 rfl dX5_says_21 rfl ?_
      refine y_getR C zCl5 4 flX5_32 rfl rfl rfl dX5_says_22 ?_
      refine z_iload_n C 1 rfl dX5_says_25 rfl ?_
      refine y_aald C s.toNat 10 (by decide) (by omega) rfl (by omega) (by decide) (rt_18 (by omega)) dX5_says_26 ?_
      refine z_astore_n C [(3, .ref (19 + 2 * s.toNat)), (0, .ref 0), (1, .int (iI s)), (2, .int (iI kd))] dX5_says_27 rfl (by decide) rfl ?_
      refine z_aload_n C 0 rfl dX5_says_28 rfl ?_
      refine y_callV0 C oX2_hasRow iX2_hasRow eX2_hasRow lkX5_86 (c_X2_hasRow (isL_of (by omega)) (by first | assumption | omega)) (lay_l (isL_of (by omega))) (by decide) rfl rfl (by decide) (Nat.le_refl _) (Nat.le_refl _) (Nat.le_of_ble_eq_true rfl) dX5_says_29 ?_
      refine y_if_eqB C 42 dX5_says_32 (by decide) (fun h32 => ?_) (fun h32 => ?_)
      · refine z_aload_n C 0 rfl dX5_says_42 rfl ?_
        refine y_callV0 C oX2_hasEwe iX2_hasEwe eX2_hasEwe lkX5_90 (c_X2_hasEwe (isL_of (by omega)) (by first | assumption | omega)) (lay_l (isL_of (by omega))) (by decide) rfl rfl (by decide) (Nat.le_refl _) (Nat.le_refl _) (Nat.le_of_ble_eq_true rfl) dX5_says_43 ?_
        refine y_if_neB C 56 dX5_says_46 (by decide) (fun h46 => ?_) (fun h46 => ?_)
        · refine z_aload_n C 0 rfl dX5_says_56 rfl ?_
          refine y_getI C zCl2 0 flX5_79 rfl (lay_l (isL_of (by omega))) dX5_says_57 ?_
          refine z_bipush C dX5_says_60 (by decide) ?_
          refine z_isub C dX5_says_62 ?_
          refine z_topI C (fun w ew => ?_)
          refine z_istore C [(4, .int (iI w)), (3, .ref (19 + 2 * s.toNat)), (0, .ref 0), (1, .int (iI s)), (2, .int (iI kd))] dX5_says_63 (by decide) rfl ?_
          refine z_aload_n C 2 rfl dX5_says_65 rfl ?_
          refine y_getR C zCl5 0 flX5_10 rfl rfl rfl dX5_says_66 ?_
          refine z_iload C 0 rfl dX5_says_69 ?_
          refine y_callV1 C oX0_isEwe iX0_isEwe eX0_isEwe lkX5_103 (c_X0_isEwe isH_1 hg (by first | assumption | omega)) rfl (by decide) rfl rfl (by decide) (Nat.le_refl _) (Nat.le_refl _) (Nat.le_of_ble_eq_true rfl) dX5_says_71 ?_
          refine y_if_eqB C 94 dX5_says_74 (by decide) (fun h74 => ?_) (fun h74 => ?_)
          · refine z_aload_n C 2 rfl dX5_says_94 rfl ?_
            refine z_bipush C dX5_says_95 (by decide) ?_
            refine y_callV1 C oX5_refuse iX5_refuse eX5_refuse lkX5_59 (c_X5_refuse (by first | assumption | omega)) rfl (by decide) rfl rfl (by decide) (Nat.le_refl _) (Nat.le_refl _) (Nat.le_of_ble_eq_true rfl) dX5_says_97 ?_
            exact zZ_iret C hR (Nat.le_refl _) (Nat.le_refl _) dX5_says_100 rfl (zIs_I (uRc (show fSays I s kd = -3 by (try simp only [decide_eq_true_eq, decide_eq_false_iff_not, bI] at *); unfold fSays; (repeat' split) <;> first | rfl | omega | (exfalso; simp_all; done) | (exfalso; simp_all; omega)) (by decide)).symm (by rw [uIc (show fSays I s kd = -3 by (try simp only [decide_eq_true_eq, decide_eq_false_iff_not, bI] at *); unfold fSays; (repeat' split) <;> first | rfl | omega | (exfalso; simp_all; done) | (exfalso; simp_all; omega)) (by decide)]))
          · have hwr : 0 ≤ w ∧ w < I 1 6 := by simpa using h74
            obtain ⟨wn, rfl⟩ : ∃ n : Nat, w = n := ⟨w.toNat, by omega⟩
            have hkw : 0 ≤ I (1 + 1) wn ∧ I (1 + 1) wn ≤ 5 := g5 wn (by omega)
            refine z_aload_n C 2 rfl dX5_says_77 rfl ?_
            refine y_getR C zCl5 0 flX5_10 rfl rfl rfl dX5_says_78 ?_
            refine y_getR C zCl0 7 flX5_109 rfl rfl rfl dX5_says_81 ?_
            refine z_iload C 0 rfl dX5_says_84 ?_
            refine y_iald C wn (by omega) rfl (by omega) (by decide) dX5_says_86 ?_
            refine z_iload_n C 4 rfl dX5_says_87 rfl ?_
            refine y_callS2 C oX5_isUnder sX5_isUnder lkX5_112 (c_X5_isUnder (by first | assumption | omega) (by first | assumption | omega)) (by decide) (Nat.le_refl _) (Nat.le_refl _) (Nat.le_of_ble_eq_true rfl) dX5_says_88 ?_
            refine y_if_neB C 101 dX5_says_91 (by decide) (fun h91 => ?_) (fun h91 => ?_)
            · have h91 : underN (I 2 (I (19 + 2 * s.toNat) 0 - 10).toNat) kd = true := by rw [← ew]; exact h91
              refine z_iload_n C 4 rfl dX5_says_101 rfl ?_
              refine z_if_ne C 118 dX5_says_102 (by decide) (by omega) (fun h102 => ?_) (fun h102 => ?_)
              · refine z_aload_n C 2 rfl dX5_says_118 rfl ?_
                refine y_getR C zCl5 0 flX5_10 rfl rfl rfl dX5_says_119 ?_
                refine z_aload_n C 2 rfl dX5_says_122 rfl ?_
                refine y_getR C zCl5 0 flX5_10 rfl rfl rfl dX5_says_123 ?_
                refine y_getR C zCl0 9 flX5_118 rfl rfl rfl dX5_says_126 ?_
                refine z_iload C 0 rfl dX5_says_129 ?_
                refine z_aload_n C 2 rfl dX5_says_131 rfl ?_
                refine y_getR C zCl5 0 flX5_10 rfl rfl rfl dX5_says_132 ?_
                refine y_getR C zCl0 7 flX5_109 rfl rfl rfl dX5_says_135 ?_
                refine z_iload C 0 rfl dX5_says_138 ?_
                refine y_iald C wn (by omega) rfl (by omega) (by decide) dX5_says_140 ?_
                refine y_callV3 C oX0_goalOf iX0_goalOf eX0_goalOf lkX5_121 (c_X0_goalOf isH_1 isS_4 hg hq (by first | assumption | omega) (by first | assumption | omega)) rfl (by decide) rfl rfl (by decide) (Nat.le_refl _) (Nat.le_refl _) (Nat.le_of_ble_eq_true rfl) dX5_says_141 ?_
                exact zZ_iret C hR (Nat.le_refl _) (Nat.le_refl _) dX5_says_144 rfl (zIs_I (by rw [uR0 (show fSays I s kd = 0 by (try simp only [decide_eq_true_eq, decide_eq_false_iff_not, bI] at *); unfold fSays; (repeat' split) <;> first | rfl | omega | (exfalso; simp_all; done) | (exfalso; simp_all; omega))]; unfold saysN; rw [← ew, if_neg h102]; rfl) (by rw [uI0 (show fSays I s kd = 0 by (try simp only [decide_eq_true_eq, decide_eq_false_iff_not, bI] at *); unfold fSays; (repeat' split) <;> first | rfl | omega | (exfalso; simp_all; done) | (exfalso; simp_all; omega))]))
              · refine z_aload_n C 2 rfl dX5_says_105 rfl ?_
                refine y_getR C zCl5 0 flX5_10 rfl rfl rfl dX5_says_106 ?_
                refine y_getR C zCl0 8 flX5_115 rfl rfl rfl dX5_says_109 ?_
                refine z_iload C 0 rfl dX5_says_112 ?_
                refine y_iald C wn (by omega) rfl (by omega) (by decide) dX5_says_114 ?_
                refine z_goto C 144 dX5_says_115 (by decide) ?_
                exact zZ_iret C hR (Nat.le_refl _) (Nat.le_refl _) dX5_says_144 rfl (zIs_I (by rw [uR0 (show fSays I s kd = 0 by (try simp only [decide_eq_true_eq, decide_eq_false_iff_not, bI] at *); unfold fSays; (repeat' split) <;> first | rfl | omega | (exfalso; simp_all; done) | (exfalso; simp_all; omega))]; unfold saysN; rw [← ew, if_pos h102]; rfl) (by rw [uI0 (show fSays I s kd = 0 by (try simp only [decide_eq_true_eq, decide_eq_false_iff_not, bI] at *); unfold fSays; (repeat' split) <;> first | rfl | omega | (exfalso; simp_all; done) | (exfalso; simp_all; omega))]))
            · have h91 : underN (I 2 (I (19 + 2 * s.toNat) 0 - 10).toNat) kd = false := by rw [← ew]; exact h91
              refine z_aload_n C 2 rfl dX5_says_94 rfl ?_
              refine z_bipush C dX5_says_95 (by decide) ?_
              refine y_callV1 C oX5_refuse iX5_refuse eX5_refuse lkX5_59 (c_X5_refuse (by first | assumption | omega)) rfl (by decide) rfl rfl (by decide) (Nat.le_refl _) (Nat.le_refl _) (Nat.le_of_ble_eq_true rfl) dX5_says_97 ?_
              exact zZ_iret C hR (Nat.le_refl _) (Nat.le_refl _) dX5_says_100 rfl (zIs_I (uRc (show fSays I s kd = -3 by (try simp only [decide_eq_true_eq, decide_eq_false_iff_not, bI] at *); unfold fSays; (repeat' split) <;> first | rfl | omega | (exfalso; simp_all; done) | (exfalso; simp_all; omega)) (by decide)).symm (by rw [uIc (show fSays I s kd = -3 by (try simp only [decide_eq_true_eq, decide_eq_false_iff_not, bI] at *); unfold fSays; (repeat' split) <;> first | rfl | omega | (exfalso; simp_all; done) | (exfalso; simp_all; omega)) (by decide)]))
        · refine z_aload_n C 1 rfl dX5_says_49 rfl ?_
          refine z_bipush C dX5_says_50 (by decide) ?_
          refine y_callV1 C oX5_refuse iX5_refuse eX5_refuse lkX5_59 (c_X5_refuse (by first | assumption | omega)) rfl (by decide) rfl rfl (by decide) (Nat.le_refl _) (Nat.le_refl _) (Nat.le_of_ble_eq_true rfl) dX5_says_52 ?_
          exact zZ_iret C hR (Nat.le_refl _) (Nat.le_refl _) dX5_says_55 rfl (zIs_I (uRc (show fSays I s kd = -4 by (try simp only [decide_eq_true_eq, decide_eq_false_iff_not, bI] at *); unfold fSays; (repeat' split) <;> first | rfl | omega | (exfalso; simp_all; done) | (exfalso; simp_all; omega)) (by decide)).symm (by rw [uIc (show fSays I s kd = -4 by (try simp only [decide_eq_true_eq, decide_eq_false_iff_not, bI] at *); unfold fSays; (repeat' split) <;> first | rfl | omega | (exfalso; simp_all; done) | (exfalso; simp_all; omega)) (by decide)]))
      · refine z_aload_n C 1 rfl dX5_says_35 rfl ?_
        refine z_bipush C dX5_says_36 (by decide) ?_
        refine y_callV1 C oX5_refuse iX5_refuse eX5_refuse lkX5_59 (c_X5_refuse (by first | assumption | omega)) rfl (by decide) rfl rfl (by decide) (Nat.le_refl _) (Nat.le_refl _) (Nat.le_of_ble_eq_true rfl) dX5_says_38 ?_
        exact zZ_iret C hR (Nat.le_refl _) (Nat.le_refl _) dX5_says_41 rfl (zIs_I (uRc (show fSays I s kd = -3 by (try simp only [decide_eq_true_eq, decide_eq_false_iff_not, bI] at *); unfold fSays; (repeat' split) <;> first | rfl | omega | (exfalso; simp_all; done) | (exfalso; simp_all; omega)) (by decide)).symm (by rw [uIc (show fSays I s kd = -3 by (try simp only [decide_eq_true_eq, decide_eq_false_iff_not, bI] at *); unfold fSays; (repeat' split) <;> first | rfl | omega | (exfalso; simp_all; done) | (exfalso; simp_all; omega)) (by decide)]))
    · refine z_aload_n C 0 rfl dX5_says_14 rfl ?_
      refine z_bipush C dX5_says_15 (by decide) ?_
      refine y_callV1 C oX5_refuse iX5_refuse eX5_refuse lkX5_59 (c_X5_refuse (by first | assumption | omega)) rfl (by decide) rfl rfl (by decide) (Nat.le_refl _) (Nat.le_refl _) (Nat.le_of_ble_eq_true rfl) dX5_says_17 ?_
      exact zZ_iret C hR (Nat.le_refl _) (Nat.le_refl _) dX5_says_20 rfl (zIs_I (uRc (show fSays I s kd = -2 by (try simp only [decide_eq_true_eq, decide_eq_false_iff_not, bI] at *); unfold fSays; (repeat' split) <;> first | rfl | omega | (exfalso; simp_all; done) | (exfalso; simp_all; omega)) (by decide)).symm (by rw [uIc (show fSays I s kd = -2 by (try simp only [decide_eq_true_eq, decide_eq_false_iff_not, bI] at *); unfold fSays; (repeat' split) <;> first | rfl | omega | (exfalso; simp_all; done) | (exfalso; simp_all; omega)) (by decide)]))
set_option maxHeartbeats 4000000 in
set_option maxRecDepth 100000 in
theorem c_X5_copy {g : zG} {I : Nat → Nat → Int} {J : Nat → Nat → Int64} {q : Nat × Nat} {p r i j k : Int} (hg : gH I 1) (hq : gS I 4) (hl : gL I) (hp : -2147483648 ≤ p ∧ p ≤ 2147483647) (hr : -2147483648 ≤ r ∧ r ≤ 2147483647) (hi : -2147483648 ≤ i ∧ i ≤ 2147483647) (hj : -2147483648 ≤ j ∧ j ≤ 2147483647) (hk : -2147483648 ≤ k ∧ k ≤ 2147483647) : zRun g mX5_copy 3 [.ref 0, .int (iI p), .int (iI r), .int (iI i), .int (iI j), .int (iI k)] (zst I J q) (some (.int (iI (uR (fCopy I p r i j k) (k))))) (zst (uI I (fCopy I p r i j k) (I)) (uJ J (fCopy I p r i j k) (zcp J (19 + 2 * p.toNat + 1) (19 + 2 * r.toNat + 1) i.toNat j.toNat k.toNat)) q) := by
  refine zRuns_intro rfl (Nat.le_of_ble_eq_true rfl) (fun X C hR => ?_)
  show zZ g X 0 0 _ 0 [(0, .ref 0), (1, .int (iI p)), (2, .int (iI r)), (3, .int (iI i)), (4, .int (iI j)), (5, .int (iI k))] []
  refine z_iload_n C 1 rfl dX5_copy_0 rfl ?_
  refine y_callS1 C oX5_isShelf sX5_isShelf lkX5_55 (c_X5_isShelf (by first | assumption | omega)) (by decide) (Nat.le_refl _) (Nat.le_refl _) (Nat.le_of_ble_eq_true rfl) dX5_copy_1 ?_
  refine y_if_eqB C 14 dX5_copy_4 (by decide) (fun h4 => ?_) (fun h4 => ?_)
  · refine z_aload_n C 0 rfl dX5_copy_14 rfl ?_
    refine z_bipush C dX5_copy_15 (by decide) ?_
    refine y_callV1 C oX5_refuse iX5_refuse eX5_refuse lkX5_59 (c_X5_refuse (by first | assumption | omega)) rfl (by decide) rfl rfl (by decide) (Nat.le_refl _) (Nat.le_refl _) (Nat.le_of_ble_eq_true rfl) dX5_copy_17 ?_
    exact zZ_iret C hR (Nat.le_refl _) (Nat.le_refl _) dX5_copy_20 rfl (zIs_I (uRc (show fCopy I p r i j k = -2 by (try simp only [decide_eq_true_eq, decide_eq_false_iff_not, bI] at *); unfold fCopy; (repeat' split) <;> first | rfl | omega | (exfalso; simp_all; done) | (exfalso; simp_all; omega)) (by decide)).symm (by rw [uIc (show fCopy I p r i j k = -2 by (try simp only [decide_eq_true_eq, decide_eq_false_iff_not, bI] at *); unfold fCopy; (repeat' split) <;> first | rfl | omega | (exfalso; simp_all; done) | (exfalso; simp_all; omega)) (by decide), uJc (show fCopy I p r i j k = -2 by (try simp only [decide_eq_true_eq, decide_eq_false_iff_not, bI] at *); unfold fCopy; (repeat' split) <;> first | rfl | omega | (exfalso; simp_all; done) | (exfalso; simp_all; omega)) (by decide)]))
  · refine z_iload_n C 2 rfl dX5_copy_7 rfl ?_
    refine y_callS1 C oX5_isShelf sX5_isShelf lkX5_55 (c_X5_isShelf (by first | assumption | omega)) (by decide) (Nat.le_refl _) (Nat.le_refl _) (Nat.le_of_ble_eq_true rfl) dX5_copy_8 ?_
    refine y_if_neB C 21 dX5_copy_11 (by decide) (fun h11 => ?_) (fun h11 => ?_)
    · have hp8 : 0 ≤ p ∧ p < 8 := by simpa using h4
      have hr8 : 0 ≤ r ∧ r < 8 := by simpa using h11
      have hlp := hl p.toNat (by omega)
      have hlr := hl r.toNat (by omega)
      refine z_aload_n C 0 rfl dX5_copy_21 rfl ?_
      refine y_getR C zCl5 4 flX5_32 rfl rfl rfl dX5_copy_22 ?_
      refine z_iload_n C 1 rfl dX5_copy_25 rfl ?_
      refine y_aald C p.toNat 10 (by decide) (by omega) rfl (by omega) (by decide) (rt_18 (by omega)) dX5_copy_26 ?_
      refine z_astore C [(6, .ref (19 + 2 * p.toNat)), (0, .ref 0), (1, .int (iI p)), (2, .int (iI r)), (3, .int (iI i)), (4, .int (iI j)), (5, .int (iI k))] dX5_copy_27 (by decide) rfl ?_
      refine z_aload_n C 1 rfl dX5_copy_29 rfl ?_
      refine y_getR C zCl5 4 flX5_32 rfl rfl rfl dX5_copy_30 ?_
      refine z_iload_n C 3 rfl dX5_copy_33 rfl ?_
      refine y_aald C r.toNat 10 (by decide) (by omega) rfl (by omega) (by decide) (rt_18 (by omega)) dX5_copy_34 ?_
      refine z_astore C [(7, .ref (19 + 2 * r.toNat)), (6, .ref (19 + 2 * p.toNat)), (0, .ref 0), (1, .int (iI p)), (2, .int (iI r)), (3, .int (iI i)), (4, .int (iI j)), (5, .int (iI k))] dX5_copy_35 (by decide) rfl ?_
      refine z_aload C 1 rfl dX5_copy_37 ?_
      refine y_callV0 C oX2_hasRow iX2_hasRow eX2_hasRow lkX5_86 (c_X2_hasRow (isL_of (by omega)) (by first | assumption | omega)) (lay_l (isL_of (by omega))) (by decide) rfl rfl (by decide) (Nat.le_refl _) (Nat.le_refl _) (Nat.le_of_ble_eq_true rfl) dX5_copy_39 ?_
      refine y_if_eqB C 70 dX5_copy_42 (by decide) (fun h42 => ?_) (fun h42 => ?_)
      · refine z_iconst C dX5_copy_70 ?_
        refine z_istore C [(8, .int (iI 0)), (7, .ref (19 + 2 * r.toNat)), (6, .ref (19 + 2 * p.toNat)), (0, .ref 0), (1, .int (iI p)), (2, .int (iI r)), (3, .int (iI i)), (4, .int (iI j)), (5, .int (iI k))] dX5_copy_71 (by decide) rfl ?_
        refine z_aload C 2 rfl dX5_copy_73 ?_
        refine y_callV0 C oX2_hasEwe iX2_hasEwe eX2_hasEwe lkX5_90 (c_X2_hasEwe (isL_of (by omega)) (by first | assumption | omega)) (lay_l (isL_of (by omega))) (by decide) rfl rfl (by decide) (Nat.le_refl _) (Nat.le_refl _) (Nat.le_of_ble_eq_true rfl) dX5_copy_75 ?_
        refine y_if_neB C 94 dX5_copy_78 (by decide) (fun h78 => ?_) (fun h78 => ?_)
        · refine z_aload_n C 3 rfl dX5_copy_94 rfl ?_
          refine z_bipush C dX5_copy_95 (by decide) ?_
          refine y_callV1 C oX5_refuse iX5_refuse eX5_refuse lkX5_59 (c_X5_refuse (by first | assumption | omega)) rfl (by decide) rfl rfl (by decide) (Nat.le_refl _) (Nat.le_refl _) (Nat.le_of_ble_eq_true rfl) dX5_copy_97 ?_
          exact zZ_iret C hR (Nat.le_refl _) (Nat.le_refl _) dX5_copy_100 rfl (zIs_I (uRc (show fCopy I p r i j k = -3 by (try simp only [decide_eq_true_eq, decide_eq_false_iff_not, bI] at *); unfold fCopy; (repeat' split) <;> first | rfl | omega | (exfalso; simp_all; done) | (exfalso; simp_all; omega)) (by decide)).symm (by rw [uIc (show fCopy I p r i j k = -3 by (try simp only [decide_eq_true_eq, decide_eq_false_iff_not, bI] at *); unfold fCopy; (repeat' split) <;> first | rfl | omega | (exfalso; simp_all; done) | (exfalso; simp_all; omega)) (by decide), uJc (show fCopy I p r i j k = -3 by (try simp only [decide_eq_true_eq, decide_eq_false_iff_not, bI] at *); unfold fCopy; (repeat' split) <;> first | rfl | omega | (exfalso; simp_all; done) | (exfalso; simp_all; omega)) (by decide)]))
        · refine z_aload C 1 rfl dX5_copy_81 ?_
          refine y_callV0 C oX2_hasEwe iX2_hasEwe eX2_hasEwe lkX5_90 (c_X2_hasEwe (isL_of (by omega)) (by first | assumption | omega)) (lay_l (isL_of (by omega))) (by decide) rfl rfl (by decide) (Nat.le_refl _) (Nat.le_refl _) (Nat.le_of_ble_eq_true rfl) dX5_copy_83 ?_
          refine y_if_neB C 94 dX5_copy_86 (by decide) (fun h86 => ?_) (fun h86 => ?_)
          · refine z_aload_n C 3 rfl dX5_copy_94 rfl ?_
            refine z_bipush C dX5_copy_95 (by decide) ?_
            refine y_callV1 C oX5_refuse iX5_refuse eX5_refuse lkX5_59 (c_X5_refuse (by first | assumption | omega)) rfl (by decide) rfl rfl (by decide) (Nat.le_refl _) (Nat.le_refl _) (Nat.le_of_ble_eq_true rfl) dX5_copy_97 ?_
            exact zZ_iret C hR (Nat.le_refl _) (Nat.le_refl _) dX5_copy_100 rfl (zIs_I (uRc (show fCopy I p r i j k = -3 by (try simp only [decide_eq_true_eq, decide_eq_false_iff_not, bI] at *); unfold fCopy; (repeat' split) <;> first | rfl | omega | (exfalso; simp_all; done) | (exfalso; simp_all; omega)) (by decide)).symm (by rw [uIc (show fCopy I p r i j k = -3 by (try simp only [decide_eq_true_eq, decide_eq_false_iff_not, bI] at *); unfold fCopy; (repeat' split) <;> first | rfl | omega | (exfalso; simp_all; done) | (exfalso; simp_all; omega)) (by decide), uJc (show fCopy I p r i j k = -3 by (try simp only [decide_eq_true_eq, decide_eq_false_iff_not, bI] at *); unfold fCopy; (repeat' split) <;> first | rfl | omega | (exfalso; simp_all; done) | (exfalso; simp_all; omega)) (by decide)]))
          · refine z_iload C 0 rfl dX5_copy_89 ?_
            refine z_if_eq C 101 dX5_copy_91 (by decide) (by omega) (fun h91 => ?_) (fun h91 => ?_)
            · refine z_aload C 2 rfl dX5_copy_101 ?_
              refine y_callV0 C oX2_hasRow iX2_hasRow eX2_hasRow lkX5_86 (c_X2_hasRow (isL_of (by omega)) (by first | assumption | omega)) (lay_l (isL_of (by omega))) (by decide) rfl rfl (by decide) (Nat.le_refl _) (Nat.le_refl _) (Nat.le_of_ble_eq_true rfl) dX5_copy_103 ?_
              refine y_if_eqB C 117 dX5_copy_106 (by decide) (fun h106 => ?_) (fun h106 => ?_)
              · refine z_aload_n C 3 rfl dX5_copy_117 rfl ?_
                refine z_bipush C dX5_copy_118 (by decide) ?_
                refine y_callV1 C oX5_refuse iX5_refuse eX5_refuse lkX5_59 (c_X5_refuse (by first | assumption | omega)) rfl (by decide) rfl rfl (by decide) (Nat.le_refl _) (Nat.le_refl _) (Nat.le_of_ble_eq_true rfl) dX5_copy_120 ?_
                exact zZ_iret C hR (Nat.le_refl _) (Nat.le_refl _) dX5_copy_123 rfl (zIs_I (uRc (show fCopy I p r i j k = -4 by (try simp only [decide_eq_true_eq, decide_eq_false_iff_not, bI] at *); unfold fCopy; (repeat' split) <;> first | rfl | omega | (exfalso; simp_all; done) | (exfalso; simp_all; omega)) (by decide)).symm (by rw [uIc (show fCopy I p r i j k = -4 by (try simp only [decide_eq_true_eq, decide_eq_false_iff_not, bI] at *); unfold fCopy; (repeat' split) <;> first | rfl | omega | (exfalso; simp_all; done) | (exfalso; simp_all; omega)) (by decide), uJc (show fCopy I p r i j k = -4 by (try simp only [decide_eq_true_eq, decide_eq_false_iff_not, bI] at *); unfold fCopy; (repeat' split) <;> first | rfl | omega | (exfalso; simp_all; done) | (exfalso; simp_all; omega)) (by decide)]))
              · refine z_aload C 1 rfl dX5_copy_109 ?_
                refine y_callV0 C oX2_hasRow iX2_hasRow eX2_hasRow lkX5_86 (c_X2_hasRow (isL_of (by omega)) (by first | assumption | omega)) (lay_l (isL_of (by omega))) (by decide) rfl rfl (by decide) (Nat.le_refl _) (Nat.le_refl _) (Nat.le_of_ble_eq_true rfl) dX5_copy_111 ?_
                refine y_if_neB C 124 dX5_copy_114 (by decide) (fun h114 => ?_) (fun h114 => ?_)
                · refine z_aload C 2 rfl dX5_copy_124 ?_
                  refine z_iload_n C 6 rfl dX5_copy_126 rfl ?_
                  refine z_iload C 8 rfl dX5_copy_127 ?_
                  refine y_callV2 C oX2_hasPart iX2_hasPart eX2_hasPart lkX5_93 (c_X2_hasPart (isL_of (by omega)) (by first | assumption | omega) (by first | assumption | omega) (by first | assumption | omega)) (lay_l (isL_of (by omega))) (by decide) rfl rfl (by decide) (Nat.le_refl _) (Nat.le_refl _) (Nat.le_of_ble_eq_true rfl) dX5_copy_129 ?_
                  refine y_if_eqB C 147 dX5_copy_132 (by decide) (fun h132 => ?_) (fun h132 => ?_)
                  · refine z_aload_n C 3 rfl dX5_copy_147 rfl ?_
                    refine z_bipush C dX5_copy_148 (by decide) ?_
                    refine y_callV1 C oX5_refuse iX5_refuse eX5_refuse lkX5_59 (c_X5_refuse (by first | assumption | omega)) rfl (by decide) rfl rfl (by decide) (Nat.le_refl _) (Nat.le_refl _) (Nat.le_of_ble_eq_true rfl) dX5_copy_150 ?_
                    exact zZ_iret C hR (Nat.le_refl _) (Nat.le_refl _) dX5_copy_153 rfl (zIs_I (uRc (show fCopy I p r i j k = -2 by (try simp only [decide_eq_true_eq, decide_eq_false_iff_not, bI] at *); unfold fCopy; (repeat' split) <;> first | rfl | omega | (exfalso; simp_all; done) | (exfalso; simp_all; omega)) (by decide)).symm (by rw [uIc (show fCopy I p r i j k = -2 by (try simp only [decide_eq_true_eq, decide_eq_false_iff_not, bI] at *); unfold fCopy; (repeat' split) <;> first | rfl | omega | (exfalso; simp_all; done) | (exfalso; simp_all; omega)) (by decide), uJc (show fCopy I p r i j k = -2 by (try simp only [decide_eq_true_eq, decide_eq_false_iff_not, bI] at *); unfold fCopy; (repeat' split) <;> first | rfl | omega | (exfalso; simp_all; done) | (exfalso; simp_all; omega)) (by decide)]))
                  · refine z_aload C 1 rfl dX5_copy_135 ?_
                    refine z_iload C 7 rfl dX5_copy_137 ?_
                    refine z_iload C 8 rfl dX5_copy_139 ?_
                    refine y_callV2 C oX2_hasPart iX2_hasPart eX2_hasPart lkX5_93 (c_X2_hasPart (isL_of (by omega)) (by first | assumption | omega) (by first | assumption | omega) (by first | assumption | omega)) (lay_l (isL_of (by omega))) (by decide) rfl rfl (by decide) (Nat.le_refl _) (Nat.le_refl _) (Nat.le_of_ble_eq_true rfl) dX5_copy_141 ?_
                    refine y_if_neB C 154 dX5_copy_144 (by decide) (fun h144 => ?_) (fun h144 => ?_)
                    · have hc1 := of_decide_eq_true h132
                      have hc2 := of_decide_eq_true h144
                      refine z_aload C 2 rfl dX5_copy_154 ?_
                      refine y_getR C zCl2 2 flX5_75 rfl (lay_l (isL_of (by omega))) (rt_l (isL_of (by omega))) dX5_copy_156 ?_
                      refine z_iload_n C 6 rfl dX5_copy_159 rfl ?_
                      refine z_aload C 1 rfl dX5_copy_160 ?_
                      refine y_getR C zCl2 2 flX5_75 rfl (lay_l (isL_of (by omega))) (rt_l (isL_of (by omega))) dX5_copy_162 ?_
                      refine z_iload C 7 rfl dX5_copy_165 ?_
                      refine z_iload C 8 rfl dX5_copy_167 ?_
                      refine y_cpJ C lkX5_97 i.toNat j.toNat k.toNat (by omega) (by omega) (by omega) (lay_l1 (isL_of (by omega))) (lay_l1 (isL_of (by omega))) (by omega) (by omega) (by decide) (by decide) (by decide) (Nat.le_of_ble_eq_true rfl) dX5_copy_169 ?_
                      refine z_iload C 8 rfl dX5_copy_172 ?_
                      exact zZ_iret C hR (Nat.le_refl _) (Nat.le_refl _) dX5_copy_174 rfl (zIs_I ((rfl).trans (uR0 (show fCopy I p r i j k = 0 by (try simp only [decide_eq_true_eq, decide_eq_false_iff_not, bI] at *); unfold fCopy; (repeat' split) <;> first | rfl | omega | (exfalso; simp_all; done) | (exfalso; simp_all; omega))).symm) (by rw [uI0 (show fCopy I p r i j k = 0 by (try simp only [decide_eq_true_eq, decide_eq_false_iff_not, bI] at *); unfold fCopy; (repeat' split) <;> first | rfl | omega | (exfalso; simp_all; done) | (exfalso; simp_all; omega)), uJ0 (show fCopy I p r i j k = 0 by (try simp only [decide_eq_true_eq, decide_eq_false_iff_not, bI] at *); unfold fCopy; (repeat' split) <;> first | rfl | omega | (exfalso; simp_all; done) | (exfalso; simp_all; omega))]))
                    · refine z_aload_n C 3 rfl dX5_copy_147 rfl ?_
                      refine z_bipush C dX5_copy_148 (by decide) ?_
                      refine y_callV1 C oX5_refuse iX5_refuse eX5_refuse lkX5_59 (c_X5_refuse (by first | assumption | omega)) rfl (by decide) rfl rfl (by decide) (Nat.le_refl _) (Nat.le_refl _) (Nat.le_of_ble_eq_true rfl) dX5_copy_150 ?_
                      exact zZ_iret C hR (Nat.le_refl _) (Nat.le_refl _) dX5_copy_153 rfl (zIs_I (uRc (show fCopy I p r i j k = -2 by (try simp only [decide_eq_true_eq, decide_eq_false_iff_not, bI] at *); unfold fCopy; (repeat' split) <;> first | rfl | omega | (exfalso; simp_all; done) | (exfalso; simp_all; omega)) (by decide)).symm (by rw [uIc (show fCopy I p r i j k = -2 by (try simp only [decide_eq_true_eq, decide_eq_false_iff_not, bI] at *); unfold fCopy; (repeat' split) <;> first | rfl | omega | (exfalso; simp_all; done) | (exfalso; simp_all; omega)) (by decide), uJc (show fCopy I p r i j k = -2 by (try simp only [decide_eq_true_eq, decide_eq_false_iff_not, bI] at *); unfold fCopy; (repeat' split) <;> first | rfl | omega | (exfalso; simp_all; done) | (exfalso; simp_all; omega)) (by decide)]))
                · refine z_aload_n C 3 rfl dX5_copy_117 rfl ?_
                  refine z_bipush C dX5_copy_118 (by decide) ?_
                  refine y_callV1 C oX5_refuse iX5_refuse eX5_refuse lkX5_59 (c_X5_refuse (by first | assumption | omega)) rfl (by decide) rfl rfl (by decide) (Nat.le_refl _) (Nat.le_refl _) (Nat.le_of_ble_eq_true rfl) dX5_copy_120 ?_
                  exact zZ_iret C hR (Nat.le_refl _) (Nat.le_refl _) dX5_copy_123 rfl (zIs_I (uRc (show fCopy I p r i j k = -4 by (try simp only [decide_eq_true_eq, decide_eq_false_iff_not, bI] at *); unfold fCopy; (repeat' split) <;> first | rfl | omega | (exfalso; simp_all; done) | (exfalso; simp_all; omega)) (by decide)).symm (by rw [uIc (show fCopy I p r i j k = -4 by (try simp only [decide_eq_true_eq, decide_eq_false_iff_not, bI] at *); unfold fCopy; (repeat' split) <;> first | rfl | omega | (exfalso; simp_all; done) | (exfalso; simp_all; omega)) (by decide), uJc (show fCopy I p r i j k = -4 by (try simp only [decide_eq_true_eq, decide_eq_false_iff_not, bI] at *); unfold fCopy; (repeat' split) <;> first | rfl | omega | (exfalso; simp_all; done) | (exfalso; simp_all; omega)) (by decide)]))
            · refine z_aload_n C 3 rfl dX5_copy_94 rfl ?_
              refine z_bipush C dX5_copy_95 (by decide) ?_
              refine y_callV1 C oX5_refuse iX5_refuse eX5_refuse lkX5_59 (c_X5_refuse (by first | assumption | omega)) rfl (by decide) rfl rfl (by decide) (Nat.le_refl _) (Nat.le_refl _) (Nat.le_of_ble_eq_true rfl) dX5_copy_97 ?_
              exact zZ_iret C hR (Nat.le_refl _) (Nat.le_refl _) dX5_copy_100 rfl (zIs_I (uRc (show fCopy I p r i j k = -3 by (try simp only [decide_eq_true_eq, decide_eq_false_iff_not, bI] at *); unfold fCopy; (repeat' split) <;> first | rfl | omega | (exfalso; simp_all; done) | (exfalso; simp_all; omega)) (by decide)).symm (by rw [uIc (show fCopy I p r i j k = -3 by (try simp only [decide_eq_true_eq, decide_eq_false_iff_not, bI] at *); unfold fCopy; (repeat' split) <;> first | rfl | omega | (exfalso; simp_all; done) | (exfalso; simp_all; omega)) (by decide), uJc (show fCopy I p r i j k = -3 by (try simp only [decide_eq_true_eq, decide_eq_false_iff_not, bI] at *); unfold fCopy; (repeat' split) <;> first | rfl | omega | (exfalso; simp_all; done) | (exfalso; simp_all; omega)) (by decide)]))
      · refine z_aload C 0 rfl dX5_copy_45 ?_
        refine y_callV0 C oX2_hasRow iX2_hasRow eX2_hasRow lkX5_86 (c_X2_hasRow (isL_of (by omega)) (by first | assumption | omega)) (lay_l (isL_of (by omega))) (by decide) rfl rfl (by decide) (Nat.le_refl _) (Nat.le_refl _) (Nat.le_of_ble_eq_true rfl) dX5_copy_47 ?_
        refine y_if_eqB C 70 dX5_copy_50 (by decide) (fun h50 => ?_) (fun h50 => ?_)
        · refine z_iconst C dX5_copy_70 ?_
          refine z_istore C [(8, .int (iI 0)), (7, .ref (19 + 2 * r.toNat)), (6, .ref (19 + 2 * p.toNat)), (0, .ref 0), (1, .int (iI p)), (2, .int (iI r)), (3, .int (iI i)), (4, .int (iI j)), (5, .int (iI k))] dX5_copy_71 (by decide) rfl ?_
          refine z_aload C 2 rfl dX5_copy_73 ?_
          refine y_callV0 C oX2_hasEwe iX2_hasEwe eX2_hasEwe lkX5_90 (c_X2_hasEwe (isL_of (by omega)) (by first | assumption | omega)) (lay_l (isL_of (by omega))) (by decide) rfl rfl (by decide) (Nat.le_refl _) (Nat.le_refl _) (Nat.le_of_ble_eq_true rfl) dX5_copy_75 ?_
          refine y_if_neB C 94 dX5_copy_78 (by decide) (fun h78 => ?_) (fun h78 => ?_)
          · refine z_aload_n C 3 rfl dX5_copy_94 rfl ?_
            refine z_bipush C dX5_copy_95 (by decide) ?_
            refine y_callV1 C oX5_refuse iX5_refuse eX5_refuse lkX5_59 (c_X5_refuse (by first | assumption | omega)) rfl (by decide) rfl rfl (by decide) (Nat.le_refl _) (Nat.le_refl _) (Nat.le_of_ble_eq_true rfl) dX5_copy_97 ?_
            exact zZ_iret C hR (Nat.le_refl _) (Nat.le_refl _) dX5_copy_100 rfl (zIs_I (uRc (show fCopy I p r i j k = -3 by (try simp only [decide_eq_true_eq, decide_eq_false_iff_not, bI] at *); unfold fCopy; (repeat' split) <;> first | rfl | omega | (exfalso; simp_all; done) | (exfalso; simp_all; omega)) (by decide)).symm (by rw [uIc (show fCopy I p r i j k = -3 by (try simp only [decide_eq_true_eq, decide_eq_false_iff_not, bI] at *); unfold fCopy; (repeat' split) <;> first | rfl | omega | (exfalso; simp_all; done) | (exfalso; simp_all; omega)) (by decide), uJc (show fCopy I p r i j k = -3 by (try simp only [decide_eq_true_eq, decide_eq_false_iff_not, bI] at *); unfold fCopy; (repeat' split) <;> first | rfl | omega | (exfalso; simp_all; done) | (exfalso; simp_all; omega)) (by decide)]))
          · refine z_aload C 1 rfl dX5_copy_81 ?_
            refine y_callV0 C oX2_hasEwe iX2_hasEwe eX2_hasEwe lkX5_90 (c_X2_hasEwe (isL_of (by omega)) (by first | assumption | omega)) (lay_l (isL_of (by omega))) (by decide) rfl rfl (by decide) (Nat.le_refl _) (Nat.le_refl _) (Nat.le_of_ble_eq_true rfl) dX5_copy_83 ?_
            refine y_if_neB C 94 dX5_copy_86 (by decide) (fun h86 => ?_) (fun h86 => ?_)
            · refine z_aload_n C 3 rfl dX5_copy_94 rfl ?_
              refine z_bipush C dX5_copy_95 (by decide) ?_
              refine y_callV1 C oX5_refuse iX5_refuse eX5_refuse lkX5_59 (c_X5_refuse (by first | assumption | omega)) rfl (by decide) rfl rfl (by decide) (Nat.le_refl _) (Nat.le_refl _) (Nat.le_of_ble_eq_true rfl) dX5_copy_97 ?_
              exact zZ_iret C hR (Nat.le_refl _) (Nat.le_refl _) dX5_copy_100 rfl (zIs_I (uRc (show fCopy I p r i j k = -3 by (try simp only [decide_eq_true_eq, decide_eq_false_iff_not, bI] at *); unfold fCopy; (repeat' split) <;> first | rfl | omega | (exfalso; simp_all; done) | (exfalso; simp_all; omega)) (by decide)).symm (by rw [uIc (show fCopy I p r i j k = -3 by (try simp only [decide_eq_true_eq, decide_eq_false_iff_not, bI] at *); unfold fCopy; (repeat' split) <;> first | rfl | omega | (exfalso; simp_all; done) | (exfalso; simp_all; omega)) (by decide), uJc (show fCopy I p r i j k = -3 by (try simp only [decide_eq_true_eq, decide_eq_false_iff_not, bI] at *); unfold fCopy; (repeat' split) <;> first | rfl | omega | (exfalso; simp_all; done) | (exfalso; simp_all; omega)) (by decide)]))
            · refine z_iload C 0 rfl dX5_copy_89 ?_
              refine z_if_eq C 101 dX5_copy_91 (by decide) (by omega) (fun h91 => ?_) (fun h91 => ?_)
              · refine z_aload C 2 rfl dX5_copy_101 ?_
                refine y_callV0 C oX2_hasRow iX2_hasRow eX2_hasRow lkX5_86 (c_X2_hasRow (isL_of (by omega)) (by first | assumption | omega)) (lay_l (isL_of (by omega))) (by decide) rfl rfl (by decide) (Nat.le_refl _) (Nat.le_refl _) (Nat.le_of_ble_eq_true rfl) dX5_copy_103 ?_
                refine y_if_eqB C 117 dX5_copy_106 (by decide) (fun h106 => ?_) (fun h106 => ?_)
                · refine z_aload_n C 3 rfl dX5_copy_117 rfl ?_
                  refine z_bipush C dX5_copy_118 (by decide) ?_
                  refine y_callV1 C oX5_refuse iX5_refuse eX5_refuse lkX5_59 (c_X5_refuse (by first | assumption | omega)) rfl (by decide) rfl rfl (by decide) (Nat.le_refl _) (Nat.le_refl _) (Nat.le_of_ble_eq_true rfl) dX5_copy_120 ?_
                  exact zZ_iret C hR (Nat.le_refl _) (Nat.le_refl _) dX5_copy_123 rfl (zIs_I (uRc (show fCopy I p r i j k = -4 by (try simp only [decide_eq_true_eq, decide_eq_false_iff_not, bI] at *); unfold fCopy; (repeat' split) <;> first | rfl | omega | (exfalso; simp_all; done) | (exfalso; simp_all; omega)) (by decide)).symm (by rw [uIc (show fCopy I p r i j k = -4 by (try simp only [decide_eq_true_eq, decide_eq_false_iff_not, bI] at *); unfold fCopy; (repeat' split) <;> first | rfl | omega | (exfalso; simp_all; done) | (exfalso; simp_all; omega)) (by decide), uJc (show fCopy I p r i j k = -4 by (try simp only [decide_eq_true_eq, decide_eq_false_iff_not, bI] at *); unfold fCopy; (repeat' split) <;> first | rfl | omega | (exfalso; simp_all; done) | (exfalso; simp_all; omega)) (by decide)]))
                · refine z_aload C 1 rfl dX5_copy_109 ?_
                  refine y_callV0 C oX2_hasRow iX2_hasRow eX2_hasRow lkX5_86 (c_X2_hasRow (isL_of (by omega)) (by first | assumption | omega)) (lay_l (isL_of (by omega))) (by decide) rfl rfl (by decide) (Nat.le_refl _) (Nat.le_refl _) (Nat.le_of_ble_eq_true rfl) dX5_copy_111 ?_
                  refine y_if_neB C 124 dX5_copy_114 (by decide) (fun h114 => ?_) (fun h114 => ?_)
                  · refine z_aload C 2 rfl dX5_copy_124 ?_
                    refine z_iload_n C 6 rfl dX5_copy_126 rfl ?_
                    refine z_iload C 8 rfl dX5_copy_127 ?_
                    refine y_callV2 C oX2_hasPart iX2_hasPart eX2_hasPart lkX5_93 (c_X2_hasPart (isL_of (by omega)) (by first | assumption | omega) (by first | assumption | omega) (by first | assumption | omega)) (lay_l (isL_of (by omega))) (by decide) rfl rfl (by decide) (Nat.le_refl _) (Nat.le_refl _) (Nat.le_of_ble_eq_true rfl) dX5_copy_129 ?_
                    refine y_if_eqB C 147 dX5_copy_132 (by decide) (fun h132 => ?_) (fun h132 => ?_)
                    · refine z_aload_n C 3 rfl dX5_copy_147 rfl ?_
                      refine z_bipush C dX5_copy_148 (by decide) ?_
                      refine y_callV1 C oX5_refuse iX5_refuse eX5_refuse lkX5_59 (c_X5_refuse (by first | assumption | omega)) rfl (by decide) rfl rfl (by decide) (Nat.le_refl _) (Nat.le_refl _) (Nat.le_of_ble_eq_true rfl) dX5_copy_150 ?_
                      exact zZ_iret C hR (Nat.le_refl _) (Nat.le_refl _) dX5_copy_153 rfl (zIs_I (uRc (show fCopy I p r i j k = -2 by (try simp only [decide_eq_true_eq, decide_eq_false_iff_not, bI] at *); unfold fCopy; (repeat' split) <;> first | rfl | omega | (exfalso; simp_all; done) | (exfalso; simp_all; omega)) (by decide)).symm (by rw [uIc (show fCopy I p r i j k = -2 by (try simp only [decide_eq_true_eq, decide_eq_false_iff_not, bI] at *); unfold fCopy; (repeat' split) <;> first | rfl | omega | (exfalso; simp_all; done) | (exfalso; simp_all; omega)) (by decide), uJc (show fCopy I p r i j k = -2 by (try simp only [decide_eq_true_eq, decide_eq_false_iff_not, bI] at *); unfold fCopy; (repeat' split) <;> first | rfl | omega | (exfalso; simp_all; done) | (exfalso; simp_all; omega)) (by decide)]))
                    · refine z_aload C 1 rfl dX5_copy_135 ?_
                      refine z_iload C 7 rfl dX5_copy_137 ?_
                      refine z_iload C 8 rfl dX5_copy_139 ?_
                      refine y_callV2 C oX2_hasPart iX2_hasPart eX2_hasPart lkX5_93 (c_X2_hasPart (isL_of (by omega)) (by first | assumption | omega) (by first | assumption | omega) (by first | assumption | omega)) (lay_l (isL_of (by omega))) (by decide) rfl rfl (by decide) (Nat.le_refl _) (Nat.le_refl _) (Nat.le_of_ble_eq_true rfl) dX5_copy_141 ?_
                      refine y_if_neB C 154 dX5_copy_144 (by decide) (fun h144 => ?_) (fun h144 => ?_)
                      · have hc1 := of_decide_eq_true h132
                        have hc2 := of_decide_eq_true h144
                        refine z_aload C 2 rfl dX5_copy_154 ?_
                        refine y_getR C zCl2 2 flX5_75 rfl (lay_l (isL_of (by omega))) (rt_l (isL_of (by omega))) dX5_copy_156 ?_
                        refine z_iload_n C 6 rfl dX5_copy_159 rfl ?_
                        refine z_aload C 1 rfl dX5_copy_160 ?_
                        refine y_getR C zCl2 2 flX5_75 rfl (lay_l (isL_of (by omega))) (rt_l (isL_of (by omega))) dX5_copy_162 ?_
                        refine z_iload C 7 rfl dX5_copy_165 ?_
                        refine z_iload C 8 rfl dX5_copy_167 ?_
                        refine y_cpJ C lkX5_97 i.toNat j.toNat k.toNat (by omega) (by omega) (by omega) (lay_l1 (isL_of (by omega))) (lay_l1 (isL_of (by omega))) (by omega) (by omega) (by decide) (by decide) (by decide) (Nat.le_of_ble_eq_true rfl) dX5_copy_169 ?_
                        refine z_iload C 8 rfl dX5_copy_172 ?_
                        exact zZ_iret C hR (Nat.le_refl _) (Nat.le_refl _) dX5_copy_174 rfl (zIs_I ((rfl).trans (uR0 (show fCopy I p r i j k = 0 by (try simp only [decide_eq_true_eq, decide_eq_false_iff_not, bI] at *); unfold fCopy; (repeat' split) <;> first | rfl | omega | (exfalso; simp_all; done) | (exfalso; simp_all; omega))).symm) (by rw [uI0 (show fCopy I p r i j k = 0 by (try simp only [decide_eq_true_eq, decide_eq_false_iff_not, bI] at *); unfold fCopy; (repeat' split) <;> first | rfl | omega | (exfalso; simp_all; done) | (exfalso; simp_all; omega)), uJ0 (show fCopy I p r i j k = 0 by (try simp only [decide_eq_true_eq, decide_eq_false_iff_not, bI] at *); unfold fCopy; (repeat' split) <;> first | rfl | omega | (exfalso; simp_all; done) | (exfalso; simp_all; omega))]))
                      · refine z_aload_n C 3 rfl dX5_copy_147 rfl ?_
                        refine z_bipush C dX5_copy_148 (by decide) ?_
                        refine y_callV1 C oX5_refuse iX5_refuse eX5_refuse lkX5_59 (c_X5_refuse (by first | assumption | omega)) rfl (by decide) rfl rfl (by decide) (Nat.le_refl _) (Nat.le_refl _) (Nat.le_of_ble_eq_true rfl) dX5_copy_150 ?_
                        exact zZ_iret C hR (Nat.le_refl _) (Nat.le_refl _) dX5_copy_153 rfl (zIs_I (uRc (show fCopy I p r i j k = -2 by (try simp only [decide_eq_true_eq, decide_eq_false_iff_not, bI] at *); unfold fCopy; (repeat' split) <;> first | rfl | omega | (exfalso; simp_all; done) | (exfalso; simp_all; omega)) (by decide)).symm (by rw [uIc (show fCopy I p r i j k = -2 by (try simp only [decide_eq_true_eq, decide_eq_false_iff_not, bI] at *); unfold fCopy; (repeat' split) <;> first | rfl | omega | (exfalso; simp_all; done) | (exfalso; simp_all; omega)) (by decide), uJc (show fCopy I p r i j k = -2 by (try simp only [decide_eq_true_eq, decide_eq_false_iff_not, bI] at *); unfold fCopy; (repeat' split) <;> first | rfl | omega | (exfalso; simp_all; done) | (exfalso; simp_all; omega)) (by decide)]))
                  · refine z_aload_n C 3 rfl dX5_copy_117 rfl ?_
                    refine z_bipush C dX5_copy_118 (by decide) ?_
                    refine y_callV1 C oX5_refuse iX5_refuse eX5_refuse lkX5_59 (c_X5_refuse (by first | assumption | omega)) rfl (by decide) rfl rfl (by decide) (Nat.le_refl _) (Nat.le_refl _) (Nat.le_of_ble_eq_true rfl) dX5_copy_120 ?_
                    exact zZ_iret C hR (Nat.le_refl _) (Nat.le_refl _) dX5_copy_123 rfl (zIs_I (uRc (show fCopy I p r i j k = -4 by (try simp only [decide_eq_true_eq, decide_eq_false_iff_not, bI] at *); unfold fCopy; (repeat' split) <;> first | rfl | omega | (exfalso; simp_all; done) | (exfalso; simp_all; omega)) (by decide)).symm (by rw [uIc (show fCopy I p r i j k = -4 by (try simp only [decide_eq_true_eq, decide_eq_false_iff_not, bI] at *); unfold fCopy; (repeat' split) <;> first | rfl | omega | (exfalso; simp_all; done) | (exfalso; simp_all; omega)) (by decide), uJc (show fCopy I p r i j k = -4 by (try simp only [decide_eq_true_eq, decide_eq_false_iff_not, bI] at *); unfold fCopy; (repeat' split) <;> first | rfl | omega | (exfalso; simp_all; done) | (exfalso; simp_all; omega)) (by decide)]))
              · refine z_aload_n C 3 rfl dX5_copy_94 rfl ?_
                refine z_bipush C dX5_copy_95 (by decide) ?_
                refine y_callV1 C oX5_refuse iX5_refuse eX5_refuse lkX5_59 (c_X5_refuse (by first | assumption | omega)) rfl (by decide) rfl rfl (by decide) (Nat.le_refl _) (Nat.le_refl _) (Nat.le_of_ble_eq_true rfl) dX5_copy_97 ?_
                exact zZ_iret C hR (Nat.le_refl _) (Nat.le_refl _) dX5_copy_100 rfl (zIs_I (uRc (show fCopy I p r i j k = -3 by (try simp only [decide_eq_true_eq, decide_eq_false_iff_not, bI] at *); unfold fCopy; (repeat' split) <;> first | rfl | omega | (exfalso; simp_all; done) | (exfalso; simp_all; omega)) (by decide)).symm (by rw [uIc (show fCopy I p r i j k = -3 by (try simp only [decide_eq_true_eq, decide_eq_false_iff_not, bI] at *); unfold fCopy; (repeat' split) <;> first | rfl | omega | (exfalso; simp_all; done) | (exfalso; simp_all; omega)) (by decide), uJc (show fCopy I p r i j k = -3 by (try simp only [decide_eq_true_eq, decide_eq_false_iff_not, bI] at *); unfold fCopy; (repeat' split) <;> first | rfl | omega | (exfalso; simp_all; done) | (exfalso; simp_all; omega)) (by decide)]))
        · refine z_aload C 1 rfl dX5_copy_53 ?_
          refine y_getI C zCl2 0 flX5_79 rfl (lay_l (isL_of (by omega))) dX5_copy_55 ?_
          refine z_aload C 0 rfl dX5_copy_58 ?_
          refine y_getI C zCl2 0 flX5_79 rfl (lay_l (isL_of (by omega))) dX5_copy_60 ?_
          refine z_icmp_eq C 70 dX5_copy_63 (by decide) (by omega) (by omega) (fun h63 => ?_) (fun h63 => ?_)
          · refine z_iconst C dX5_copy_70 ?_
            refine z_istore C [(8, .int (iI 0)), (7, .ref (19 + 2 * r.toNat)), (6, .ref (19 + 2 * p.toNat)), (0, .ref 0), (1, .int (iI p)), (2, .int (iI r)), (3, .int (iI i)), (4, .int (iI j)), (5, .int (iI k))] dX5_copy_71 (by decide) rfl ?_
            refine z_aload C 2 rfl dX5_copy_73 ?_
            refine y_callV0 C oX2_hasEwe iX2_hasEwe eX2_hasEwe lkX5_90 (c_X2_hasEwe (isL_of (by omega)) (by first | assumption | omega)) (lay_l (isL_of (by omega))) (by decide) rfl rfl (by decide) (Nat.le_refl _) (Nat.le_refl _) (Nat.le_of_ble_eq_true rfl) dX5_copy_75 ?_
            refine y_if_neB C 94 dX5_copy_78 (by decide) (fun h78 => ?_) (fun h78 => ?_)
            · refine z_aload_n C 3 rfl dX5_copy_94 rfl ?_
              refine z_bipush C dX5_copy_95 (by decide) ?_
              refine y_callV1 C oX5_refuse iX5_refuse eX5_refuse lkX5_59 (c_X5_refuse (by first | assumption | omega)) rfl (by decide) rfl rfl (by decide) (Nat.le_refl _) (Nat.le_refl _) (Nat.le_of_ble_eq_true rfl) dX5_copy_97 ?_
              exact zZ_iret C hR (Nat.le_refl _) (Nat.le_refl _) dX5_copy_100 rfl (zIs_I (uRc (show fCopy I p r i j k = -3 by (try simp only [decide_eq_true_eq, decide_eq_false_iff_not, bI] at *); unfold fCopy; (repeat' split) <;> first | rfl | omega | (exfalso; simp_all; done) | (exfalso; simp_all; omega)) (by decide)).symm (by rw [uIc (show fCopy I p r i j k = -3 by (try simp only [decide_eq_true_eq, decide_eq_false_iff_not, bI] at *); unfold fCopy; (repeat' split) <;> first | rfl | omega | (exfalso; simp_all; done) | (exfalso; simp_all; omega)) (by decide), uJc (show fCopy I p r i j k = -3 by (try simp only [decide_eq_true_eq, decide_eq_false_iff_not, bI] at *); unfold fCopy; (repeat' split) <;> first | rfl | omega | (exfalso; simp_all; done) | (exfalso; simp_all; omega)) (by decide)]))
            · refine z_aload C 1 rfl dX5_copy_81 ?_
              refine y_callV0 C oX2_hasEwe iX2_hasEwe eX2_hasEwe lkX5_90 (c_X2_hasEwe (isL_of (by omega)) (by first | assumption | omega)) (lay_l (isL_of (by omega))) (by decide) rfl rfl (by decide) (Nat.le_refl _) (Nat.le_refl _) (Nat.le_of_ble_eq_true rfl) dX5_copy_83 ?_
              refine y_if_neB C 94 dX5_copy_86 (by decide) (fun h86 => ?_) (fun h86 => ?_)
              · refine z_aload_n C 3 rfl dX5_copy_94 rfl ?_
                refine z_bipush C dX5_copy_95 (by decide) ?_
                refine y_callV1 C oX5_refuse iX5_refuse eX5_refuse lkX5_59 (c_X5_refuse (by first | assumption | omega)) rfl (by decide) rfl rfl (by decide) (Nat.le_refl _) (Nat.le_refl _) (Nat.le_of_ble_eq_true rfl) dX5_copy_97 ?_
                exact zZ_iret C hR (Nat.le_refl _) (Nat.le_refl _) dX5_copy_100 rfl (zIs_I (uRc (show fCopy I p r i j k = -3 by (try simp only [decide_eq_true_eq, decide_eq_false_iff_not, bI] at *); unfold fCopy; (repeat' split) <;> first | rfl | omega | (exfalso; simp_all; done) | (exfalso; simp_all; omega)) (by decide)).symm (by rw [uIc (show fCopy I p r i j k = -3 by (try simp only [decide_eq_true_eq, decide_eq_false_iff_not, bI] at *); unfold fCopy; (repeat' split) <;> first | rfl | omega | (exfalso; simp_all; done) | (exfalso; simp_all; omega)) (by decide), uJc (show fCopy I p r i j k = -3 by (try simp only [decide_eq_true_eq, decide_eq_false_iff_not, bI] at *); unfold fCopy; (repeat' split) <;> first | rfl | omega | (exfalso; simp_all; done) | (exfalso; simp_all; omega)) (by decide)]))
              · refine z_iload C 0 rfl dX5_copy_89 ?_
                refine z_if_eq C 101 dX5_copy_91 (by decide) (by omega) (fun h91 => ?_) (fun h91 => ?_)
                · refine z_aload C 2 rfl dX5_copy_101 ?_
                  refine y_callV0 C oX2_hasRow iX2_hasRow eX2_hasRow lkX5_86 (c_X2_hasRow (isL_of (by omega)) (by first | assumption | omega)) (lay_l (isL_of (by omega))) (by decide) rfl rfl (by decide) (Nat.le_refl _) (Nat.le_refl _) (Nat.le_of_ble_eq_true rfl) dX5_copy_103 ?_
                  refine y_if_eqB C 117 dX5_copy_106 (by decide) (fun h106 => ?_) (fun h106 => ?_)
                  · refine z_aload_n C 3 rfl dX5_copy_117 rfl ?_
                    refine z_bipush C dX5_copy_118 (by decide) ?_
                    refine y_callV1 C oX5_refuse iX5_refuse eX5_refuse lkX5_59 (c_X5_refuse (by first | assumption | omega)) rfl (by decide) rfl rfl (by decide) (Nat.le_refl _) (Nat.le_refl _) (Nat.le_of_ble_eq_true rfl) dX5_copy_120 ?_
                    exact zZ_iret C hR (Nat.le_refl _) (Nat.le_refl _) dX5_copy_123 rfl (zIs_I (uRc (show fCopy I p r i j k = -4 by (try simp only [decide_eq_true_eq, decide_eq_false_iff_not, bI] at *); unfold fCopy; (repeat' split) <;> first | rfl | omega | (exfalso; simp_all; done) | (exfalso; simp_all; omega)) (by decide)).symm (by rw [uIc (show fCopy I p r i j k = -4 by (try simp only [decide_eq_true_eq, decide_eq_false_iff_not, bI] at *); unfold fCopy; (repeat' split) <;> first | rfl | omega | (exfalso; simp_all; done) | (exfalso; simp_all; omega)) (by decide), uJc (show fCopy I p r i j k = -4 by (try simp only [decide_eq_true_eq, decide_eq_false_iff_not, bI] at *); unfold fCopy; (repeat' split) <;> first | rfl | omega | (exfalso; simp_all; done) | (exfalso; simp_all; omega)) (by decide)]))
                  · refine z_aload C 1 rfl dX5_copy_109 ?_
                    refine y_callV0 C oX2_hasRow iX2_hasRow eX2_hasRow lkX5_86 (c_X2_hasRow (isL_of (by omega)) (by first | assumption | omega)) (lay_l (isL_of (by omega))) (by decide) rfl rfl (by decide) (Nat.le_refl _) (Nat.le_refl _) (Nat.le_of_ble_eq_true rfl) dX5_copy_111 ?_
                    refine y_if_neB C 124 dX5_copy_114 (by decide) (fun h114 => ?_) (fun h114 => ?_)
                    · refine z_aload C 2 rfl dX5_copy_124 ?_
                      refine z_iload_n C 6 rfl dX5_copy_126 rfl ?_
                      refine z_iload C 8 rfl dX5_copy_127 ?_
                      refine y_callV2 C oX2_hasPart iX2_hasPart eX2_hasPart lkX5_93 (c_X2_hasPart (isL_of (by omega)) (by first | assumption | omega) (by first | assumption | omega) (by first | assumption | omega)) (lay_l (isL_of (by omega))) (by decide) rfl rfl (by decide) (Nat.le_refl _) (Nat.le_refl _) (Nat.le_of_ble_eq_true rfl) dX5_copy_129 ?_
                      refine y_if_eqB C 147 dX5_copy_132 (by decide) (fun h132 => ?_) (fun h132 => ?_)
                      · refine z_aload_n C 3 rfl dX5_copy_147 rfl ?_
                        refine z_bipush C dX5_copy_148 (by decide) ?_
                        refine y_callV1 C oX5_refuse iX5_refuse eX5_refuse lkX5_59 (c_X5_refuse (by first | assumption | omega)) rfl (by decide) rfl rfl (by decide) (Nat.le_refl _) (Nat.le_refl _) (Nat.le_of_ble_eq_true rfl) dX5_copy_150 ?_
                        exact zZ_iret C hR (Nat.le_refl _) (Nat.le_refl _) dX5_copy_153 rfl (zIs_I (uRc (show fCopy I p r i j k = -2 by (try simp only [decide_eq_true_eq, decide_eq_false_iff_not, bI] at *); unfold fCopy; (repeat' split) <;> first | rfl | omega | (exfalso; simp_all; done) | (exfalso; simp_all; omega)) (by decide)).symm (by rw [uIc (show fCopy I p r i j k = -2 by (try simp only [decide_eq_true_eq, decide_eq_false_iff_not, bI] at *); unfold fCopy; (repeat' split) <;> first | rfl | omega | (exfalso; simp_all; done) | (exfalso; simp_all; omega)) (by decide), uJc (show fCopy I p r i j k = -2 by (try simp only [decide_eq_true_eq, decide_eq_false_iff_not, bI] at *); unfold fCopy; (repeat' split) <;> first | rfl | omega | (exfalso; simp_all; done) | (exfalso; simp_all; omega)) (by decide)]))
                      · refine z_aload C 1 rfl dX5_copy_135 ?_
                        refine z_iload C 7 rfl dX5_copy_137 ?_
                        refine z_iload C 8 rfl dX5_copy_139 ?_
                        refine y_callV2 C oX2_hasPart iX2_hasPart eX2_hasPart lkX5_93 (c_X2_hasPart (isL_of (by omega)) (by first | assumption | omega) (by first | assumption | omega) (by first | assumption | omega)) (lay_l (isL_of (by omega))) (by decide) rfl rfl (by decide) (Nat.le_refl _) (Nat.le_refl _) (Nat.le_of_ble_eq_true rfl) dX5_copy_141 ?_
                        refine y_if_neB C 154 dX5_copy_144 (by decide) (fun h144 => ?_) (fun h144 => ?_)
                        · have hc1 := of_decide_eq_true h132
                          have hc2 := of_decide_eq_true h144
                          refine z_aload C 2 rfl dX5_copy_154 ?_
                          refine y_getR C zCl2 2 flX5_75 rfl (lay_l (isL_of (by omega))) (rt_l (isL_of (by omega))) dX5_copy_156 ?_
                          refine z_iload_n C 6 rfl dX5_copy_159 rfl ?_
                          refine z_aload C 1 rfl dX5_copy_160 ?_
                          refine y_getR C zCl2 2 flX5_75 rfl (lay_l (isL_of (by omega))) (rt_l (isL_of (by omega))) dX5_copy_162 ?_
                          refine z_iload C 7 rfl dX5_copy_165 ?_
                          refine z_iload C 8 rfl dX5_copy_167 ?_
                          refine y_cpJ C lkX5_97 i.toNat j.toNat k.toNat (by omega) (by omega) (by omega) (lay_l1 (isL_of (by omega))) (lay_l1 (isL_of (by omega))) (by omega) (by omega) (by decide) (by decide) (by decide) (Nat.le_of_ble_eq_true rfl) dX5_copy_169 ?_
                          refine z_iload C 8 rfl dX5_copy_172 ?_
                          exact zZ_iret C hR (Nat.le_refl _) (Nat.le_refl _) dX5_copy_174 rfl (zIs_I ((rfl).trans (uR0 (show fCopy I p r i j k = 0 by (try simp only [decide_eq_true_eq, decide_eq_false_iff_not, bI] at *); unfold fCopy; (repeat' split) <;> first | rfl | omega | (exfalso; simp_all; done) | (exfalso; simp_all; omega))).symm) (by rw [uI0 (show fCopy I p r i j k = 0 by (try simp only [decide_eq_true_eq, decide_eq_false_iff_not, bI] at *); unfold fCopy; (repeat' split) <;> first | rfl | omega | (exfalso; simp_all; done) | (exfalso; simp_all; omega)), uJ0 (show fCopy I p r i j k = 0 by (try simp only [decide_eq_true_eq, decide_eq_false_iff_not, bI] at *); unfold fCopy; (repeat' split) <;> first | rfl | omega | (exfalso; simp_all; done) | (exfalso; simp_all; omega))]))
                        · refine z_aload_n C 3 rfl dX5_copy_147 rfl ?_
                          refine z_bipush C dX5_copy_148 (by decide) ?_
                          refine y_callV1 C oX5_refuse iX5_refuse eX5_refuse lkX5_59 (c_X5_refuse (by first | assumption | omega)) rfl (by decide) rfl rfl (by decide) (Nat.le_refl _) (Nat.le_refl _) (Nat.le_of_ble_eq_true rfl) dX5_copy_150 ?_
                          exact zZ_iret C hR (Nat.le_refl _) (Nat.le_refl _) dX5_copy_153 rfl (zIs_I (uRc (show fCopy I p r i j k = -2 by (try simp only [decide_eq_true_eq, decide_eq_false_iff_not, bI] at *); unfold fCopy; (repeat' split) <;> first | rfl | omega | (exfalso; simp_all; done) | (exfalso; simp_all; omega)) (by decide)).symm (by rw [uIc (show fCopy I p r i j k = -2 by (try simp only [decide_eq_true_eq, decide_eq_false_iff_not, bI] at *); unfold fCopy; (repeat' split) <;> first | rfl | omega | (exfalso; simp_all; done) | (exfalso; simp_all; omega)) (by decide), uJc (show fCopy I p r i j k = -2 by (try simp only [decide_eq_true_eq, decide_eq_false_iff_not, bI] at *); unfold fCopy; (repeat' split) <;> first | rfl | omega | (exfalso; simp_all; done) | (exfalso; simp_all; omega)) (by decide)]))
                    · refine z_aload_n C 3 rfl dX5_copy_117 rfl ?_
                      refine z_bipush C dX5_copy_118 (by decide) ?_
                      refine y_callV1 C oX5_refuse iX5_refuse eX5_refuse lkX5_59 (c_X5_refuse (by first | assumption | omega)) rfl (by decide) rfl rfl (by decide) (Nat.le_refl _) (Nat.le_refl _) (Nat.le_of_ble_eq_true rfl) dX5_copy_120 ?_
                      exact zZ_iret C hR (Nat.le_refl _) (Nat.le_refl _) dX5_copy_123 rfl (zIs_I (uRc (show fCopy I p r i j k = -4 by (try simp only [decide_eq_true_eq, decide_eq_false_iff_not, bI] at *); unfold fCopy; (repeat' split) <;> first | rfl | omega | (exfalso; simp_all; done) | (exfalso; simp_all; omega)) (by decide)).symm (by rw [uIc (show fCopy I p r i j k = -4 by (try simp only [decide_eq_true_eq, decide_eq_false_iff_not, bI] at *); unfold fCopy; (repeat' split) <;> first | rfl | omega | (exfalso; simp_all; done) | (exfalso; simp_all; omega)) (by decide), uJc (show fCopy I p r i j k = -4 by (try simp only [decide_eq_true_eq, decide_eq_false_iff_not, bI] at *); unfold fCopy; (repeat' split) <;> first | rfl | omega | (exfalso; simp_all; done) | (exfalso; simp_all; omega)) (by decide)]))
                · refine z_aload_n C 3 rfl dX5_copy_94 rfl ?_
                  refine z_bipush C dX5_copy_95 (by decide) ?_
                  refine y_callV1 C oX5_refuse iX5_refuse eX5_refuse lkX5_59 (c_X5_refuse (by first | assumption | omega)) rfl (by decide) rfl rfl (by decide) (Nat.le_refl _) (Nat.le_refl _) (Nat.le_of_ble_eq_true rfl) dX5_copy_97 ?_
                  exact zZ_iret C hR (Nat.le_refl _) (Nat.le_refl _) dX5_copy_100 rfl (zIs_I (uRc (show fCopy I p r i j k = -3 by (try simp only [decide_eq_true_eq, decide_eq_false_iff_not, bI] at *); unfold fCopy; (repeat' split) <;> first | rfl | omega | (exfalso; simp_all; done) | (exfalso; simp_all; omega)) (by decide)).symm (by rw [uIc (show fCopy I p r i j k = -3 by (try simp only [decide_eq_true_eq, decide_eq_false_iff_not, bI] at *); unfold fCopy; (repeat' split) <;> first | rfl | omega | (exfalso; simp_all; done) | (exfalso; simp_all; omega)) (by decide), uJc (show fCopy I p r i j k = -3 by (try simp only [decide_eq_true_eq, decide_eq_false_iff_not, bI] at *); unfold fCopy; (repeat' split) <;> first | rfl | omega | (exfalso; simp_all; done) | (exfalso; simp_all; omega)) (by decide)]))
          · refine z_iconst C dX5_copy_66 ?_
            refine z_goto C 71 dX5_copy_67 (by decide) ?_
            refine z_istore C [(8, .int (iI 1)), (7, .ref (19 + 2 * r.toNat)), (6, .ref (19 + 2 * p.toNat)), (0, .ref 0), (1, .int (iI p)), (2, .int (iI r)), (3, .int (iI i)), (4, .int (iI j)), (5, .int (iI k))] dX5_copy_71 (by decide) rfl ?_
            refine z_aload C 2 rfl dX5_copy_73 ?_
            refine y_callV0 C oX2_hasEwe iX2_hasEwe eX2_hasEwe lkX5_90 (c_X2_hasEwe (isL_of (by omega)) (by first | assumption | omega)) (lay_l (isL_of (by omega))) (by decide) rfl rfl (by decide) (Nat.le_refl _) (Nat.le_refl _) (Nat.le_of_ble_eq_true rfl) dX5_copy_75 ?_
            refine y_if_neB C 94 dX5_copy_78 (by decide) (fun h78 => ?_) (fun h78 => ?_)
            · refine z_aload_n C 3 rfl dX5_copy_94 rfl ?_
              refine z_bipush C dX5_copy_95 (by decide) ?_
              refine y_callV1 C oX5_refuse iX5_refuse eX5_refuse lkX5_59 (c_X5_refuse (by first | assumption | omega)) rfl (by decide) rfl rfl (by decide) (Nat.le_refl _) (Nat.le_refl _) (Nat.le_of_ble_eq_true rfl) dX5_copy_97 ?_
              exact zZ_iret C hR (Nat.le_refl _) (Nat.le_refl _) dX5_copy_100 rfl (zIs_I (uRc (show fCopy I p r i j k = -3 by (try simp only [decide_eq_true_eq, decide_eq_false_iff_not, bI] at *); unfold fCopy; (repeat' split) <;> first | rfl | omega | (exfalso; simp_all; done) | (exfalso; simp_all; omega)) (by decide)).symm (by rw [uIc (show fCopy I p r i j k = -3 by (try simp only [decide_eq_true_eq, decide_eq_false_iff_not, bI] at *); unfold fCopy; (repeat' split) <;> first | rfl | omega | (exfalso; simp_all; done) | (exfalso; simp_all; omega)) (by decide), uJc (show fCopy I p r i j k = -3 by (try simp only [decide_eq_true_eq, decide_eq_false_iff_not, bI] at *); unfold fCopy; (repeat' split) <;> first | rfl | omega | (exfalso; simp_all; done) | (exfalso; simp_all; omega)) (by decide)]))
            · refine z_aload C 1 rfl dX5_copy_81 ?_
              refine y_callV0 C oX2_hasEwe iX2_hasEwe eX2_hasEwe lkX5_90 (c_X2_hasEwe (isL_of (by omega)) (by first | assumption | omega)) (lay_l (isL_of (by omega))) (by decide) rfl rfl (by decide) (Nat.le_refl _) (Nat.le_refl _) (Nat.le_of_ble_eq_true rfl) dX5_copy_83 ?_
              refine y_if_neB C 94 dX5_copy_86 (by decide) (fun h86 => ?_) (fun h86 => ?_)
              · refine z_aload_n C 3 rfl dX5_copy_94 rfl ?_
                refine z_bipush C dX5_copy_95 (by decide) ?_
                refine y_callV1 C oX5_refuse iX5_refuse eX5_refuse lkX5_59 (c_X5_refuse (by first | assumption | omega)) rfl (by decide) rfl rfl (by decide) (Nat.le_refl _) (Nat.le_refl _) (Nat.le_of_ble_eq_true rfl) dX5_copy_97 ?_
                exact zZ_iret C hR (Nat.le_refl _) (Nat.le_refl _) dX5_copy_100 rfl (zIs_I (uRc (show fCopy I p r i j k = -3 by (try simp only [decide_eq_true_eq, decide_eq_false_iff_not, bI] at *); unfold fCopy; (repeat' split) <;> first | rfl | omega | (exfalso; simp_all; done) | (exfalso; simp_all; omega)) (by decide)).symm (by rw [uIc (show fCopy I p r i j k = -3 by (try simp only [decide_eq_true_eq, decide_eq_false_iff_not, bI] at *); unfold fCopy; (repeat' split) <;> first | rfl | omega | (exfalso; simp_all; done) | (exfalso; simp_all; omega)) (by decide), uJc (show fCopy I p r i j k = -3 by (try simp only [decide_eq_true_eq, decide_eq_false_iff_not, bI] at *); unfold fCopy; (repeat' split) <;> first | rfl | omega | (exfalso; simp_all; done) | (exfalso; simp_all; omega)) (by decide)]))
              · refine z_iload C 0 rfl dX5_copy_89 ?_
                refine z_if_eq C 101 dX5_copy_91 (by decide) (by omega) (fun h91 => ?_) (fun h91 => ?_)
                · refine z_aload C 2 rfl dX5_copy_101 ?_
                  refine y_callV0 C oX2_hasRow iX2_hasRow eX2_hasRow lkX5_86 (c_X2_hasRow (isL_of (by omega)) (by first | assumption | omega)) (lay_l (isL_of (by omega))) (by decide) rfl rfl (by decide) (Nat.le_refl _) (Nat.le_refl _) (Nat.le_of_ble_eq_true rfl) dX5_copy_103 ?_
                  refine y_if_eqB C 117 dX5_copy_106 (by decide) (fun h106 => ?_) (fun h106 => ?_)
                  · refine z_aload_n C 3 rfl dX5_copy_117 rfl ?_
                    refine z_bipush C dX5_copy_118 (by decide) ?_
                    refine y_callV1 C oX5_refuse iX5_refuse eX5_refuse lkX5_59 (c_X5_refuse (by first | assumption | omega)) rfl (by decide) rfl rfl (by decide) (Nat.le_refl _) (Nat.le_refl _) (Nat.le_of_ble_eq_true rfl) dX5_copy_120 ?_
                    exact zZ_iret C hR (Nat.le_refl _) (Nat.le_refl _) dX5_copy_123 rfl (zIs_I (uRc (show fCopy I p r i j k = -4 by (try simp only [decide_eq_true_eq, decide_eq_false_iff_not, bI] at *); unfold fCopy; (repeat' split) <;> first | rfl | omega | (exfalso; simp_all; done) | (exfalso; simp_all; omega)) (by decide)).symm (by rw [uIc (show fCopy I p r i j k = -4 by (try simp only [decide_eq_true_eq, decide_eq_false_iff_not, bI] at *); unfold fCopy; (repeat' split) <;> first | rfl | omega | (exfalso; simp_all; done) | (exfalso; simp_all; omega)) (by decide), uJc (show fCopy I p r i j k = -4 by (try simp only [decide_eq_true_eq, decide_eq_false_iff_not, bI] at *); unfold fCopy; (repeat' split) <;> first | rfl | omega | (exfalso; simp_all; done) | (exfalso; simp_all; omega)) (by decide)]))
                  · refine z_aload C 1 rfl dX5_copy_109 ?_
                    refine y_callV0 C oX2_hasRow iX2_hasRow eX2_hasRow lkX5_86 (c_X2_hasRow (isL_of (by omega)) (by first | assumption | omega)) (lay_l (isL_of (by omega))) (by decide) rfl rfl (by decide) (Nat.le_refl _) (Nat.le_refl _) (Nat.le_of_ble_eq_true rfl) dX5_copy_111 ?_
                    refine y_if_neB C 124 dX5_copy_114 (by decide) (fun h114 => ?_) (fun h114 => ?_)
                    · refine z_aload C 2 rfl dX5_copy_124 ?_
                      refine z_iload_n C 6 rfl dX5_copy_126 rfl ?_
                      refine z_iload C 8 rfl dX5_copy_127 ?_
                      refine y_callV2 C oX2_hasPart iX2_hasPart eX2_hasPart lkX5_93 (c_X2_hasPart (isL_of (by omega)) (by first | assumption | omega) (by first | assumption | omega) (by first | assumption | omega)) (lay_l (isL_of (by omega))) (by decide) rfl rfl (by decide) (Nat.le_refl _) (Nat.le_refl _) (Nat.le_of_ble_eq_true rfl) dX5_copy_129 ?_
                      refine y_if_eqB C 147 dX5_copy_132 (by decide) (fun h132 => ?_) (fun h132 => ?_)
                      · refine z_aload_n C 3 rfl dX5_copy_147 rfl ?_
                        refine z_bipush C dX5_copy_148 (by decide) ?_
                        refine y_callV1 C oX5_refuse iX5_refuse eX5_refuse lkX5_59 (c_X5_refuse (by first | assumption | omega)) rfl (by decide) rfl rfl (by decide) (Nat.le_refl _) (Nat.le_refl _) (Nat.le_of_ble_eq_true rfl) dX5_copy_150 ?_
                        exact zZ_iret C hR (Nat.le_refl _) (Nat.le_refl _) dX5_copy_153 rfl (zIs_I (uRc (show fCopy I p r i j k = -2 by (try simp only [decide_eq_true_eq, decide_eq_false_iff_not, bI] at *); unfold fCopy; (repeat' split) <;> first | rfl | omega | (exfalso; simp_all; done) | (exfalso; simp_all; omega)) (by decide)).symm (by rw [uIc (show fCopy I p r i j k = -2 by (try simp only [decide_eq_true_eq, decide_eq_false_iff_not, bI] at *); unfold fCopy; (repeat' split) <;> first | rfl | omega | (exfalso; simp_all; done) | (exfalso; simp_all; omega)) (by decide), uJc (show fCopy I p r i j k = -2 by (try simp only [decide_eq_true_eq, decide_eq_false_iff_not, bI] at *); unfold fCopy; (repeat' split) <;> first | rfl | omega | (exfalso; simp_all; done) | (exfalso; simp_all; omega)) (by decide)]))
                      · refine z_aload C 1 rfl dX5_copy_135 ?_
                        refine z_iload C 7 rfl dX5_copy_137 ?_
                        refine z_iload C 8 rfl dX5_copy_139 ?_
                        refine y_callV2 C oX2_hasPart iX2_hasPart eX2_hasPart lkX5_93 (c_X2_hasPart (isL_of (by omega)) (by first | assumption | omega) (by first | assumption | omega) (by first | assumption | omega)) (lay_l (isL_of (by omega))) (by decide) rfl rfl (by decide) (Nat.le_refl _) (Nat.le_refl _) (Nat.le_of_ble_eq_true rfl) dX5_copy_141 ?_
                        refine y_if_neB C 154 dX5_copy_144 (by decide) (fun h144 => ?_) (fun h144 => ?_)
                        · have hc1 := of_decide_eq_true h132
                          have hc2 := of_decide_eq_true h144
                          refine z_aload C 2 rfl dX5_copy_154 ?_
                          refine y_getR C zCl2 2 flX5_75 rfl (lay_l (isL_of (by omega))) (rt_l (isL_of (by omega))) dX5_copy_156 ?_
                          refine z_iload_n C 6 rfl dX5_copy_159 rfl ?_
                          refine z_aload C 1 rfl dX5_copy_160 ?_
                          refine y_getR C zCl2 2 flX5_75 rfl (lay_l (isL_of (by omega))) (rt_l (isL_of (by omega))) dX5_copy_162 ?_
                          refine z_iload C 7 rfl dX5_copy_165 ?_
                          refine z_iload C 8 rfl dX5_copy_167 ?_
                          refine y_cpJ C lkX5_97 i.toNat j.toNat k.toNat (by omega) (by omega) (by omega) (lay_l1 (isL_of (by omega))) (lay_l1 (isL_of (by omega))) (by omega) (by omega) (by decide) (by decide) (by decide) (Nat.le_of_ble_eq_true rfl) dX5_copy_169 ?_
                          refine z_iload C 8 rfl dX5_copy_172 ?_
                          exact zZ_iret C hR (Nat.le_refl _) (Nat.le_refl _) dX5_copy_174 rfl (zIs_I ((rfl).trans (uR0 (show fCopy I p r i j k = 0 by (try simp only [decide_eq_true_eq, decide_eq_false_iff_not, bI] at *); unfold fCopy; (repeat' split) <;> first | rfl | omega | (exfalso; simp_all; done) | (exfalso; simp_all; omega))).symm) (by rw [uI0 (show fCopy I p r i j k = 0 by (try simp only [decide_eq_true_eq, decide_eq_false_iff_not, bI] at *); unfold fCopy; (repeat' split) <;> first | rfl | omega | (exfalso; simp_all; done) | (exfalso; simp_all; omega)), uJ0 (show fCopy I p r i j k = 0 by (try simp only [decide_eq_true_eq, decide_eq_false_iff_not, bI] at *); unfold fCopy; (repeat' split) <;> first | rfl | omega | (exfalso; simp_all; done) | (exfalso; simp_all; omega))]))
                        · refine z_aload_n C 3 rfl dX5_copy_147 rfl ?_
                          refine z_bipush C dX5_copy_148 (by decide) ?_
                          refine y_callV1 C oX5_refuse iX5_refuse eX5_refuse lkX5_59 (c_X5_refuse (by first | assumption | omega)) rfl (by decide) rfl rfl (by decide) (Nat.le_refl _) (Nat.le_refl _) (Nat.le_of_ble_eq_true rfl) dX5_copy_150 ?_
                          exact zZ_iret C hR (Nat.le_refl _) (Nat.le_refl _) dX5_copy_153 rfl (zIs_I (uRc (show fCopy I p r i j k = -2 by (try simp only [decide_eq_true_eq, decide_eq_false_iff_not, bI] at *); unfold fCopy; (repeat' split) <;> first | rfl | omega | (exfalso; simp_all; done) | (exfalso; simp_all; omega)) (by decide)).symm (by rw [uIc (show fCopy I p r i j k = -2 by (try simp only [decide_eq_true_eq, decide_eq_false_iff_not, bI] at *); unfold fCopy; (repeat' split) <;> first | rfl | omega | (exfalso; simp_all; done) | (exfalso; simp_all; omega)) (by decide), uJc (show fCopy I p r i j k = -2 by (try simp only [decide_eq_true_eq, decide_eq_false_iff_not, bI] at *); unfold fCopy; (repeat' split) <;> first | rfl | omega | (exfalso; simp_all; done) | (exfalso; simp_all; omega)) (by decide)]))
                    · refine z_aload_n C 3 rfl dX5_copy_117 rfl ?_
                      refine z_bipush C dX5_copy_118 (by decide) ?_
                      refine y_callV1 C oX5_refuse iX5_refuse eX5_refuse lkX5_59 (c_X5_refuse (by first | assumption | omega)) rfl (by decide) rfl rfl (by decide) (Nat.le_refl _) (Nat.le_refl _) (Nat.le_of_ble_eq_true rfl) dX5_copy_120 ?_
                      exact zZ_iret C hR (Nat.le_refl _) (Nat.le_refl _) dX5_copy_123 rfl (zIs_I (uRc (show fCopy I p r i j k = -4 by (try simp only [decide_eq_true_eq, decide_eq_false_iff_not, bI] at *); unfold fCopy; (repeat' split) <;> first | rfl | omega | (exfalso; simp_all; done) | (exfalso; simp_all; omega)) (by decide)).symm (by rw [uIc (show fCopy I p r i j k = -4 by (try simp only [decide_eq_true_eq, decide_eq_false_iff_not, bI] at *); unfold fCopy; (repeat' split) <;> first | rfl | omega | (exfalso; simp_all; done) | (exfalso; simp_all; omega)) (by decide), uJc (show fCopy I p r i j k = -4 by (try simp only [decide_eq_true_eq, decide_eq_false_iff_not, bI] at *); unfold fCopy; (repeat' split) <;> first | rfl | omega | (exfalso; simp_all; done) | (exfalso; simp_all; omega)) (by decide)]))
                · refine z_aload_n C 3 rfl dX5_copy_94 rfl ?_
                  refine z_bipush C dX5_copy_95 (by decide) ?_
                  refine y_callV1 C oX5_refuse iX5_refuse eX5_refuse lkX5_59 (c_X5_refuse (by first | assumption | omega)) rfl (by decide) rfl rfl (by decide) (Nat.le_refl _) (Nat.le_refl _) (Nat.le_of_ble_eq_true rfl) dX5_copy_97 ?_
                  exact zZ_iret C hR (Nat.le_refl _) (Nat.le_refl _) dX5_copy_100 rfl (zIs_I (uRc (show fCopy I p r i j k = -3 by (try simp only [decide_eq_true_eq, decide_eq_false_iff_not, bI] at *); unfold fCopy; (repeat' split) <;> first | rfl | omega | (exfalso; simp_all; done) | (exfalso; simp_all; omega)) (by decide)).symm (by rw [uIc (show fCopy I p r i j k = -3 by (try simp only [decide_eq_true_eq, decide_eq_false_iff_not, bI] at *); unfold fCopy; (repeat' split) <;> first | rfl | omega | (exfalso; simp_all; done) | (exfalso; simp_all; omega)) (by decide), uJc (show fCopy I p r i j k = -3 by (try simp only [decide_eq_true_eq, decide_eq_false_iff_not, bI] at *); unfold fCopy; (repeat' split) <;> first | rfl | omega | (exfalso; simp_all; done) | (exfalso; simp_all; omega)) (by decide)]))
    · refine z_aload_n C 0 rfl dX5_copy_14 rfl ?_
      refine z_bipush C dX5_copy_15 (by decide) ?_
      refine y_callV1 C oX5_refuse iX5_refuse eX5_refuse lkX5_59 (c_X5_refuse (by first | assumption | omega)) rfl (by decide) rfl rfl (by decide) (Nat.le_refl _) (Nat.le_refl _) (Nat.le_of_ble_eq_true rfl) dX5_copy_17 ?_
      exact zZ_iret C hR (Nat.le_refl _) (Nat.le_refl _) dX5_copy_20 rfl (zIs_I (uRc (show fCopy I p r i j k = -2 by (try simp only [decide_eq_true_eq, decide_eq_false_iff_not, bI] at *); unfold fCopy; (repeat' split) <;> first | rfl | omega | (exfalso; simp_all; done) | (exfalso; simp_all; omega)) (by decide)).symm (by rw [uIc (show fCopy I p r i j k = -2 by (try simp only [decide_eq_true_eq, decide_eq_false_iff_not, bI] at *); unfold fCopy; (repeat' split) <;> first | rfl | omega | (exfalso; simp_all; done) | (exfalso; simp_all; omega)) (by decide), uJc (show fCopy I p r i j k = -2 by (try simp only [decide_eq_true_eq, decide_eq_false_iff_not, bI] at *); unfold fCopy; (repeat' split) <;> first | rfl | omega | (exfalso; simp_all; done) | (exfalso; simp_all; omega)) (by decide)]))
