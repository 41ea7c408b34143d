set_option maxHeartbeats 4000000 in
set_option maxRecDepth 100000 in
theorem c_X6_path {g : zG} {I : Nat → Nat → Int} {J : Nat → Nat → Int64} {q : Nat × Nat} {c : Int} (hgr : gR I) (hrs : gRS (spR I)) (hrl : gRL I) (hc : -2147483648 ≤ c ∧ c ≤ 2147483647) : zRun g mX6_path 5 [.ref 58, .int (iI c)] (zst I J q) (some (.int (iI (uR (fHasW (VI I) c) (farR I c.toNat - 1))))) (zst (uK I (fHasW (VI I) c) (zFr I (farR I))) J q) := by
  obtain ⟨b1, b2, b3, b4, b5, b6, b7⟩ := id hgr
  obtain ⟨k1, k2, k3⟩ := id hrs
  have k1 : gC7 (I 58 3) := k1
  have k2 : 0 ≤ I 58 4 ∧ I 58 4 ≤ 4 := k2
  have k3 : ∀ e, e < 5 → gC7 (I 62 e) := k3
  have k1' := k1.1
  have b2' := b2.1
  have v10 : VI I 1 0 = I 58 0 := congrArg (fun x => x) rfl
  have v11 : VI I 1 1 = I 58 2 := congrArg (fun x => x) rfl
  have v12 : VI I 1 2 = I 58 9 := congrArg (fun x => x) rfl
  have v16 : VI I 1 6 = I 58 5 := congrArg (fun x => x) rfl
  have v40 : VI I 4 0 = I 58 3 := congrArg (fun x => x) rfl
  have v41 : VI I 4 1 = I 58 4 := congrArg (fun x => x) rfl
  have v111 : VI I 11 1 = I 58 12 := congrArg (fun x => x) rfl
  have v13 : VI I 1 3 = I 58 10 := congrArg (fun x => x) rfl
  have v14 : VI I 1 4 = I 58 11 := congrArg (fun x => x) rfl
  refine zRuns_intro rfl (Nat.le_of_ble_eq_true rfl) (fun X C hR => ?_)
  show zZ g X 0 0 _ 0 [(0, .ref 58), (1, .int (iI c))] []
  refine z_aload_n C 0 rfl dX6_path_0 rfl ?_
  refine z_iload_n C 1 rfl dX6_path_1 rfl ?_
  refine z_i2l C (iI c).toInt64 dX6_path_2 rfl ?_
  refine y_callV1 C oX6_isCell iX6_isCell eX6_isCell lkX6_128 (c_X6_isCell hgr) rfl (by decide) rfl rfl (by decide) (Nat.le_refl _) (Nat.le_refl _) (Nat.le_of_ble_eq_true rfl) dX6_path_3 ?_
  refine z_top C (bI (isCellN (I 58 0) c)) (by rw [i2l_toInt hc]) ?_
  refine y_if_neB C 16 dX6_path_6 (by decide) (fun h6 => ?_) (fun h6 => ?_)
  · have hcr := isCellN_r b1.2 h6
    have hfg := farR_g hgr k1 c.toNat (by omega)
    obtain ⟨FR, hFR⟩ : ∃ FR, FR = farR I := ⟨_, rfl⟩
    rw [← hFR] at hR
    rw [← hFR] at hfg
    refine z_aload_n C 0 rfl dX6_path_16 rfl ?_
    refine y_callV0 C oX6_walks iX6_walks eX6_walks lkX6_281 (c_X6_walks hgr hrs) rfl (by decide) rfl rfl (by decide) (Nat.le_refl _) (Nat.le_refl _) (Nat.le_of_ble_eq_true rfl) dX6_path_17 ?_
    refine zZ_cast (σ' := zst (zFr I FR) J q)  (by refine congrArg (fun I' => zst I' J q) ?_; rw [hFR]) rfl rfl ?_
    refine z_aload_n C 0 rfl dX6_path_20 rfl ?_
    refine y_getR C zCl6 29 flX6_54 rfl rfl rfl dX6_path_21 ?_
    refine z_iload_n C 1 rfl dX6_path_24 rfl ?_
    refine y_iald C c.toNat (by omega) rfl (by omega) (by decide) dX6_path_25 ?_
    refine z_top C (FR c.toNat) (zFr_s) ?_
    refine z_iconst C dX6_path_26 ?_
    refine z_isub C dX6_path_27 ?_
    exact zZ_iret C hR (Nat.le_refl _) (Nat.le_refl _) dX6_path_28 rfl (zIs_I ((rfl).trans (uR0 (show fHasW (VI I) c = 0 by (try simp only [decide_eq_true_eq, decide_eq_false_iff_not, bI] at *); (unfold fHasW; (try simp only [v10, v11, v12, v16, v40, v41, v111]); (try simp only [v10]); (repeat' split) <;> first | rfl | omega | (exfalso; simp_all; done) | (exfalso; simp_all; omega)))).symm) (by rw [uK0 (show fHasW (VI I) c = 0 by (try simp only [decide_eq_true_eq, decide_eq_false_iff_not, bI] at *); (unfold fHasW; (try simp only [v10, v11, v12, v16, v40, v41, v111]); (try simp only [v10]); (repeat' split) <;> first | rfl | omega | (exfalso; simp_all; done) | (exfalso; simp_all; omega)))]))
  · refine z_aload_n C 0 rfl dX6_path_9 rfl ?_
    refine z_bipush C dX6_path_10 (by decide) ?_
    refine y_callV1 C oX6_no iX6_no eX6_no lkX6_83 (c_X6_no (by first | assumption | omega)) rfl (by decide) rfl rfl (by decide) (Nat.le_refl _) (Nat.le_refl _) (Nat.le_of_ble_eq_true rfl) dX6_path_12 ?_
    exact zZ_iret C hR (Nat.le_refl _) (Nat.le_refl _) dX6_path_15 rfl (zIs_I (uRc (show fHasW (VI I) c = -2 by (try simp only [decide_eq_true_eq, decide_eq_false_iff_not, bI] at *); (unfold fHasW; (try simp only [v10, v11, v12, v16, v40, v41, v111]); (try simp only [v10]); (repeat' split) <;> first | rfl | omega | (exfalso; simp_all; done) | (exfalso; simp_all; omega))) (by decide)).symm (by rw [uKc (show fHasW (VI I) c = -2 by (try simp only [decide_eq_true_eq, decide_eq_false_iff_not, bI] at *); (unfold fHasW; (try simp only [v10, v11, v12, v16, v40, v41, v111]); (try simp only [v10]); (repeat' split) <;> first | rfl | omega | (exfalso; simp_all; done) | (exfalso; simp_all; omega))) (by decide)]))
set_option maxHeartbeats 4000000 in
set_option maxRecDepth 100000 in
theorem c_X6_reach {g : zG} {I : Nat → Nat → Int} {J : Nat → Nat → Int64} {q : Nat × Nat} {n : Int} (hgr : gR I) (hrs : gRS (spR I)) (hrl : gRL I) (hn : -2147483648 ≤ n ∧ n ≤ 2147483647) : zRun g mX6_reach 5 [.ref 58, .int (iI n)] (zst I J q) (some (.int (iI (uR (fReach n) (cnt (fun c => decide (0 < farR I c) && decide (farR I c - 1 ≤ n)) 67))))) (zst (uK I (fReach n) (zFr I (farR I))) J q) := by
  obtain ⟨b1, b2, b3, b4, b5, b6, b7⟩ := id hgr
  obtain ⟨k1, k2, k3⟩ := id hrs
  have k1 : gC7 (I 58 3) := k1
  have k2 : 0 ≤ I 58 4 ∧ I 58 4 ≤ 4 := k2
  have k3 : ∀ e, e < 5 → gC7 (I 62 e) := k3
  have k1' := k1.1
  have b2' := b2.1
  have v10 : VI I 1 0 = I 58 0 := congrArg (fun x => x) rfl
  have v11 : VI I 1 1 = I 58 2 := congrArg (fun x => x) rfl
  have v12 : VI I 1 2 = I 58 9 := congrArg (fun x => x) rfl
  have v16 : VI I 1 6 = I 58 5 := congrArg (fun x => x) rfl
  have v40 : VI I 4 0 = I 58 3 := congrArg (fun x => x) rfl
  have v41 : VI I 4 1 = I 58 4 := congrArg (fun x => x) rfl
  have v111 : VI I 11 1 = I 58 12 := congrArg (fun x => x) rfl
  have v13 : VI I 1 3 = I 58 10 := congrArg (fun x => x) rfl
  have v14 : VI I 1 4 = I 58 11 := congrArg (fun x => x) rfl
  refine zRuns_intro rfl (Nat.le_of_ble_eq_true rfl) (fun X C hR => ?_)
  show zZ g X 0 0 _ 0 [(0, .ref 58), (1, .int (iI n))] []
  refine z_iload_n C 1 rfl dX6_reach_0 rfl ?_
  refine z_iconst C dX6_reach_1 ?_
  refine z_bipush C dX6_reach_2 (by decide) ?_
  refine y_callS3 C oX6_within sX6_within lkX6_75 (c_X6_within (by first | assumption | omega) (by first | assumption | omega) (by first | assumption | omega)) (by decide) (Nat.le_refl _) (Nat.le_refl _) (Nat.le_of_ble_eq_true rfl) dX6_reach_4 ?_
  refine y_if_neB C 17 dX6_reach_7 (by decide) (fun h7 => ?_) (fun h7 => ?_)
  · have hfg := farR_g hgr k1
    obtain ⟨FR, hFR⟩ : ∃ FR, FR = farR I := ⟨_, rfl⟩
    rw [← hFR] at hR
    rw [← hFR] at hfg
    obtain ⟨P, hP⟩ : ∃ P : Nat → Bool, P = (fun c => decide (0 < FR c) && decide (FR c - 1 ≤ n)) := ⟨_, rfl⟩
    rw [← hP] at hR
    refine z_aload_n C 0 rfl dX6_reach_17 rfl ?_
    refine y_callV0 C oX6_walks iX6_walks eX6_walks lkX6_281 (c_X6_walks hgr hrs) rfl (by decide) rfl rfl (by decide) (Nat.le_refl _) (Nat.le_refl _) (Nat.le_of_ble_eq_true rfl) dX6_reach_18 ?_
    refine zZ_cast (σ' := zst (zFr I FR) J q)  (by refine congrArg (fun I' => zst I' J q) ?_; rw [hFR]) rfl rfl ?_
    refine z_iconst C dX6_reach_21 ?_
    refine z_istore_n C [(2, .int (iI 0)), (0, .ref 58), (1, .int (iI n))] dX6_reach_22 rfl (by decide) rfl ?_
    refine z_iconst C dX6_reach_23 ?_
    refine z_istore_n C [(3, .int (iI 0)), (2, .int (iI 0)), (0, .ref 58), (1, .int (iI n))] dX6_reach_24 rfl (by decide) rfl ?_
    refine zZ_sub [2, 3, 1, 0] rfl ?_
    refine zZ_cast (σ' := (fun _ : Nat => zst (zFr I FR) J q) 0) (L' := (fun e : Nat => [(0, .ref 58), (1, .int (iI n)), (2, .int (iI (cnt P e))), (3, .int (iI (e : Int)))]) 0) rfl rfl rfl ?_
    refine zfor (67) (fun _ => True) (fun _ : Nat => zst (zFr I FR) J q) (fun e : Nat => [(0, .ref 58), (1, .int (iI n)), (2, .int (iI (cnt P e))), (3, .int (iI (e : Int)))]) trivial ?_ ?_
    · intro e hee hpe kke
      have hfe := hfg e hee
      have hcr := cnt_r P e
      obtain ⟨ct, hct⟩ : ∃ ct, ct = cnt P e := ⟨_, rfl⟩
      rw [← hct] at hcr ⊢
      refine z_iload_n C 3 rfl dX6_reach_25 rfl ?_
      refine z_bipush C dX6_reach_26 (by decide) ?_
      refine z_icmp_ge C 61 dX6_reach_28 (by decide) (by omega) (by omega) (fun h28 => ?_) (fun h28 => ?_)
      · omega
      · refine z_aload_n C 0 rfl dX6_reach_31 rfl ?_
        refine y_getR C zCl6 29 flX6_54 rfl rfl rfl dX6_reach_32 ?_
        refine z_iload_n C 3 rfl dX6_reach_35 rfl ?_
        refine y_iald C e (by omega) rfl (by omega) (by decide) dX6_reach_36 ?_
        refine z_top C (FR e) (zFr_s) ?_
        refine z_if_le C 55 dX6_reach_37 (by decide) (by omega) (fun h37 => ?_) (fun h37 => ?_)
        · obtain ⟨v1, ev1⟩ : ∃ y : Int, y = (e : Int) + 1 := ⟨_, rfl⟩
          refine z_iinc C 3 v1 [(3, .int (iI v1)), (0, .ref 58), (1, .int (iI n)), (2, .int (iI ct))] dX6_reach_55 rfl ev1.symm (by decide) rfl ?_
          refine z_goto C 25 dX6_reach_58 (by decide) ?_
          refine zZ_sub [1, 2, 3, 0] rfl ?_
          refine zZ_cast rfl (zLk (zLk (zLc (by simp only [cnt]; rw [show P e = false from by rw [hP]; simp only; rw [decide_eq_false (by omega)]; rfl, ← hct]; simp only [bI]; (first | omega | (simp; omega) | simp)) (zLc (by omega) rfl)))) rfl (kke trivial)
        · refine z_aload_n C 0 rfl dX6_reach_40 rfl ?_
          refine y_getR C zCl6 29 flX6_54 rfl rfl rfl dX6_reach_41 ?_
          refine z_iload_n C 3 rfl dX6_reach_44 rfl ?_
          refine y_iald C e (by omega) rfl (by omega) (by decide) dX6_reach_45 ?_
          refine z_top C (FR e) (zFr_s) ?_
          refine z_iconst C dX6_reach_46 ?_
          refine z_isub C dX6_reach_47 ?_
          refine z_iload_n C 1 rfl dX6_reach_48 rfl ?_
          refine z_icmp_gt C 55 dX6_reach_49 (by decide) (by omega) (by omega) (fun h49 => ?_) (fun h49 => ?_)
          · obtain ⟨v2, ev2⟩ : ∃ y : Int, y = (e : Int) + 1 := ⟨_, rfl⟩
            refine z_iinc C 3 v2 [(3, .int (iI v2)), (0, .ref 58), (1, .int (iI n)), (2, .int (iI ct))] dX6_reach_55 rfl ev2.symm (by decide) rfl ?_
            refine z_goto C 25 dX6_reach_58 (by decide) ?_
            refine zZ_sub [1, 2, 3, 0] rfl ?_
            refine zZ_cast rfl (zLk (zLk (zLc (by simp only [cnt]; rw [show P e = false from by rw [hP]; simp only; rw [decide_eq_true (by omega), decide_eq_false (by omega)]; rfl, ← hct]; simp only [bI]; (first | omega | (simp; omega) | simp)) (zLc (by omega) rfl)))) rfl (kke trivial)
          · obtain ⟨v3, ev3⟩ : ∃ y : Int, y = ct + 1 := ⟨_, rfl⟩
            refine z_iinc C 2 v3 [(2, .int (iI v3)), (0, .ref 58), (1, .int (iI n)), (3, .int (iI ((e : Int))))] dX6_reach_52 rfl ev3.symm (by decide) rfl ?_
            obtain ⟨v4, ev4⟩ : ∃ y : Int, y = (e : Int) + 1 := ⟨_, rfl⟩
            refine z_iinc C 3 v4 [(3, .int (iI v4)), (2, .int (iI v3)), (0, .ref 58), (1, .int (iI n))] dX6_reach_55 rfl ev4.symm (by decide) rfl ?_
            refine z_goto C 25 dX6_reach_58 (by decide) ?_
            refine zZ_sub [2, 3, 1, 0] rfl ?_
            refine zZ_cast rfl (zLk (zLk (zLc (by simp only [cnt]; rw [show P e = true from by rw [hP]; simp only; rw [decide_eq_true (by omega), decide_eq_true (by omega)]; rfl, ← hct]; simp only [bI]; (first | omega | (simp; omega) | simp)) (zLc (by omega) rfl)))) rfl (kke trivial)
    · intro hpe
      refine z_iload_n C 3 rfl dX6_reach_25 rfl ?_
      refine z_bipush C dX6_reach_26 (by decide) ?_
      refine z_icmp_ge C 61 dX6_reach_28 (by decide) (by omega) (by omega) (fun h28 => ?_) (fun h28 => ?_)
      · refine z_iload_n C 2 rfl dX6_reach_61 rfl ?_
        exact zZ_iret C hR (Nat.le_refl _) (Nat.le_refl _) dX6_reach_62 rfl (zIs_I ((rfl).trans (uR0 (show fReach n = 0 by (try simp only [decide_eq_true_eq, decide_eq_false_iff_not, bI] at *); (unfold fReach; (try simp only [v10, v11, v12, v16, v40, v41, v111]); (try simp only [v10]); (repeat' split) <;> first | rfl | omega | (exfalso; simp_all; done) | (exfalso; simp_all; omega)))).symm) (by rw [uK0 (show fReach n = 0 by (try simp only [decide_eq_true_eq, decide_eq_false_iff_not, bI] at *); (unfold fReach; (try simp only [v10, v11, v12, v16, v40, v41, v111]); (try simp only [v10]); (repeat' split) <;> first | rfl | omega | (exfalso; simp_all; done) | (exfalso; simp_all; omega)))]))
      · omega
  · refine z_aload_n C 0 rfl dX6_reach_10 rfl ?_
    refine z_bipush C dX6_reach_11 (by decide) ?_
    refine y_callV1 C oX6_no iX6_no eX6_no lkX6_83 (c_X6_no (by first | assumption | omega)) rfl (by decide) rfl rfl (by decide) (Nat.le_refl _) (Nat.le_refl _) (Nat.le_of_ble_eq_true rfl) dX6_reach_13 ?_
    exact zZ_iret C hR (Nat.le_refl _) (Nat.le_refl _) dX6_reach_16 rfl (zIs_I (uRc (show fReach n = -2 by (try simp only [decide_eq_true_eq, decide_eq_false_iff_not, bI] at *); (unfold fReach; (try simp only [v10, v11, v12, v16, v40, v41, v111]); (try simp only [v10]); (repeat' split) <;> first | rfl | omega | (exfalso; simp_all; done) | (exfalso; simp_all; omega))) (by decide)).symm (by rw [uKc (show fReach n = -2 by (try simp only [decide_eq_true_eq, decide_eq_false_iff_not, bI] at *); (unfold fReach; (try simp only [v10, v11, v12, v16, v40, v41, v111]); (try simp only [v10]); (repeat' split) <;> first | rfl | omega | (exfalso; simp_all; done) | (exfalso; simp_all; omega))) (by decide)]))
