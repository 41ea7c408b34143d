set_option maxHeartbeats 4000000 in
set_option maxRecDepth 100000 in
theorem c_X6_near {g : zG} {I : Nat → Nat → Int} {J : Nat → Nat → Int64} {q : Nat × Nat} {w k : Int} (hgr : gR I) (hrs : gRS (spR I)) (hrl : gRL I) (hw : -2147483648 ≤ w ∧ w ≤ 2147483647) (hk : -2147483648 ≤ k ∧ k ≤ 2147483647) : zRun g mX6_near 2 [.ref 58, .int (iI w), .int (iI k)] (zst I J q) (some (.int (iI (uR (fNear (VI I) w k) ((nearN (VI I) w k : Nat)))))) (zst (uK I (fNear (VI I) w k) (I)) J q) := by
  obtain ⟨b1, b2, b3, b4, b5, b6, b7⟩ := id hgr
  obtain ⟨k1, k2, k3⟩ := id hrs
  have k1 : gC7 (I 58 3) := k1
  have k2 : 0 ≤ I 58 4 ∧ I 58 4 ≤ 4 := k2
  have k3 : ∀ e, e < 5 → gC7 (I 62 e) := k3
  have k1' := k1.1
  have b2' := b2.1
  have v10 : VI I 1 0 = I 58 0 := congrArg (fun x => x) rfl
  have v11 : VI I 1 1 = I 58 2 := congrArg (fun x => x) rfl
  have v12 : VI I 1 2 = I 58 9 := congrArg (fun x => x) rfl
  have v16 : VI I 1 6 = I 58 5 := congrArg (fun x => x) rfl
  have v40 : VI I 4 0 = I 58 3 := congrArg (fun x => x) rfl
  have v41 : VI I 4 1 = I 58 4 := congrArg (fun x => x) rfl
  have v111 : VI I 11 1 = I 58 12 := congrArg (fun x => x) rfl
  have v13 : VI I 1 3 = I 58 10 := congrArg (fun x => x) rfl
  have v14 : VI I 1 4 = I 58 11 := congrArg (fun x => x) rfl
  obtain ⟨n, hn⟩ : ∃ n : Nat, I 58 5 = n := ⟨(I 58 5).toNat, by omega⟩
  have hn2 : (I 58 5).toNat = n := by omega
  obtain ⟨P, hP⟩ : ∃ P : Nat → Bool, P = fun (e : Nat) => decide (¬ (e : Int) = w) && decide (stp (I 62 e) (I 62 w.toNat) ≤ k) := ⟨_, rfl⟩
  have hG : nearN (VI I) w k = bitsN P n := by rw [hP, ← hn2]; rfl
  refine zRuns_intro rfl (Nat.le_of_ble_eq_true rfl) (fun X C hR => ?_)
  show zZ g X 0 0 _ 0 [(0, .ref 58), (1, .int (iI w)), (2, .int (iI k))] []
  refine z_aload_n C 0 rfl dX6_near_0 rfl ?_
  refine z_iload_n C 1 rfl dX6_near_1 rfl ?_
  refine y_callV1 C oX6_isEwe iX6_isEwe eX6_isEwe lkX6_97 (c_X6_isEwe hgr (by first | assumption | omega)) rfl (by decide) rfl rfl (by decide) (Nat.le_refl _) (Nat.le_refl _) (Nat.le_of_ble_eq_true rfl) dX6_near_2 ?_
  refine y_if_eqB C 18 dX6_near_5 (by decide) (fun h5 => ?_) (fun h5 => ?_)
  · refine z_aload_n C 0 rfl dX6_near_18 rfl ?_
    refine z_bipush C dX6_near_19 (by decide) ?_
    refine y_callV1 C oX6_no iX6_no eX6_no lkX6_83 (c_X6_no (by first | assumption | omega)) rfl (by decide) rfl rfl (by decide) (Nat.le_refl _) (Nat.le_refl _) (Nat.le_of_ble_eq_true rfl) dX6_near_21 ?_
    exact zZ_iret C hR (Nat.le_refl _) (Nat.le_refl _) dX6_near_24 rfl (zIs_I (uRc (show fNear (VI I) w k = -2 by (try simp only [decide_eq_true_eq, decide_eq_false_iff_not, bI] at *); (unfold fNear; simp only [v16]; (repeat' split) <;> first | rfl | omega | (exfalso; simp_all; done) | (exfalso; simp_all; omega))) (by decide)).symm (by rw [uKc (show fNear (VI I) w k = -2 by (try simp only [decide_eq_true_eq, decide_eq_false_iff_not, bI] at *); (unfold fNear; simp only [v16]; (repeat' split) <;> first | rfl | omega | (exfalso; simp_all; done) | (exfalso; simp_all; omega))) (by decide)]))
  · refine z_iload_n C 2 rfl dX6_near_8 rfl ?_
    refine z_iconst C dX6_near_9 ?_
    refine z_bipush C dX6_near_10 (by decide) ?_
    refine y_callS3 C oX6_within sX6_within lkX6_75 (c_X6_within (by first | assumption | omega) (by first | assumption | omega) (by first | assumption | omega)) (by decide) (Nat.le_refl _) (Nat.le_refl _) (Nat.le_of_ble_eq_true rfl) dX6_near_12 ?_
    refine y_if_neB C 25 dX6_near_15 (by decide) (fun h15 => ?_) (fun h15 => ?_)
    · have hwr : 0 ≤ w ∧ w < I 58 5 := by simpa using h5
      have hkr : 0 ≤ k ∧ k ≤ 12 := by simpa using h15
      have qw := (k3 w.toNat (by omega)).1
      refine z_iconst C dX6_near_25 ?_
      refine z_istore_n C [(3, .int (iI 0)), (0, .ref 58), (1, .int (iI w)), (2, .int (iI k))] dX6_near_26 rfl (by decide) rfl ?_
      refine z_iconst C dX6_near_27 ?_
      refine z_istore C [(4, .int (iI 0)), (3, .int (iI 0)), (0, .ref 58), (1, .int (iI w)), (2, .int (iI k))] dX6_near_28 (by decide) rfl ?_
      refine zZ_sub [2, 3, 4, 1, 0] rfl ?_
      refine zZ_cast (σ' := (fun _ : Nat => zst I J q) 0) (L' := (fun e : Nat => [(0, .ref 58), (1, .int (iI w)), (2, .int (iI k)), (3, .int (iI (bitsN P e : Nat))), (4, .int (iI (e : Int)))]) 0) rfl rfl rfl ?_
      refine zfor (n) (fun _ => True) (fun _ : Nat => zst I J q) (fun e : Nat => [(0, .ref 58), (1, .int (iI w)), (2, .int (iI k)), (3, .int (iI (bitsN P e : Nat))), (4, .int (iI (e : Int)))]) trivial ?_ ?_
      · intro e hee hpe kke
        have q3 := (k3 e (by omega)).1
        have qs := stp_r (c := I 62 e) (d := I 62 w.toNat) (by omega) (by omega)
        refine z_iload C 4 rfl dX6_near_30 ?_
        refine z_aload_n C 0 rfl dX6_near_32 rfl ?_
        refine y_getI C zCl6 5 flX6_72 rfl rfl dX6_near_33 ?_
        refine z_icmp_ge C 78 dX6_near_36 (by decide) (by omega) (by omega) (fun h36 => ?_) (fun h36 => ?_)
        · omega
        · refine z_iload C 4 rfl dX6_near_39 ?_
          refine z_iload_n C 1 rfl dX6_near_41 rfl ?_
          refine z_icmp_eq C 72 dX6_near_42 (by decide) (by omega) (by omega) (fun h42 => ?_) (fun h42 => ?_)
          · obtain ⟨v1, ev1⟩ : ∃ y : Int, y = (e : Int) + 1 := ⟨_, rfl⟩
            refine z_iinc C 4 v1 [(4, .int (iI v1)), (0, .ref 58), (1, .int (iI w)), (2, .int (iI k)), (3, .int (iI ((bitsN P e : Nat))))] dX6_near_72 rfl ev1.symm (by decide) rfl ?_
            refine z_goto C 30 dX6_near_75 (by decide) ?_
            refine zZ_sub [1, 2, 3, 4, 0] rfl ?_
            refine zZ_cast rfl (zLk (zLk (zLk (zLc (by rw [bitsN_no (by rw [hP]; simp; intro z; exact absurd (by omega) z)]) (zLc (by omega) rfl))))) rfl (kke trivial)
          · refine z_aload_n C 0 rfl dX6_near_45 rfl ?_
            refine y_getR C zCl6 8 flX6_20 rfl rfl rfl dX6_near_46 ?_
            refine z_iload C 4 rfl dX6_near_49 ?_
            refine y_iald C e (by omega) rfl (by omega) (by decide) dX6_near_51 ?_
            refine z_aload_n C 0 rfl dX6_near_52 rfl ?_
            refine y_getR C zCl6 8 flX6_20 rfl rfl rfl dX6_near_53 ?_
            refine z_iload_n C 1 rfl dX6_near_56 rfl ?_
            refine y_iald C w.toNat (by omega) rfl (by omega) (by decide) dX6_near_57 ?_
            refine y_callS2 C oX6_steps sX6_steps lkX6_215 (c_X6_steps (by first | assumption | omega) (by first | assumption | omega)) (by decide) (Nat.le_refl _) (Nat.le_refl _) (Nat.le_of_ble_eq_true rfl) dX6_near_58 ?_
            refine z_iload_n C 2 rfl dX6_near_61 rfl ?_
            refine z_icmp_gt C 72 dX6_near_62 (by decide) (by omega) (by omega) (fun h62 => ?_) (fun h62 => ?_)
            · obtain ⟨v2, ev2⟩ : ∃ y : Int, y = (e : Int) + 1 := ⟨_, rfl⟩
              refine z_iinc C 4 v2 [(4, .int (iI v2)), (0, .ref 58), (1, .int (iI w)), (2, .int (iI k)), (3, .int (iI ((bitsN P e : Nat))))] dX6_near_72 rfl ev2.symm (by decide) rfl ?_
              refine z_goto C 30 dX6_near_75 (by decide) ?_
              refine zZ_sub [1, 2, 3, 4, 0] rfl ?_
              refine zZ_cast rfl (zLk (zLk (zLk (zLc (by rw [bitsN_no (by rw [hP]; simp; intro; omega)]) (zLc (by omega) rfl))))) rfl (kke trivial)
            · refine z_iload_n C 3 rfl dX6_near_65 rfl ?_
              refine z_iconst C dX6_near_66 ?_
              refine z_iload C 4 rfl dX6_near_67 ?_
              refine z_ishl C ((2 ^ e : Nat) : Int) dX6_near_69 (iI_sh1 (by omega)) ?_
              refine z_ior C (bitsN P (e + 1) : Nat) dX6_near_70 (bitsN_step (by omega) (by rw [hP]; simp; omega)) ?_
              refine z_istore_n C [(3, .int (iI ((bitsN P (e + 1) : Nat)))), (0, .ref 58), (1, .int (iI w)), (2, .int (iI k)), (4, .int (iI ((e : Int))))] dX6_near_71 rfl (by decide) rfl ?_
              obtain ⟨v3, ev3⟩ : ∃ y : Int, y = (e : Int) + 1 := ⟨_, rfl⟩
              refine z_iinc C 4 v3 [(4, .int (iI v3)), (3, .int (iI ((bitsN P (e + 1) : Nat)))), (0, .ref 58), (1, .int (iI w)), (2, .int (iI k))] dX6_near_72 rfl ev3.symm (by decide) rfl ?_
              refine z_goto C 30 dX6_near_75 (by decide) ?_
              refine zZ_sub [2, 3, 4, 1, 0] rfl ?_
              refine zZ_cast rfl (zLk (zLk (zLk (zLc rfl (zLc (by omega) rfl))))) rfl (kke trivial)
      · intro hpe
        refine z_iload C 4 rfl dX6_near_30 ?_
        refine z_aload_n C 0 rfl dX6_near_32 rfl ?_
        refine y_getI C zCl6 5 flX6_72 rfl rfl dX6_near_33 ?_
        refine z_icmp_ge C 78 dX6_near_36 (by decide) (by omega) (by omega) (fun h36 => ?_) (fun h36 => ?_)
        · refine z_iload_n C 3 rfl dX6_near_78 rfl ?_
          exact zZ_iret C hR (Nat.le_refl _) (Nat.le_refl _) dX6_near_79 rfl (zIs_I (by rw [uR0 (show fNear (VI I) w k = 0 by (unfold fNear; rw [v16, if_pos ⟨hwr, hkr⟩]))]; rw [hG]) (by rw [uK0 (show fNear (VI I) w k = 0 by (unfold fNear; rw [v16, if_pos ⟨hwr, hkr⟩]))]))
        · omega
    · refine z_aload_n C 0 rfl dX6_near_18 rfl ?_
      refine z_bipush C dX6_near_19 (by decide) ?_
      refine y_callV1 C oX6_no iX6_no eX6_no lkX6_83 (c_X6_no (by first | assumption | omega)) rfl (by decide) rfl rfl (by decide) (Nat.le_refl _) (Nat.le_refl _) (Nat.le_of_ble_eq_true rfl) dX6_near_21 ?_
      exact zZ_iret C hR (Nat.le_refl _) (Nat.le_refl _) dX6_near_24 rfl (zIs_I (uRc (show fNear (VI I) w k = -2 by (try simp only [decide_eq_true_eq, decide_eq_false_iff_not, bI] at *); (unfold fNear; simp only [v16]; (repeat' split) <;> first | rfl | omega | (exfalso; simp_all; done) | (exfalso; simp_all; omega))) (by decide)).symm (by rw [uKc (show fNear (VI I) w k = -2 by (try simp only [decide_eq_true_eq, decide_eq_false_iff_not, bI] at *); (unfold fNear; simp only [v16]; (repeat' split) <;> first | rfl | omega | (exfalso; simp_all; done) | (exfalso; simp_all; omega))) (by decide)]))
set_option maxHeartbeats 4000000 in
set_option maxRecDepth 100000 in
theorem c_X6_apart {g : zG} {I : Nat → Nat → Int} {J : Nat → Nat → Int64} {q : Nat × Nat}  (hgr : gR I) (hrs : gRS (spR I)) : zRun g mX6_apart 2 [.ref 58] (zst I J q) (some (.int (iI (apO (I 62) (I 58 2) (I 58 5).toNat)))) (zst I J q) := by
  obtain ⟨b1, b2, b3, b4, b5, b6, b7⟩ := id hgr
  obtain ⟨k1, k2, k3⟩ := id hrs
  have k1 : gC7 (I 58 3) := k1
  have k2 : 0 ≤ I 58 4 ∧ I 58 4 ≤ 4 := k2
  have k3 : ∀ e, e < 5 → gC7 (I 62 e) := k3
  have k1' := k1.1
  have b2' := b2.1
  obtain ⟨n, hn⟩ : ∃ n : Nat, I 58 5 = n := ⟨(I 58 5).toNat, by omega⟩
  have hn2 : (I 58 5).toNat = n := by omega
  rw [hn2]
  have hC := fun e (he : e < 5) => (k3 e he).1
  refine zRuns_intro rfl (Nat.le_of_ble_eq_true rfl) (fun X C hR => ?_)
  show zZ g X 0 0 _ 0 [(0, .ref 58)] []
  refine z_iconst C dX6_apart_0 ?_
  refine z_istore_n C [(1, .int (iI 0)), (0, .ref 58)] dX6_apart_1 rfl (by decide) rfl ?_
  refine z_iconst C dX6_apart_2 ?_
  refine z_istore_n C [(2, .int (iI 0)), (1, .int (iI 0)), (0, .ref 58)] dX6_apart_3 rfl (by decide) rfl ?_
  refine zZ_sub [2, 1, 0] rfl ?_
  refine zZ_cast (σ' := (fun _ : Nat => zst I J q) 0) (L' := (fun e : Nat => [(0, .ref 58), (1, .int (iI (apO (I 62) (I 58 2) e))), (2, .int (iI (e : Int)))]) 0) rfl rfl rfl ?_
  refine zfor (n) (fun _ => True) (fun _ : Nat => zst I J q) (fun e : Nat => [(0, .ref 58), (1, .int (iI (apO (I 62) (I 58 2) e))), (2, .int (iI (e : Int)))]) trivial ?_ ?_
  · intro e hee hpe kke
    have hor := apO_r (pen := I 58 2) hC e (by omega)
    have qe := hC e (by omega)
    refine z_iload_n C 2 rfl dX6_apart_4 rfl ?_
    refine z_aload_n C 0 rfl dX6_apart_5 rfl ?_
    refine y_getI C zCl6 5 flX6_72 rfl rfl dX6_apart_6 ?_
    refine z_icmp_ge C 67 dX6_apart_9 (by decide) (by omega) (by omega) (fun h9 => ?_) (fun h9 => ?_)
    · omega
    · refine z_iconst C dX6_apart_12 ?_
      refine z_istore_n C [(3, .int (iI 0)), (0, .ref 58), (1, .int (iI ((apO (I 62) (I 58 2) e)))), (2, .int (iI ((e : Int))))] dX6_apart_13 rfl (by decide) rfl ?_
      refine zZ_sub [1, 2, 3, 0] rfl ?_
      refine zZ_cast (σ' := (fun _ : Nat => zst I J q) 0) (L' := (fun f : Nat => [(0, .ref 58), (1, .int (iI (apI (I 62) (I 58 2) e (apO (I 62) (I 58 2) e) f))), (2, .int (iI ((e : Int)))), (3, .int (iI (f : Int)))]) 0) rfl rfl rfl ?_
      refine zfor (e) (fun _ => True) (fun _ : Nat => zst I J q) (fun f : Nat => [(0, .ref 58), (1, .int (iI (apI (I 62) (I 58 2) e (apO (I 62) (I 58 2) e) f))), (2, .int (iI ((e : Int)))), (3, .int (iI (f : Int)))]) trivial ?_ ?_
      · intro f hef hpf kkf
        have hir := apI_r (pen := I 58 2) (e := e) (by omega) hor hC f (by omega)
        have qf := hC f (by omega)
        have hst := stp_r (c := I 62 e) (d := I 62 f) (by omega) (by omega)
        refine z_iload_n C 3 rfl dX6_apart_14 rfl ?_
        refine z_iload_n C 2 rfl dX6_apart_15 rfl ?_
        refine z_icmp_ge C 61 dX6_apart_16 (by decide) (by omega) (by omega) (fun h16 => ?_) (fun h16 => ?_)
        · omega
        · refine z_aload_n C 0 rfl dX6_apart_19 rfl ?_
          refine z_iload_n C 2 rfl dX6_apart_20 rfl ?_
          refine y_callV1 C oX6_isIn iX6_isIn eX6_isIn lkX6_122 (c_X6_isIn hgr hrs (by first | assumption | omega)) rfl (by decide) rfl rfl (by decide) (Nat.le_refl _) (Nat.le_refl _) (Nat.le_of_ble_eq_true rfl) dX6_apart_21 ?_
          refine y_if_neB C 55 dX6_apart_24 (by decide) (fun h24 => ?_) (fun h24 => ?_)
          · obtain ⟨v1, ev1⟩ : ∃ y : Int, y = (f : Int) + 1 := ⟨_, rfl⟩
            refine z_iinc C 3 v1 [(3, .int (iI v1)), (0, .ref 58), (1, .int (iI ((apI (I 62) (I 58 2) e (apO (I 62) (I 58 2) e) f)))), (2, .int (iI ((e : Int))))] dX6_apart_55 rfl ev1.symm (by decide) rfl ?_
            refine z_goto C 14 dX6_apart_58 (by decide) ?_
            refine zZ_sub [1, 2, 3, 0] rfl ?_
            refine zZ_cast rfl (zLk (zLc (by simp only [apI]; rw [if_neg (fun z => z.1 (by simpa using h24))]) (zLk (zLc (by omega) rfl)))) rfl (kkf trivial)
          · refine z_aload_n C 0 rfl dX6_apart_27 rfl ?_
            refine z_iload_n C 3 rfl dX6_apart_28 rfl ?_
            refine y_callV1 C oX6_isIn iX6_isIn eX6_isIn lkX6_122 (c_X6_isIn hgr hrs (by first | assumption | omega)) rfl (by decide) rfl rfl (by decide) (Nat.le_refl _) (Nat.le_refl _) (Nat.le_of_ble_eq_true rfl) dX6_apart_29 ?_
            refine y_if_neB C 55 dX6_apart_32 (by decide) (fun h32 => ?_) (fun h32 => ?_)
            · obtain ⟨v2, ev2⟩ : ∃ y : Int, y = (f : Int) + 1 := ⟨_, rfl⟩
              refine z_iinc C 3 v2 [(3, .int (iI v2)), (0, .ref 58), (1, .int (iI ((apI (I 62) (I 58 2) e (apO (I 62) (I 58 2) e) f)))), (2, .int (iI ((e : Int))))] dX6_apart_55 rfl ev2.symm (by decide) rfl ?_
              refine z_goto C 14 dX6_apart_58 (by decide) ?_
              refine zZ_sub [1, 2, 3, 0] rfl ?_
              refine zZ_cast rfl (zLk (zLc (by simp only [apI]; rw [if_neg (fun z => z.2 (by simpa using h32))]) (zLk (zLc (by omega) rfl)))) rfl (kkf trivial)
            · refine z_iload_n C 1 rfl dX6_apart_35 rfl ?_
              refine z_aload_n C 0 rfl dX6_apart_36 rfl ?_
              refine y_getR C zCl6 8 flX6_20 rfl rfl rfl dX6_apart_37 ?_
              refine z_iload_n C 2 rfl dX6_apart_40 rfl ?_
              refine y_iald C e (by omega) rfl (by omega) (by decide) dX6_apart_41 ?_
              refine z_aload_n C 0 rfl dX6_apart_42 rfl ?_
              refine y_getR C zCl6 8 flX6_20 rfl rfl rfl dX6_apart_43 ?_
              refine z_iload_n C 3 rfl dX6_apart_46 rfl ?_
              refine y_iald C f (by omega) rfl (by omega) (by decide) dX6_apart_47 ?_
              refine y_callS2 C oX6_steps sX6_steps lkX6_215 (c_X6_steps (by first | assumption | omega) (by first | assumption | omega)) (by decide) (Nat.le_refl _) (Nat.le_refl _) (Nat.le_of_ble_eq_true rfl) dX6_apart_48 ?_
              refine z_mmax C lkX6_266 (by omega) (by omega) (by decide) (Nat.le_refl _) (Nat.le_refl _) (Nat.le_of_ble_eq_true rfl) dX6_apart_51 ?_
              refine z_topI C (fun v3 ev3 => ?_)
              refine z_istore_n C [(1, .int (iI v3)), (0, .ref 58), (2, .int (iI ((e : Int)))), (3, .int (iI ((f : Int))))] dX6_apart_54 rfl (by decide) rfl ?_
              obtain ⟨v4, ev4⟩ : ∃ y : Int, y = (f : Int) + 1 := ⟨_, rfl⟩
              refine z_iinc C 3 v4 [(3, .int (iI v4)), (1, .int (iI v3)), (0, .ref 58), (2, .int (iI ((e : Int))))] dX6_apart_55 rfl ev4.symm (by decide) rfl ?_
              refine z_goto C 14 dX6_apart_58 (by decide) ?_
              refine zZ_sub [2, 1, 3, 0] rfl ?_
              refine zZ_cast rfl (zLk (zLc (by simp only [apI]; rw [if_pos ⟨by simpa using h24, by simpa using h32⟩]; omega) (zLk (zLc (by omega) rfl)))) rfl (kkf trivial)
      · intro hpf
        refine z_iload_n C 3 rfl dX6_apart_14 rfl ?_
        refine z_iload_n C 2 rfl dX6_apart_15 rfl ?_
        refine z_icmp_ge C 61 dX6_apart_16 (by decide) (by omega) (by omega) (fun h16 => ?_) (fun h16 => ?_)
        · obtain ⟨v5, ev5⟩ : ∃ y : Int, y = (e : Int) + 1 := ⟨_, rfl⟩
          refine z_iinc C 2 v5 [(2, .int (iI v5)), (0, .ref 58), (1, .int (iI ((apI (I 62) (I 58 2) e (apO (I 62) (I 58 2) e) e)))), (3, .int (iI ((e : Int))))] dX6_apart_61 rfl ev5.symm (by decide) rfl ?_
          refine z_goto C 4 dX6_apart_64 (by decide) ?_
          refine zZ_sub [1, 2, 0] rfl ?_
          refine zZ_cast rfl (zLk (zLc rfl (zLc (by omega) rfl))) rfl (kke trivial)
        · omega
  · intro hpe
    refine z_iload_n C 2 rfl dX6_apart_4 rfl ?_
    refine z_aload_n C 0 rfl dX6_apart_5 rfl ?_
    refine y_getI C zCl6 5 flX6_72 rfl rfl dX6_apart_6 ?_
    refine z_icmp_ge C 67 dX6_apart_9 (by decide) (by omega) (by omega) (fun h9 => ?_) (fun h9 => ?_)
    · refine z_iload_n C 1 rfl dX6_apart_67 rfl ?_
      exact zZ_iret C hR (Nat.le_refl _) (Nat.le_refl _) dX6_apart_68 rfl (zIs_I rfl rfl)
    · omega
