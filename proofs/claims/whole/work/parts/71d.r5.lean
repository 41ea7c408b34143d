set_option maxHeartbeats 4000000 in
set_option maxRecDepth 100000 in
theorem c_X6_moved {g : zG} {I : Nat → Nat → Int} {J : Nat → Nat → Int64} {q : Nat × Nat}  (hgr : gR I) (hrs : gRS (spR I)) (hdo : openN (I 58 0) (maskW (I 59)) (I 58 3) = true) : zRun g mX6_moved 6 [.ref 58] (zst I J q) (some (.int (iI ((mvR I : Nat))))) (zst (svI I 0 (spR I)) J q) := by
  obtain ⟨b1, b2, b3, b4, b5, b6, b7⟩ := id hgr
  obtain ⟨k1, k2, k3⟩ := id hrs
  have k1 : gC7 (I 58 3) := k1
  have k2 : 0 ≤ I 58 4 ∧ I 58 4 ≤ 4 := k2
  have k3 : ∀ e, e < 5 → gC7 (I 62 e) := k3
  have k1' := k1.1
  have b2' := b2.1
  obtain ⟨n, hn⟩ : ∃ n : Nat, I 58 5 = n := ⟨(I 58 5).toNat, by omega⟩
  have hn2 : (I 58 5).toNat = n := by omega
  obtain ⟨P, hP⟩ : ∃ P, P = mvP I := ⟨_, rfl⟩
  have hM : mvR I = bitsN P n := by rw [hP, ← hn2]; rfl
  rw [hM]
  have hrt := gRS_turn hgr hrs (c := 0) (by omega)
  have h58 : (zRq (svI I 0 (spR I)) (turnS (hvR I) (spR I) 0)) 58 5 = I 58 5 := by rw [zRq_k (by decide) (by decide), svI_n (by decide)]
  refine zRuns_intro rfl (Nat.le_of_ble_eq_true rfl) (fun X C hR => ?_)
  show zZ g X 0 0 _ 0 [(0, .ref 58)] []
  refine z_aload_n C 0 rfl dX6_moved_0 rfl ?_
  refine z_iconst C dX6_moved_1 ?_
  refine z_top C (((0 : Nat) : Int)) (rfl) ?_
  refine y_callV1 C oX6_saves iX6_saves eX6_saves lkX6_104 (c_X6_saves (by first | assumption | omega)) rfl (by decide) rfl rfl (by decide) (Nat.le_refl _) (Nat.le_refl _) (Nat.le_of_ble_eq_true rfl) dX6_moved_2 ?_
  refine z_aload_n C 0 rfl dX6_moved_5 rfl ?_
  refine z_iconst C dX6_moved_6 ?_
  refine z_top C (((0 : Nat) : Int)) (rfl) ?_
  refine y_callV1 C oX6_goes iX6_goes eX6_goes lkX6_238 (c_X6_goes (gR_sv hgr) (by rw [spR_sv]; exact hrs) (by rw [svI_n (by decide), svI_n (by decide)]; exact hdo) (by first | assumption | omega)) rfl (by decide) rfl rfl (by decide) (Nat.le_refl _) (Nat.le_refl _) (Nat.le_of_ble_eq_true rfl) dX6_moved_7 ?_
  refine zZ_cast (σ' := zst (zRq (svI I 0 (spR I)) (turnS (hvR I) (spR I) 0)) J q) (by rw [hvR_sv, spR_sv]; rfl) rfl rfl ?_
  refine z_iconst C dX6_moved_10 ?_
  refine z_istore_n C [(1, .int (iI 0)), (0, .ref 58)] dX6_moved_11 rfl (by decide) rfl ?_
  refine z_iconst C dX6_moved_12 ?_
  refine z_istore_n C [(2, .int (iI 0)), (1, .int (iI 0)), (0, .ref 58)] dX6_moved_13 rfl (by decide) rfl ?_
  refine zZ_sub [2, 1, 0] rfl ?_
  refine zZ_cast (σ' := (fun _ : Nat => zst (zRq (svI I 0 (spR I)) (turnS (hvR I) (spR I) 0)) J q) 0) (L' := (fun e : Nat => [(0, .ref 58), (1, .int (iI (bitsN P e : Nat))), (2, .int (iI (e : Int)))]) 0) rfl rfl rfl ?_
  refine zfor (n) (fun _ => True) (fun _ : Nat => zst (zRq (svI I 0 (spR I)) (turnS (hvR I) (spR I) 0)) J q) (fun e : Nat => [(0, .ref 58), (1, .int (iI (bitsN P e : Nat))), (2, .int (iI (e : Int)))]) trivial ?_ ?_
  · intro e hee hpe kke
    have q3 := (k3 e (by omega)).1
    have q4 := (hrt.2.2 e (by omega)).1
    refine z_iload_n C 2 rfl dX6_moved_14 rfl ?_
    refine z_aload_n C 0 rfl dX6_moved_15 rfl ?_
    refine y_getI C zCl6 5 flX6_72 rfl rfl dX6_moved_16 ?_
    rw [h58]
    refine z_icmp_ge C 51 dX6_moved_19 (by decide) (by omega) (by omega) (fun h19 => ?_) (fun h19 => ?_)
    · omega
    · refine z_aload_n C 0 rfl dX6_moved_22 rfl ?_
      refine y_getR C zCl6 8 flX6_20 rfl rfl rfl dX6_moved_23 ?_
      refine z_iload_n C 2 rfl dX6_moved_26 rfl ?_
      refine y_iald C e (by omega) rfl (by omega) (by decide) dX6_moved_27 ?_
      refine z_top C ((turnS (hvR I) (spR I) 0).2.2 e) (rfl) ?_
      refine z_aload_n C 0 rfl dX6_moved_28 rfl ?_
      refine y_getR C zCl6 25 flX6_45 rfl rfl rfl dX6_moved_29 ?_
      refine z_iconst C dX6_moved_32 ?_
      refine z_iload_n C 2 rfl dX6_moved_33 rfl ?_
      refine z_iadd C dX6_moved_34 ?_
      refine y_iald C (2 + e) (by omega) rfl (by omega) (by decide) dX6_moved_35 ?_
      refine z_top C (I 62 e) (by rw [zRq_n (by decide) (by decide)]; have h := (svI_p (I := I) (d := 0) (p := spR I)).2.2 e (by omega); rw [← show 7 * 0 + 2 + e = 2 + e by omega]; exact h) ?_
      refine z_icmp_eq C 45 dX6_moved_36 (by decide) (by omega) (by omega) (fun h36 => ?_) (fun h36 => ?_)
      · obtain ⟨v1, ev1⟩ : ∃ y : Int, y = (e : Int) + 1 := ⟨_, rfl⟩
        refine z_iinc C 2 v1 [(2, .int (iI v1)), (0, .ref 58), (1, .int (iI ((bitsN P e : Nat))))] dX6_moved_45 rfl ev1.symm (by decide) rfl ?_
        refine z_goto C 14 dX6_moved_48 (by decide) ?_
        refine zZ_sub [1, 2, 0] rfl ?_
        refine zZ_cast rfl (zLk (zLc (by rw [bitsN_no (by rw [hP]; unfold mvP; simp [show (turnS (hvR I) (spR I) 0).2.2 e = I 62 e from h36])]) (zLc (by omega) rfl))) rfl (kke trivial)
      · refine z_iload_n C 1 rfl dX6_moved_39 rfl ?_
        refine z_iconst C dX6_moved_40 ?_
        refine z_iload_n C 2 rfl dX6_moved_41 rfl ?_
        refine z_ishl C ((2 ^ e : Nat) : Int) dX6_moved_42 (iI_sh1 (by omega)) ?_
        refine z_ior C (bitsN P (e + 1) : Nat) dX6_moved_43 (bitsN_step (by omega) (by rw [hP]; unfold mvP; simp [show ¬ (turnS (hvR I) (spR I) 0).2.2 e = I 62 e from h36])) ?_
        refine z_istore_n C [(1, .int (iI ((bitsN P (e + 1) : Nat)))), (0, .ref 58), (2, .int (iI ((e : Int))))] dX6_moved_44 rfl (by decide) rfl ?_
        obtain ⟨v2, ev2⟩ : ∃ y : Int, y = (e : Int) + 1 := ⟨_, rfl⟩
        refine z_iinc C 2 v2 [(2, .int (iI v2)), (1, .int (iI ((bitsN P (e + 1) : Nat)))), (0, .ref 58)] dX6_moved_45 rfl ev2.symm (by decide) rfl ?_
        refine z_goto C 14 dX6_moved_48 (by decide) ?_
        refine zZ_sub [2, 1, 0] rfl ?_
        refine zZ_cast rfl (zLk (zLc rfl (zLc (by omega) rfl))) rfl (kke trivial)
  · intro hpe
    refine z_iload_n C 2 rfl dX6_moved_14 rfl ?_
    refine z_aload_n C 0 rfl dX6_moved_15 rfl ?_
    refine y_getI C zCl6 5 flX6_72 rfl rfl dX6_moved_16 ?_
    rw [h58]
    refine z_icmp_ge C 51 dX6_moved_19 (by decide) (by omega) (by omega) (fun h19 => ?_) (fun h19 => ?_)
    · refine z_aload_n C 0 rfl dX6_moved_51 rfl ?_
      refine z_iconst C dX6_moved_52 ?_
      refine z_top C (((0 : Nat) : Int)) (rfl) ?_
      refine y_callV1 C oX6_again iX6_again eX6_again lkX6_111 (c_X6_again (by first | assumption | omega) (svAt_q svAt_sv)) rfl (by decide) rfl rfl (by decide) (Nat.le_refl _) (Nat.le_refl _) (Nat.le_of_ble_eq_true rfl) dX6_moved_53 ?_
      refine zZ_cast (σ' := zst (svI I 0 (spR I)) J q) (by refine congrArg (fun I' => zst I' J q) ?_; rw [zRq_zRq]; exact zRq_svs) rfl rfl ?_
      refine z_iload_n C 1 rfl dX6_moved_56 rfl ?_
      exact zZ_iret C hR (Nat.le_refl _) (Nat.le_refl _) dX6_moved_57 rfl (zIs_I rfl rfl)
    · omega
