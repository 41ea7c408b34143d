set_option maxHeartbeats 4000000 in
set_option maxRecDepth 100000 in
theorem c_X6_runs {g : zG} {I : Nat → Nat → Int} {J : Nat → Nat → Int64} {q : Nat × Nat} {w t : Nat} {nr : Int} (hgr : gR I) (hrs : gRS (spR I)) (hw : w < 5) (ht : t ≤ 3) (hnr : 0 ≤ nr ∧ nr ≤ 9) : zRun g mX6_runs 3 [.ref 58, .int (iI ((w : Int))), .int (iI ((t : Int))), .int (iI nr)] (zst I J q) (none) (zst (zRq I (I 58 3, I 58 4, up1 (I 62) w (git (I 58 0) (maskW (I 59)) (I 58 2) (I 58 3) nr (-1) (leadN (I 60) (I 62) (I 58 2) w (I 58 5).toNat) (I 62 w) t))) J q) := by
  obtain ⟨b1, b2, b3, b4, b5, b6, b7⟩ := id hgr
  obtain ⟨k1, k2, k3⟩ := id hrs
  have k1 : gC7 (I 58 3) := k1
  have k2 : 0 ≤ I 58 4 ∧ I 58 4 ≤ 4 := k2
  have k3 : ∀ e, e < 5 → gC7 (I 62 e) := k3
  have k1' := k1.1
  have b2' := b2.1
  have hcw := k3 w hw
  obtain ⟨mk, hmk⟩ : ∃ mk, mk = leadN (I 60) (I 62) (I 58 2) w (I 58 5).toNat := ⟨_, rfl⟩
  have hm7 := leadN_7 (K := I 60) (pen := I 58 2) (w := w) (n := (I 58 5).toNat) (by omega) k3
  rw [← hmk] at hm7 ⊢
  refine zRuns_intro rfl (Nat.le_of_ble_eq_true rfl) (fun X C hR => ?_)
  show zZ g X 0 0 _ 0 [(0, .ref 58), (1, .int (iI ((w : Int)))), (2, .int (iI ((t : Int)))), (3, .int (iI nr))] []
  refine z_iconst C dX6_runs_0 ?_
  refine z_istore C [(4, .int (iI 0)), (0, .ref 58), (1, .int (iI ((w : Int)))), (2, .int (iI ((t : Int)))), (3, .int (iI nr))] dX6_runs_1 (by decide) rfl ?_
  refine zZ_sub [1, 2, 3, 4, 0] rfl ?_
  refine zZ_cast (σ' := (fun e : Nat => zst (zRq I (I 58 3, I 58 4, up1 (I 62) w (git (I 58 0) (maskW (I 59)) (I 58 2) (I 58 3) nr (-1) mk (I 62 w) e))) J q) 0) (L' := (fun e : Nat => [(0, .ref 58), (1, .int (iI ((w : Int)))), (2, .int (iI ((t : Int)))), (3, .int (iI nr)), (4, .int (iI (e : Int)))]) 0) (by refine congrArg (fun I' => zst I' J q) ?_; simp only [git]; rw [zRq_s0]) rfl rfl ?_
  refine zfor (t) (fun _ => True) (fun e : Nat => zst (zRq I (I 58 3, I 58 4, up1 (I 62) w (git (I 58 0) (maskW (I 59)) (I 58 2) (I 58 3) nr (-1) mk (I 62 w) e))) J q) (fun e : Nat => [(0, .ref 58), (1, .int (iI ((w : Int)))), (2, .int (iI ((t : Int)))), (3, .int (iI nr)), (4, .int (iI (e : Int)))]) trivial ?_ ?_
  · intro e hee hpe kke
    obtain ⟨cc, hcc⟩ : ∃ cc, cc = git (I 58 0) (maskW (I 59)) (I 58 2) (I 58 3) nr (-1) mk (I 62 w) e := ⟨_, rfl⟩
    have hc7 := git_7 (w := maskW (I 59)) (pen := I 58 2) (dog := I 58 3) (fears := nr) (stares := -1) (mark := mk) b1.2 hcw e
    rw [← hcc] at hc7 ⊢
    have hgz : gR (zRq I (I 58 3, I 58 4, up1 (I 62) w cc)) := gR_q hgr
    have hrz : gRS (spR (zRq I (I 58 3, I 58 4, up1 (I 62) w cc))) := by
      rw [zRq_sp]
      refine ⟨k1, k2, fun x hx => ?_⟩
      simp only [up1]
      split
      · exact hc7
      · exact k3 x hx
    have hcw1 : (zRq I (I 58 3, I 58 4, up1 (I 62) w cc)) 62 w = cc := up1_s
    have hcr := hc7.1
    have hst := stp_r (c := cc) (d := I 58 3) (by omega) (by omega)
    refine z_iload C 4 rfl dX6_runs_3 ?_
    refine z_iload_n C 2 rfl dX6_runs_5 rfl ?_
    refine z_icmp_ge C 50 dX6_runs_6 (by decide) (by omega) (by omega) (fun h6 => ?_) (fun h6 => ?_)
    · omega
    · refine z_aload_n C 0 rfl dX6_runs_9 rfl ?_
      refine z_iload_n C 1 rfl dX6_runs_10 rfl ?_
      refine y_callV1 C oX6_isIn iX6_isIn eX6_isIn lkX6_122 (c_X6_isIn hgz hrz (by first | assumption | omega)) rfl (by decide) rfl rfl (by decide) (Nat.le_refl _) (Nat.le_refl _) (Nat.le_of_ble_eq_true rfl) dX6_runs_11 ?_
      refine z_top C (bI (decide (cc = I 58 2))) (by rw [hcw1]; rfl) ?_
      refine y_if_neB C 44 dX6_runs_14 (by decide) (fun h14 => ?_) (fun h14 => ?_)
      · obtain ⟨v1, ev1⟩ : ∃ y : Int, y = (e : Int) + 1 := ⟨_, rfl⟩
        refine z_iinc C 4 v1 [(4, .int (iI v1)), (0, .ref 58), (1, .int (iI ((w : Int)))), (2, .int (iI ((t : Int)))), (3, .int (iI nr))] dX6_runs_44 rfl ev1.symm (by decide) rfl ?_
        refine z_goto C 3 dX6_runs_47 (by decide) ?_
        refine zZ_sub [1, 2, 3, 4, 0] rfl ?_
        refine zZ_cast (by refine congrArg (fun I' => zst I' J q) ?_; simp only [git, gstp]; rw [← hcc, if_pos (show cc = I 58 2 from of_decide_eq_true h14)]) (zLk (zLk (zLk (zLk (zLc (by omega) rfl))))) rfl (kke trivial)
      · refine z_aload_n C 0 rfl dX6_runs_17 rfl ?_
        refine y_getR C zCl6 8 flX6_20 rfl rfl rfl dX6_runs_18 ?_
        refine z_iload_n C 1 rfl dX6_runs_21 rfl ?_
        refine y_iald C w (by omega) rfl (by omega) (by decide) dX6_runs_22 ?_
        refine z_top C (cc) (hcw1) ?_
        refine z_aload_n C 0 rfl dX6_runs_23 rfl ?_
        refine y_getI C zCl6 3 flX6_61 rfl rfl dX6_runs_24 ?_
        refine z_top C (I 58 3) (rfl) ?_
        refine y_callS2 C oX6_steps sX6_steps lkX6_215 (c_X6_steps (by first | assumption | omega) (by first | assumption | omega)) (by decide) (Nat.le_refl _) (Nat.le_refl _) (Nat.le_of_ble_eq_true rfl) dX6_runs_27 ?_
        refine z_iload_n C 3 rfl dX6_runs_30 rfl ?_
        refine z_icmp_gt C 44 dX6_runs_31 (by decide) (by omega) (by omega) (fun h31 => ?_) (fun h31 => ?_)
        · obtain ⟨v2, ev2⟩ : ∃ y : Int, y = (e : Int) + 1 := ⟨_, rfl⟩
          refine z_iinc C 4 v2 [(4, .int (iI v2)), (0, .ref 58), (1, .int (iI ((w : Int)))), (2, .int (iI ((t : Int)))), (3, .int (iI nr))] dX6_runs_44 rfl ev2.symm (by decide) rfl ?_
          refine z_goto C 3 dX6_runs_47 (by decide) ?_
          refine zZ_sub [1, 2, 3, 4, 0] rfl ?_
          refine zZ_cast (by refine congrArg (fun I' => zst I' J q) ?_; simp only [git, gstp]; rw [← hcc, if_neg (show ¬ cc = I 58 2 from of_decide_eq_false h14), if_neg (fun z => absurd z.1 (by omega))]) (zLk (zLk (zLk (zLk (zLc (by omega) rfl))))) rfl (kke trivial)
        · refine z_aload_n C 0 rfl dX6_runs_34 rfl ?_
          refine z_iload_n C 1 rfl dX6_runs_35 rfl ?_
          refine z_aload_n C 0 rfl dX6_runs_36 rfl ?_
          refine z_iload_n C 1 rfl dX6_runs_37 rfl ?_
          refine y_callV1 C oX6_leaderOf iX6_leaderOf eX6_leaderOf lkX6_221 (c_X6_leaderOf hgz hrz (by first | assumption | omega)) rfl (by decide) rfl rfl (by decide) (Nat.le_refl _) (Nat.le_refl _) (Nat.le_of_ble_eq_true rfl) dX6_runs_38 ?_
          refine y_callV2 C oX6_flees iX6_flees eX6_flees lkX6_224 (c_X6_flees hgz hrz (by first | assumption | omega) (leadN_7 (by show (I 58 5).toNat ≤ 5; omega) hrz.2.2)) rfl (by decide) rfl rfl (by decide) (Nat.le_refl _) (Nat.le_refl _) (Nat.le_of_ble_eq_true rfl) dX6_runs_41 ?_
          obtain ⟨v3, ev3⟩ : ∃ y : Int, y = (e : Int) + 1 := ⟨_, rfl⟩
          refine z_iinc C 4 v3 [(4, .int (iI v3)), (0, .ref 58), (1, .int (iI ((w : Int)))), (2, .int (iI ((t : Int)))), (3, .int (iI nr))] dX6_runs_44 rfl ev3.symm (by decide) rfl ?_
          refine z_goto C 3 dX6_runs_47 (by decide) ?_
          refine zZ_sub [1, 2, 3, 4, 0] rfl ?_
          refine zZ_cast (by refine congrArg (fun I' => zst I' J q) ?_; simp only [git, gstp]; rw [← hcc, if_neg (show ¬ cc = I 58 2 from of_decide_eq_false h14), if_pos ⟨by omega, by omega⟩, zRq_zRq, zRq_62, zRq_3, zRq_4, zRq_k (by decide) (by decide), zRq_k (by decide) (by decide), zRq_k (by decide) (by decide), zRq_n (by decide) (by decide), zRq_n (by decide) (by decide)]; dsimp only; rw [up1_s, up1_up1, leadN_up, ← hmk]) (zLk (zLk (zLk (zLk (zLc (by omega) rfl))))) rfl (kke trivial)
  · intro hpe
    refine z_iload C 4 rfl dX6_runs_3 ?_
    refine z_iload_n C 2 rfl dX6_runs_5 rfl ?_
    refine z_icmp_ge C 50 dX6_runs_6 (by decide) (by omega) (by omega) (fun h6 => ?_) (fun h6 => ?_)
    · exact zZ_vret C hR (Nat.le_refl _) (Nat.le_refl _) dX6_runs_50 rfl (zIs_V rfl)
    · omega
