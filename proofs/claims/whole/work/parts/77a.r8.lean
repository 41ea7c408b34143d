set_option maxHeartbeats 4000000 in
set_option maxRecDepth 100000 in
theorem c_X6_rows {g : zG} {J : Nat → Nat → Int64} {q : Nat × Nat} : ∀ (k : Nat) (I : Nat → Nat → Int), k ≤ 6 → gR I → gRS (spR I) → openN (I 58 0) (maskW (I 59)) (I 58 3) = true → zRun g mX6_rows (4 + k) [.ref 58, .int (iI (k : Int))] (zst I J q) (some (.int (iI (sgP (I 58 0) (maskW (I 59)) (I 58 2) k (I 58 3).toNat)))) (zst I J q) := by
  intro k
  induction k with
  | zero =>
    intro I hk hgr hrs hdo
    obtain ⟨b1, b2, b3, b4, b5, b6, b7⟩ := id hgr
    obtain ⟨k1, k2, k3⟩ := id hrs
    have k1 : gC7 (I 58 3) := k1
    have k2 : 0 ≤ I 58 4 ∧ I 58 4 ≤ 4 := k2
    have k3 : ∀ e, e < 5 → gC7 (I 62 e) := k3
    have k1' := k1.1
    refine zRuns_intro rfl (Nat.le_of_ble_eq_true rfl) (fun X C hR => ?_)
    show zZ g X 0 0 _ 0 [(0, .ref 58), (1, .int (iI (((0 : Nat) : Int))))] []
    refine z_iload_n C 1 rfl dX6_rows_0 rfl ?_
    refine z_if_ne C 6 dX6_rows_1 (by decide) (by omega) (fun h1 => ?_) (fun h1 => ?_)
    · exact absurd rfl h1
    · refine z_iconst C dX6_rows_4 ?_
      refine zZ_iret C hR (Nat.le_refl _) (Nat.le_refl _) dX6_rows_5 rfl ?_
      exact ⟨rfl, rfl⟩
  | succ k ih =>
    intro I hk hgr hrs hdo
    obtain ⟨b1, b2, b3, b4, b5, b6, b7⟩ := id hgr
    obtain ⟨k1, k2, k3⟩ := id hrs
    have k1 : gC7 (I 58 3) := k1
    have k2 : 0 ≤ I 58 4 ∧ I 58 4 ≤ 4 := k2
    have k3 : ∀ e, e < 5 → gC7 (I 62 e) := k3
    have k1' := k1.1
    refine zRuns_intro rfl (Nat.le_of_ble_eq_true rfl) (fun X C hR => ?_)
    show zZ g X 0 0 _ 0 [(0, .ref 58), (1, .int (iI (((k + 1 : Nat) : Int))))] []
    refine z_iload_n C 1 rfl dX6_rows_0 rfl ?_
    refine z_if_ne C 6 dX6_rows_1 (by decide) (by omega) (fun h1 => ?_) (fun h1 => ?_)
    · refine z_aload_n C 0 rfl dX6_rows_6 rfl ?_
      refine y_getI C zCl6 3 flX6_61 rfl rfl dX6_rows_7 ?_
      refine z_topI C (fun hd ehd => ?_)
      have ehd : hd = I 58 3 := ehd
      refine z_istore_n C [(2, .int (iI hd)), (0, .ref 58), (1, .int (iI (((k + 1 : Nat) : Int))))] dX6_rows_10 rfl (by decide) rfl ?_
      refine z_iconst C dX6_rows_11 ?_
      refine z_istore_n C [(3, .int (iI 0)), (2, .int (iI hd)), (0, .ref 58), (1, .int (iI (((k + 1 : Nat) : Int))))] dX6_rows_12 rfl (by decide) rfl ?_
      refine z_iconst C dX6_rows_13 ?_
      refine z_istore C [(4, .int (iI 0)), (3, .int (iI 0)), (2, .int (iI hd)), (0, .ref 58), (1, .int (iI (((k + 1 : Nat) : Int))))] dX6_rows_14 (by decide) rfl ?_
      obtain ⟨F, hF⟩ : ∃ F : Nat → Int, F = (fun j => if (0 ≤ I 58 3 + shN j ∧ I 58 3 + shN j < 67) ∧ canN (I 58 0) (maskW (I 59)) (I 58 2) (I 58 3) (j : Int) = true then sgP (I 58 0) (maskW (I 59)) (I 58 2) k (I 58 3 + shN j).toNat else 0) := ⟨_, rfl⟩
      refine zZ_sub [3, 4, 2, 1, 0] rfl ?_
      refine zZ_cast (σ' := (fun _ : Nat => zst I J q) 0) (L' := (fun e : Nat => [(0, .ref 58), (1, .int (iI (((k + 1 : Nat) : Int)))), (2, .int (iI hd)), (3, .int (iI (sumN F e))), (4, .int (iI (e : Int)))]) 0) rfl rfl rfl ?_
      refine zfor (5) (fun _ => True) (fun _ : Nat => zst I J q) (fun e : Nat => [(0, .ref 58), (1, .int (iI (((k + 1 : Nat) : Int)))), (2, .int (iI hd)), (3, .int (iI (sumN F e))), (4, .int (iI (e : Int)))]) trivial ?_ ?_
      · intro e hee hpe kke
        refine z_iload C 4 rfl dX6_rows_16 ?_
        refine z_iconst C dX6_rows_18 ?_
        refine z_icmp_ge C 66 dX6_rows_19 (by decide) (by omega) (by omega) (fun h19 => ?_) (fun h19 => ?_)
        · omega
        · refine z_aload_n C 0 rfl dX6_rows_22 rfl ?_
          refine z_iload C 4 rfl dX6_rows_23 ?_
          refine y_callV1 C oX6_can iX6_can eX6_can lkX6_232 (c_X6_can hgr hrs (by first | assumption | omega)) rfl (by decide) rfl rfl (by omega) (Nat.le_refl _) (Nat.le_refl _) (Nat.le_of_ble_eq_true rfl) dX6_rows_25 ?_
          refine y_if_neB C 34 dX6_rows_28 (by decide) (fun h28 => ?_) (fun h28 => ?_)
          · have hcs := can_sg (pen := I 58 2) b1.2 k1 hdo (by omega) h28
            refine z_aload_n C 0 rfl dX6_rows_34 rfl ?_
            refine z_aload_n C 0 rfl dX6_rows_35 rfl ?_
            refine z_iload_n C 2 rfl dX6_rows_36 rfl ?_
            refine z_iload C 4 rfl dX6_rows_37 ?_
            refine y_callV2 C oX6_beside iX6_beside eX6_beside lkX6_218 (c_X6_beside hgr (by rw [ehd]; exact k1) (by omega)) rfl (by decide) rfl rfl (by omega) (Nat.le_refl _) (Nat.le_refl _) (Nat.le_of_ble_eq_true rfl) dX6_rows_39 ?_
            refine z_top C (I 58 3 + shN e) (by rw [ehd]; exact hcs.1) ?_
            refine y_putI C zCl6 3 flX6_61 rfl rfl rfl rfl dX6_rows_42 ?_
            refine z_iload_n C 3 rfl dX6_rows_45 rfl ?_
            refine z_aload_n C 0 rfl dX6_rows_46 rfl ?_
            refine z_iload_n C 1 rfl dX6_rows_47 rfl ?_
            refine z_iconst C dX6_rows_48 ?_
            refine z_isub C dX6_rows_49 ?_
            refine z_top C ((k : Int)) (by omega) ?_
            have hst : zu I 58 3 (I 58 3 + shN e) = zRq I (I 58 3 + shN e, I 58 4, I 62) := zu583
            have hi := ih (zRq I (I 58 3 + shN e, I 58 4, I 62)) (by omega) (gR_q hgr) ⟨hcs.2.1, k2, k3⟩ (by rw [zRq_k (by decide) (by decide), zRq_n (by decide) (by decide), zRq_3]; exact hcs.2.2)
            rw [zRq_k (by decide) (by decide), zRq_k (by decide) (by decide), zRq_n (by decide) (by decide), zRq_3, ← hst] at hi
            refine zZ_callV (as := [.int (iI (k : Int))]) C oX6_rows iX6_rows eX6_rows lkX6_284 rfl (by decide) rfl rfl hi rfl (by omega) (Nat.le_refl _) (Nat.le_refl _) (Nat.le_of_ble_eq_true rfl) dX6_rows_50 (fun r1 σ1 h => ?_)
            obtain ⟨rfl, rfl⟩ := h
            show zZ g X 0 0 _ _ _ (.int (iI (sgP (I 58 0) (maskW (I 59)) (I 58 2) k (I 58 3 + shN e).toNat)) :: .int (iI (sumN F e)) :: [])
            refine z_iadd C dX6_rows_53 ?_
            refine z_topI C (fun sm esm => ?_)
            refine z_istore_n C [(3, .int (iI sm)), (0, .ref 58), (1, .int (iI (((k + 1 : Nat) : Int)))), (2, .int (iI hd)), (4, .int (iI ((e : Int))))] dX6_rows_54 rfl (by decide) rfl ?_
            refine z_aload_n C 1 rfl dX6_rows_55 rfl ?_
            refine z_iload_n C 3 rfl dX6_rows_56 rfl ?_
            refine y_putI C zCl6 3 flX6_61 rfl rfl rfl rfl dX6_rows_57 ?_
            refine zZ_cast (σ' := zst (I) J q)  (by refine congrArg (fun I' => zst I' J q) ?_; rw [hst, zRq_p3, ehd]; exact zRq_self) rfl rfl ?_
            obtain ⟨v1, ev1⟩ : ∃ y : Int, y = (e : Int) + 1 := ⟨_, rfl⟩
            refine z_iinc C 4 v1 [(4, .int (iI v1)), (3, .int (iI sm)), (0, .ref 58), (1, .int (iI (((k + 1 : Nat) : Int)))), (2, .int (iI hd))] dX6_rows_60 rfl ev1.symm (by decide) rfl ?_
            refine z_goto C 16 dX6_rows_63 (by decide) ?_
            refine zZ_sub [2, 3, 4, 1, 0] rfl ?_
            refine zZ_cast rfl (zLk (zLk (zLk (zLc (by simp only [sumN]; rw [show F e = sgP (I 58 0) (maskW (I 59)) (I 58 2) k (I 58 3 + shN e).toNat from by rw [hF]; exact if_pos ⟨by have := hcs.2.1.1; omega, h28⟩]; exact esm) (zLc (by omega) rfl))))) rfl (kke trivial)
          · refine z_goto C 60 dX6_rows_31 (by decide) ?_
            obtain ⟨v2, ev2⟩ : ∃ y : Int, y = (e : Int) + 1 := ⟨_, rfl⟩
            refine z_iinc C 4 v2 [(4, .int (iI v2)), (0, .ref 58), (1, .int (iI (((k + 1 : Nat) : Int)))), (2, .int (iI hd)), (3, .int (iI ((sumN F e))))] dX6_rows_60 rfl ev2.symm (by decide) rfl ?_
            refine z_goto C 16 dX6_rows_63 (by decide) ?_
            refine zZ_sub [1, 2, 3, 4, 0] rfl ?_
            refine zZ_cast rfl (zLk (zLk (zLk (zLc (by simp only [sumN]; rw [show F e = 0 from by rw [hF]; exact if_neg (fun z => absurd (z.2.symm.trans h28) (by decide))]; omega) (zLc (by omega) rfl))))) rfl (kke trivial)
      · intro hpe
        refine z_iload C 4 rfl dX6_rows_16 ?_
        refine z_iconst C dX6_rows_18 ?_
        refine z_icmp_ge C 66 dX6_rows_19 (by decide) (by omega) (by omega) (fun h19 => ?_) (fun h19 => ?_)
        · refine z_iload_n C 3 rfl dX6_rows_66 rfl ?_
          refine zZ_iret C hR (Nat.le_refl _) (Nat.le_refl _) dX6_rows_67 rfl ?_
          exact zIs_I (by rw [hF, sgP_s k1.1.1]) rfl
        · omega
    · exact absurd h1 (by omega)
