set_option maxHeartbeats 4000000 in
set_option maxRecDepth 100000 in
theorem c_X1_bringsAll {g : zG} {J : Nat → Nat → Int64} {q : Nat × Nat} : ∀ (k dd : Nat) (I : Nat → Nat → Int), dd + k ≤ 6 → gH I 1 → gS I (40 + 2 * dd) → zRuns g mX1_bringsAll (8 + k) 0 0 [.ref 38, .ref 1, .int (iI (dd : Int)), .int (iI ((dd + k : Nat) : Int))] (zst I J q) (brPost I J q dd (brP (hv I J 1) k (spOf I (40 + 2 * dd)))) := by
  intro k
  induction k with
  | zero =>
    intro dd I hdk hg hs
    obtain ⟨g1, g2, g3, g4, g5, g6⟩ := id hg
    refine zRuns_intro rfl (Nat.le_of_ble_eq_true rfl) (fun X C hR => ?_)
    show zZ g X 0 0 _ 0 [(0, .ref 38), (1, .ref 1), (2, .int (iI ((dd : Int)))), (3, .int (iI (((dd + 0 : Nat) : Int))))] []
    refine z_iload_n C 2 rfl dX1_bringsAll_0 rfl ?_
    refine z_bipush C dX1_bringsAll_1 (by decide) ?_
    refine z_icmp_gt C 26 dX1_bringsAll_3 (by decide) (by omega) (by omega) (fun h3 => ?_) (fun h3 => ?_)
    · omega
    · refine z_aload_n C 1 rfl dX1_bringsAll_6 rfl ?_
      refine z_aload_n C 0 rfl dX1_bringsAll_7 rfl ?_
      refine y_getR C zCl1 0 flX1_11 rfl rfl rfl dX1_bringsAll_8 ?_
      refine z_iload_n C 2 rfl dX1_bringsAll_11 rfl ?_
      refine y_aald C dd 11 (by decide) (by omega) rfl (by omega) (by decide) (rt_39 (by omega)) dX1_bringsAll_12 ?_
      refine z_iload_n C 3 rfl dX1_bringsAll_13 rfl ?_
      refine z_iload_n C 2 rfl dX1_bringsAll_14 rfl ?_
      refine z_isub C dX1_bringsAll_15 ?_
      refine y_callV2 C oX0_countWithin iX0_countWithin eX0_countWithin lkX1_52 (c_X0_countWithin isH_1 (isS_of (by omega)) hg hs (by first | assumption | omega)) rfl (by decide) rfl rfl (by decide) (Nat.le_refl _) (Nat.le_refl _) (Nat.le_of_ble_eq_true rfl) dX1_bringsAll_16 ?_
      refine z_aload_n C 1 rfl dX1_bringsAll_19 rfl ?_
      refine y_getI C zCl0 6 flX1_56 rfl rfl dX1_bringsAll_20 ?_
      refine z_icmp_ge C 28 dX1_bringsAll_23 (by decide) (by have := withinN_r (J := J) (C := I (40 + 2 * dd + 1)) (l := ((dd + 0 : Nat) : Int) - (dd : Int)) hg; omega) (by omega) (fun h23 => ?_) (fun h23 => ?_)
      · refine z_iload_n C 2 rfl dX1_bringsAll_28 rfl ?_
        refine z_iload_n C 3 rfl dX1_bringsAll_29 rfl ?_
        refine z_icmp_lt C 35 dX1_bringsAll_30 (by decide) (by omega) (by omega) (fun h30 => ?_) (fun h30 => ?_)
        · omega
        · refine z_iconst C dX1_bringsAll_33 ?_
          refine zZ_zret C hR (Nat.le_refl _) (Nat.le_refl _) dX1_bringsAll_34 rfl (Or.inr rfl) ?_
          have hw : ¬ withinN (hv I J 1) (spOf I (40 + 2 * dd)).2.2 0 < (hv I J 1).2.2.2.1 := by have z := Int.not_lt.mpr h23; rw [show ((dd + 0 : Nat) : Int) - (dd : Int) = 0 by omega] at z; exact z
          exact ⟨I, rfl, by unfold brP; rw [if_neg hw]; rfl, frB_rf, fun l hl => by unfold brP at hl; rw [if_neg hw] at hl; cases hl; intro j hj; simp at hj⟩
      · refine z_iconst C dX1_bringsAll_26 ?_
        refine zZ_zret C hR (Nat.le_refl _) (Nat.le_refl _) dX1_bringsAll_27 rfl (Or.inl rfl) ?_
        have hw : withinN (hv I J 1) (spOf I (40 + 2 * dd)).2.2 0 < (hv I J 1).2.2.2.1 := by have z := Int.not_le.mp h23; rw [show ((dd + 0 : Nat) : Int) - (dd : Int) = 0 by omega] at z; exact z
        exact ⟨I, rfl, by unfold brP; rw [if_pos hw]; rfl, frB_rf, fun l hl => by unfold brP at hl; rw [if_pos hw] at hl; cases hl⟩
  | succ k ih =>
    intro dd I hdk hg hs
    obtain ⟨g1, g2, g3, g4, g5, g6⟩ := id hg
    refine zRuns_intro rfl (Nat.le_of_ble_eq_true rfl) (fun X C hR => ?_)
    show zZ g X 0 0 _ 0 [(0, .ref 38), (1, .ref 1), (2, .int (iI ((dd : Int)))), (3, .int (iI (((dd + (k + 1) : Nat) : Int))))] []
    refine z_iload_n C 2 rfl dX1_bringsAll_0 rfl ?_
    refine z_bipush C dX1_bringsAll_1 (by decide) ?_
    refine z_icmp_gt C 26 dX1_bringsAll_3 (by decide) (by omega) (by omega) (fun h3 => ?_) (fun h3 => ?_)
    · omega
    · refine z_aload_n C 1 rfl dX1_bringsAll_6 rfl ?_
      refine z_aload_n C 0 rfl dX1_bringsAll_7 rfl ?_
      refine y_getR C zCl1 0 flX1_11 rfl rfl rfl dX1_bringsAll_8 ?_
      refine z_iload_n C 2 rfl dX1_bringsAll_11 rfl ?_
      refine y_aald C dd 11 (by decide) (by omega) rfl (by omega) (by decide) (rt_39 (by omega)) dX1_bringsAll_12 ?_
      refine z_iload_n C 3 rfl dX1_bringsAll_13 rfl ?_
      refine z_iload_n C 2 rfl dX1_bringsAll_14 rfl ?_
      refine z_isub C dX1_bringsAll_15 ?_
      refine y_callV2 C oX0_countWithin iX0_countWithin eX0_countWithin lkX1_52 (c_X0_countWithin isH_1 (isS_of (by omega)) hg hs (by first | assumption | omega)) rfl (by decide) rfl rfl (by omega) (Nat.le_refl _) (Nat.le_refl _) (Nat.le_of_ble_eq_true rfl) dX1_bringsAll_16 ?_
      refine z_aload_n C 1 rfl dX1_bringsAll_19 rfl ?_
      refine y_getI C zCl0 6 flX1_56 rfl rfl dX1_bringsAll_20 ?_
      refine z_icmp_ge C 28 dX1_bringsAll_23 (by decide) (by have := withinN_r (J := J) (C := I (40 + 2 * dd + 1)) (l := ((dd + (k + 1) : Nat) : Int) - (dd : Int)) hg; omega) (by omega) (fun h23 => ?_) (fun h23 => ?_)
      · refine z_iload_n C 2 rfl dX1_bringsAll_28 rfl ?_
        refine z_iload_n C 3 rfl dX1_bringsAll_29 rfl ?_
        refine z_icmp_lt C 35 dX1_bringsAll_30 (by decide) (by omega) (by omega) (fun h30 => ?_) (fun h30 => ?_)
        · refine z_iconst C dX1_bringsAll_35 ?_
          refine z_istore C [(4, .int (iI 0)), (0, .ref 38), (1, .ref 1), (2, .int (iI ((dd : Int)))), (3, .int (iI (((dd + (k + 1) : Nat) : Int))))] dX1_bringsAll_36 (by decide) rfl ?_
          have h23' : ¬ withinN (hv I J 1) (spOf I (40 + 2 * dd)).2.2 ((k + 1 : Nat) : Int) < (hv I J 1).2.2.2.1 := by
            rw [show ((k + 1 : Nat) : Int) = ((dd + (k + 1) : Nat) : Int) - (dd : Int) by omega]
            exact fun z => absurd h23 (Int.not_le.mpr z)
          refine zZ_sub [1, 2, 3, 4, 0] rfl ?_
          refine zZ_cast (σ' := (fun (_ : Nat) (I' : Nat → Nat → Int) => zst I' J q) 0 I) (L' := (fun (e : Nat) (I' : Nat → Nat → Int) => [(0, .ref 38), (1, .ref 1), (2, .int (iI ((dd : Int)))), (3, .int (iI (((dd + (k + 1) : Nat) : Int)))), (4, .int (iI (e : Int)))]) 0 I) rfl rfl rfl ?_
          refine zforE (5) (fun e I' => frB I I' dd ∧ optN (fun c => if canN (hv I J 1).1 (hv I J 1).2.1 (hv I J 1).2.2.1 (spOf I (40 + 2 * dd)).1 (c : Int) = true then (brP (hv I J 1) k (turnS (hv I J 1) (spOf I (40 + 2 * dd)) (c : Int))).map (fun l => (c : Int) :: l) else none) e = none) (fun (_ : Nat) (I' : Nat → Nat → Int) => zst I' J q) (fun (e : Nat) (I' : Nat → Nat → Int) => [(0, .ref 38), (1, .ref 1), (2, .int (iI ((dd : Int)))), (3, .int (iI (((dd + (k + 1) : Nat) : Int)))), (4, .int (iI (e : Int)))]) I ⟨frB_rf, rfl⟩ ?_ ?_
          · intro e I' hee hpe kke
            have hcn : canN (I' 1 0) (J 1 5) (I' 1 1) (I' (40 + 2 * dd) 0) (e : Int) = canN (hv I J 1).1 (hv I J 1).2.1 (hv I J 1).2.2.1 (spOf I (40 + 2 * dd)).1 (e : Int) := by
              rw [hpe.1.1 1 (by decide) (by omega), hpe.1.1 (40 + 2 * dd) (by omega) (by omega)]; rfl
            refine z_iload C 4 rfl dX1_bringsAll_38 ?_
            refine z_iconst C dX1_bringsAll_40 ?_
            refine z_icmp_ge C 75 dX1_bringsAll_41 (by decide) (by omega) (by omega) (fun h41 => ?_) (fun h41 => ?_)
            · omega
            · refine z_aload_n C 0 rfl dX1_bringsAll_44 rfl ?_
              refine z_aload_n C 1 rfl dX1_bringsAll_45 rfl ?_
              refine z_iload_n C 2 rfl dX1_bringsAll_46 rfl ?_
              refine z_iload C 4 rfl dX1_bringsAll_47 ?_
              refine y_callV3 C oX1_tryCommand iX1_tryCommand eX1_tryCommand lkX1_59 (c_X1_tryCommand (by first | assumption | omega) (frB_gH hpe.1 hg) (frB_gS hpe.1 (by omega) hs) (by first | assumption | omega)) rfl (by decide) rfl rfl (by omega) (Nat.le_refl _) (Nat.le_refl _) (Nat.le_of_ble_eq_true rfl) dX1_bringsAll_49 ?_
              refine y_if_eqB C 69 dX1_bringsAll_52 (by decide) (fun h52 => ?_) (fun h52 => ?_)
              · rw [h52, if_neg (by decide)]
                obtain ⟨v1, ev1⟩ : ∃ y : Int, y = (e : Int) + 1 := ⟨_, rfl⟩
                refine z_iinc C 4 v1 [(4, .int (iI v1)), (0, .ref 38), (1, .ref 1), (2, .int (iI ((dd : Int)))), (3, .int (iI (((dd + (k + 1) : Nat) : Int))))] dX1_bringsAll_69 rfl ev1.symm (by decide) rfl ?_
                refine z_goto C 38 dX1_bringsAll_72 (by decide) ?_
                refine zZ_sub [1, 2, 3, 4, 0] rfl ?_
                refine zZ_cast rfl (zLk (zLk (zLk (zLk (zLc (by omega) rfl))))) rfl (kke I' ⟨hpe.1, optN_none hpe.2 (by rw [← hcn, h52]; rfl)⟩)
              · rw [if_pos h52]
                refine z_aload_n C 0 rfl dX1_bringsAll_55 rfl ?_
                refine z_aload_n C 1 rfl dX1_bringsAll_56 rfl ?_
                refine z_iload_n C 2 rfl dX1_bringsAll_57 rfl ?_
                refine z_iconst C dX1_bringsAll_58 ?_
                refine z_iadd C dX1_bringsAll_59 ?_
                refine z_iload_n C 3 rfl dX1_bringsAll_60 rfl ?_
                have hfr := hpe.1
                refine zZ_callS (as := [.ref 38, .ref 1, .int (iI ((dd : Int) + 1)), .int (iI ((dd + (k + 1) : Nat) : Int))]) C oX1_bringsAll sX1_bringsAll lkX1_63 (by
                  have hi := ih (dd + 1) (tryI I' J dd (e : Int)) (by omega) (frB_gH (frB_tr (Nat.le_refl dd) hfr (frB_try (by omega))) hg) (gS_sp_of (by rw [try_sp]; exact gP_turn (frB_gH hfr hg) (gP_of (frB_gS hfr (by omega) hs)) (by omega)))
                  rw [try_sp, frB_hv (J := J) (frB_tr (Nat.le_refl dd) hfr (frB_try (J := J) (c := (e : Int)) (by omega))), frB_hv hfr, frB_sp hfr (by omega), show dd + 1 + k = dd + (k + 1) by omega, show ((dd + 1 : Nat) : Int) = (dd : Int) + 1 by omega] at hi
                  exact hi) rfl (by omega) (Nat.le_refl _) (Nat.le_refl _) (Nat.le_of_ble_eq_true rfl) dX1_bringsAll_61 (fun r1 σ1 hq => ?_)
                obtain ⟨I2, rfl, rfl, hf2, hl2⟩ := hq
                obtain ⟨res, hres⟩ : ∃ res, res = brP (hv I J 1) k (turnS (hv I J 1) (spOf I (40 + 2 * dd)) (e : Int)) := ⟨_, rfl⟩
                rw [← hres] at hl2 ⊢
                have hf3 : frB I I2 dd := frB_tr (Nat.le_succ dd) (frB_tr (Nat.le_refl dd) hfr (frB_try (by omega))) hf2
                show zZ g X 0 0 (zst I2 J q) _ _ (.int (iI (bI res.isSome)) :: [])
                refine y_if_eqB C 69 dX1_bringsAll_64 (by decide) (fun h64 => ?_) (fun h64 => ?_)
                · obtain ⟨v2, ev2⟩ : ∃ y : Int, y = (e : Int) + 1 := ⟨_, rfl⟩
                  refine z_iinc C 4 v2 [(4, .int (iI v2)), (0, .ref 38), (1, .ref 1), (2, .int (iI ((dd : Int)))), (3, .int (iI (((dd + (k + 1) : Nat) : Int))))] dX1_bringsAll_69 rfl ev2.symm (by decide) rfl ?_
                  refine z_goto C 38 dX1_bringsAll_72 (by decide) ?_
                  refine zZ_sub [1, 2, 3, 4, 0] rfl ?_
                  refine zZ_cast rfl (zLk (zLk (zLk (zLk (zLc (by omega) rfl))))) rfl (kke I2 ⟨hf3, optN_none hpe.2 (by rw [← hcn, h52, if_pos rfl, ← hres]; revert h64; cases res with | none => exact fun _ => rfl | some l => exact fun z => nomatch z)⟩)
                · refine z_iconst C dX1_bringsAll_67 ?_
                  refine zZ_zret C hR (Nat.le_refl _) (Nat.le_refl _) dX1_bringsAll_68 rfl (Or.inr rfl) ?_
                  cases hr : res with
                  | none => rw [hr] at h64; cases h64
                  | some l =>
                    have hO := optN_some (n := 5) hee hpe.2 (x := (e : Int) :: l) (by rw [← hcn, h52, if_pos rfl, ← hres, hr]; rfl)
                    have hB : brP (hv I J 1) (k + 1) (spOf I (40 + 2 * dd)) = some ((e : Int) :: l) := by unfold brP; rw [if_neg h23']; exact hO
                    refine ⟨I2, rfl, by rw [hB]; rfl, hf3, fun l' hl' => ?_⟩
                    rw [hB] at hl'
                    cases hl'
                    intro j hj
                    cases j with
                    | zero => rw [Nat.add_zero, hf2.2 dd (by omega), try_54 (by omega)]; rfl
                    | succ j => rw [show dd + (j + 1) = dd + 1 + j by omega, hl2 l hr j (by simpa using hj)]; rfl
          · intro I' hpe
            refine z_iload C 4 rfl dX1_bringsAll_38 ?_
            refine z_iconst C dX1_bringsAll_40 ?_
            refine z_icmp_ge C 75 dX1_bringsAll_41 (by decide) (by omega) (by omega) (fun h41 => ?_) (fun h41 => ?_)
            · refine z_iconst C dX1_bringsAll_75 ?_
              refine zZ_zret C hR (Nat.le_refl _) (Nat.le_refl _) dX1_bringsAll_76 rfl (Or.inl rfl) ?_
              have hB : brP (hv I J 1) (k + 1) (spOf I (40 + 2 * dd)) = none := by unfold brP; rw [if_neg h23']; exact hpe.2
              exact ⟨I', rfl, by rw [hB]; rfl, hpe.1, fun l hl => by rw [hB] at hl; cases hl⟩
            · omega
        · omega
      · refine z_iconst C dX1_bringsAll_26 ?_
        refine zZ_zret C hR (Nat.le_refl _) (Nat.le_refl _) dX1_bringsAll_27 rfl (Or.inl rfl) ?_
        have hw : withinN (hv I J 1) (spOf I (40 + 2 * dd)).2.2 ((k + 1 : Nat) : Int) < (hv I J 1).2.2.2.1 := by have z := Int.not_le.mp h23; rw [show ((dd + (k + 1) : Nat) : Int) - (dd : Int) = ((k + 1 : Nat) : Int) by omega] at z; exact z
        exact ⟨I, rfl, by unfold brP; rw [if_pos hw]; rfl, frB_rf, fun l hl => by unfold brP at hl; rw [if_pos hw] at hl; cases hl⟩
