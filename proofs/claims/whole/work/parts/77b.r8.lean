set_option maxHeartbeats 4000000 in
set_option maxRecDepth 100000 in
theorem c_X6_brings {g : zG} {J : Nat → Nat → Int64} {q : Nat × Nat} : ∀ (k dd : Nat) (I : Nat → Nat → Int), dd + k ≤ 6 → gR I → gRS (spR I) → openN (I 58 0) (maskW (I 59)) (I 58 3) = true → zRuns g mX6_brings (8 + k) 0 0 [.ref 58, .int (iI (dd : Int)), .int (iI ((dd + k : Nat) : Int))] (zst I J q) (bgPost I J q dd (bgP (hvR I) k (spR I))) := by
  intro k
  induction k with
  | zero =>
    intro dd I hdk hgr hrs hdo
    obtain ⟨b1, b2, b3, b4, b5, b6, b7⟩ := id hgr
    obtain ⟨k1, k2, k3⟩ := id hrs
    have k1 : gC7 (I 58 3) := k1
    have k2 : 0 ≤ I 58 4 ∧ I 58 4 ≤ 4 := k2
    have k3 : ∀ e, e < 5 → gC7 (I 62 e) := k3
    have k1' := k1.1
    refine zRuns_intro rfl (Nat.le_of_ble_eq_true rfl) (fun X C hR => ?_)
    show zZ g X 0 0 _ 0 [(0, .ref 58), (1, .int (iI ((dd : Int)))), (2, .int (iI (((dd + 0 : Nat) : Int))))] []
    refine z_iload_n C 1 rfl dX6_brings_0 rfl ?_
    refine z_iload_n C 2 rfl dX6_brings_1 rfl ?_
    refine z_icmp_ne C 22 dX6_brings_2 (by decide) (by omega) (by omega) (fun h2 => ?_) (fun h2 => ?_)
    · omega
    · refine z_aload_n C 0 rfl dX6_brings_5 rfl ?_
      refine y_callV0 C oX6_in iX6_in eX6_in lkX6_135 (c_X6_in hgr hrs) rfl (by decide) rfl rfl (by decide) (Nat.le_refl _) (Nat.le_refl _) (Nat.le_of_ble_eq_true rfl) dX6_brings_6 ?_
      refine z_aload_n C 0 rfl dX6_brings_9 rfl ?_
      refine y_getI C zCl6 5 flX6_72 rfl rfl dX6_brings_10 ?_
      refine z_icmp_ne C 20 dX6_brings_13 (by decide) (by have := in_r hgr; omega) (by omega) (fun h13 => ?_) (fun h13 => ?_)
      · refine z_iconst C dX6_brings_20 ?_
        refine zZ_zret C hR (Nat.le_refl _) (Nat.le_refl _) dX6_brings_21 rfl (Or.inl rfl) ?_
        have hq : bgP (hvR I) 0 (spR I) = none := by unfold bgP; exact if_neg h13
        exact ⟨I, rfl, by rw [hq]; rfl, frG_rf, fun l hl => by rw [hq] at hl; cases hl⟩
      · refine z_iconst C dX6_brings_16 ?_
        refine z_goto C 21 dX6_brings_17 (by decide) ?_
        refine zZ_zret C hR (Nat.le_refl _) (Nat.le_refl _) dX6_brings_21 rfl (Or.inr rfl) ?_
        have hq : bgP (hvR I) 0 (spR I) = some [] := by unfold bgP; exact if_pos h13
        exact ⟨I, rfl, by rw [hq]; rfl, frG_rf, fun l hl => by rw [hq] at hl; cases hl; intro j hj; simp at hj⟩
  | succ k ih =>
    intro dd I hdk hgr hrs hdo
    obtain ⟨b1, b2, b3, b4, b5, b6, b7⟩ := id hgr
    obtain ⟨k1, k2, k3⟩ := id hrs
    have k1 : gC7 (I 58 3) := k1
    have k2 : 0 ≤ I 58 4 ∧ I 58 4 ≤ 4 := k2
    have k3 : ∀ e, e < 5 → gC7 (I 62 e) := k3
    have k1' := k1.1
    refine zRuns_intro rfl (Nat.le_of_ble_eq_true rfl) (fun X C hR => ?_)
    show zZ g X 0 0 _ 0 [(0, .ref 58), (1, .int (iI ((dd : Int)))), (2, .int (iI (((dd + (k + 1) : Nat) : Int))))] []
    refine z_iload_n C 1 rfl dX6_brings_0 rfl ?_
    refine z_iload_n C 2 rfl dX6_brings_1 rfl ?_
    refine z_icmp_ne C 22 dX6_brings_2 (by decide) (by omega) (by omega) (fun h2 => ?_) (fun h2 => ?_)
    · refine z_aload_n C 0 rfl dX6_brings_22 rfl ?_
      refine z_iload_n C 1 rfl dX6_brings_23 rfl ?_
      refine y_callV1 C oX6_saves iX6_saves eX6_saves lkX6_104 (c_X6_saves (by first | assumption | omega)) rfl (by decide) rfl rfl (by omega) (Nat.le_refl _) (Nat.le_refl _) (Nat.le_of_ble_eq_true rfl) dX6_brings_24 ?_
      refine z_iconst C dX6_brings_27 ?_
      refine z_istore_n C [(3, .int (iI 0)), (0, .ref 58), (1, .int (iI ((dd : Int)))), (2, .int (iI (((dd + (k + 1) : Nat) : Int))))] dX6_brings_28 rfl (by decide) rfl ?_
      refine zZ_sub [1, 2, 3, 0] rfl ?_
      refine zZ_cast (σ' := (fun (_ : Nat) (I' : Nat → Nat → Int) => zst I' J q) 0 (svI I dd (spR I))) (L' := (fun (e : Nat) (I' : Nat → Nat → Int) => [(0, .ref 58), (1, .int (iI ((dd : Int)))), (2, .int (iI (((dd + (k + 1) : Nat) : Int)))), (3, .int (iI (e : Int)))]) 0 (svI I dd (spR I))) rfl rfl rfl ?_
      refine zforE (5) (fun e I' => frG I I' dd ∧ svAt I' dd (spR I) ∧ optN (fun c => if canN (hvR I).1 (hvR I).2.1 (hvR I).2.2.1 (spR I).1 (c : Int) = true then (bgP (hvR I) k (turnS (hvR I) (spR I) (c : Int))).map (fun l => (c : Int) :: l) else none) e = none) (fun (_ : Nat) (I' : Nat → Nat → Int) => zst I' J q) (fun (e : Nat) (I' : Nat → Nat → Int) => [(0, .ref 58), (1, .int (iI ((dd : Int)))), (2, .int (iI (((dd + (k + 1) : Nat) : Int)))), (3, .int (iI (e : Int)))]) (svI I dd (spR I)) ⟨frG_sv, svAt_sv, rfl⟩ ?_ ?_
      · intro e I' hee hpe kke
        have hcn : canN (I' 58 0) (maskW (I' 59)) (I' 58 2) (I' 58 3) (e : Int) = canN (I 58 0) (maskW (I 59)) (I 58 2) (I 58 3) (e : Int) := by rw [hpe.1.1 58 (by decide) (by decide), hpe.1.1 59 (by decide) (by decide)]
        have hg' := frG_gR hpe.1 hgr
        have hs' := frG_sp hpe.1
        have hrt := gRS_turn hgr hrs (c := (e : Int)) (by omega)
        have hdt : openN (tryR I' dd (e : Int) (turnS (hvR I) (spR I) (e : Int)) 58 0) (maskW (tryR I' dd (e : Int) (turnS (hvR I) (spR I) (e : Int)) 59)) (tryR I' dd (e : Int) (turnS (hvR I) (spR I) (e : Int)) 58 3) = true := by
          unfold tryR
          rw [zRq_k (by decide) (by decide), zRq_n (by decide) (by decide), zRq_3, zu_ne (by decide), zu_ne (by decide), hpe.1.1 58 (by decide) (by decide), hpe.1.1 59 (by decide) (by decide)]
          exact gDO_c (H := hvR I) (p := spR I) hdo (by omega)
        refine z_iload_n C 3 rfl dX6_brings_29 rfl ?_
        refine z_iconst C dX6_brings_30 ?_
        refine z_icmp_ge C 85 dX6_brings_31 (by decide) (by omega) (by omega) (fun h31 => ?_) (fun h31 => ?_)
        · omega
        · refine z_aload_n C 0 rfl dX6_brings_34 rfl ?_
          refine z_iload_n C 3 rfl dX6_brings_35 rfl ?_
          refine y_callV1 C oX6_can iX6_can eX6_can lkX6_232 (c_X6_can hg' (by rw [hs']; exact hrs) (by first | assumption | omega)) rfl (by decide) rfl rfl (by omega) (Nat.le_refl _) (Nat.le_refl _) (Nat.le_of_ble_eq_true rfl) dX6_brings_36 ?_
          refine z_top C (bI (canN (I 58 0) (maskW (I 59)) (I 58 2) (I 58 3) (e : Int))) (by rw [hcn]) ?_
          refine y_if_neB C 45 dX6_brings_39 (by decide) (fun h39 => ?_) (fun h39 => ?_)
          · refine z_aload_n C 0 rfl dX6_brings_45 rfl ?_
            refine y_getR C zCl6 26 flX6_48 rfl rfl rfl dX6_brings_46 ?_
            refine z_iload_n C 1 rfl dX6_brings_49 rfl ?_
            refine z_iload_n C 3 rfl dX6_brings_50 rfl ?_
            refine y_iast C dd (by omega) rfl (by omega) (by decide) dX6_brings_51 ?_
            refine z_aload_n C 0 rfl dX6_brings_52 rfl ?_
            refine z_iload_n C 3 rfl dX6_brings_53 rfl ?_
            refine y_callV1 C oX6_goes iX6_goes eX6_goes lkX6_238 (c_X6_goes (show gR (zu I' 71 dd (e : Int)) from hg') (by rw [show spR (zu I' 71 dd (e : Int)) = spR I' from rfl, hs']; exact hrs) (by rw [zu_ne (by decide), zu_ne (by decide), hpe.1.1 58 (by decide) (by decide), hpe.1.1 59 (by decide) (by decide)]; exact hdo) (by first | assumption | omega)) rfl (by decide) rfl rfl (by omega) (Nat.le_refl _) (Nat.le_refl _) (Nat.le_of_ble_eq_true rfl) dX6_brings_54 ?_
            refine zZ_cast (σ' := zst (tryR I' dd (e : Int) (turnS (hvR I) (spR I) (e : Int))) J q)  (by refine congrArg (fun I' => zst I' J q) ?_; rw [show hvR (zu I' 71 dd (e : Int)) = hvR I' from rfl, show spR (zu I' 71 dd (e : Int)) = spR I' from rfl, hs', frG_hv hpe.1]; rfl) rfl rfl ?_
            refine z_aload_n C 0 rfl dX6_brings_57 rfl ?_
            refine z_iload_n C 1 rfl dX6_brings_58 rfl ?_
            refine z_iconst C dX6_brings_59 ?_
            refine z_iadd C dX6_brings_60 ?_
            refine z_iload_n C 2 rfl dX6_brings_61 rfl ?_
            have hi := ih (dd + 1) (tryR I' dd (e : Int) (turnS (hvR I) (spR I) (e : Int))) (by omega) (tryR_g (frG_gR hpe.1 hgr)) hrt hdt
            rw [tryR_hv, frG_hv hpe.1, show spR (tryR I' dd (e : Int) (turnS (hvR I) (spR I) (e : Int))) = turnS (hvR I) (spR I) (e : Int) from rfl, show dd + 1 + k = dd + (k + 1) by omega, show ((dd + 1 : Nat) : Int) = (dd : Int) + 1 by omega] at hi
            refine zZ_callV (as := [.int (iI ((dd : Int) + 1)), .int (iI ((dd + (k + 1) : Nat) : Int))]) C oX6_brings iX6_brings eX6_brings lkX6_241 rfl (by decide) rfl rfl hi rfl (by omega) (Nat.le_refl _) (Nat.le_refl _) (Nat.le_of_ble_eq_true rfl) dX6_brings_62 (fun r1 σ1 h => ?_)
            obtain ⟨I2, rfl, rfl, hf2, hl2⟩ := h
            obtain ⟨res, hres⟩ : ∃ res, res = bgP (hvR I) k (turnS (hvR I) (spR I) (e : Int)) := ⟨_, rfl⟩
            rw [← hres] at hl2 ⊢
            have hbk := frG_back hpe.1 hpe.2.1 hf2
            show zZ g X 0 0 (zst I2 J q) _ _ (.int (iI (bI res.isSome)) :: [])
            refine z_topI C (fun rs ers => ?_)
            have hb01 : 0 ≤ rs ∧ rs ≤ 1 := by rw [ers]; cases res.isSome <;> decide
            refine z_istore C [(4, .int (iI rs)), (0, .ref 58), (1, .int (iI ((dd : Int)))), (2, .int (iI (((dd + (k + 1) : Nat) : Int)))), (3, .int (iI ((e : Int))))] dX6_brings_65 (by decide) rfl ?_
            refine z_aload_n C 1 rfl dX6_brings_67 rfl ?_
            refine z_iload_n C 2 rfl dX6_brings_68 rfl ?_
            refine y_callV1 C oX6_again iX6_again eX6_again lkX6_111 (c_X6_again (by first | assumption | omega) hbk.2) rfl (by decide) rfl rfl (by omega) (Nat.le_refl _) (Nat.le_refl _) (Nat.le_of_ble_eq_true rfl) dX6_brings_69 ?_
            refine z_iload C 0 rfl dX6_brings_72 ?_
            refine z_if_eq C 79 dX6_brings_74 (by decide) (by omega) (fun h74 => ?_) (fun h74 => ?_)
            · obtain ⟨v1, ev1⟩ : ∃ y : Int, y = (e : Int) + 1 := ⟨_, rfl⟩
              refine z_iinc C 4 v1 [(3, .int (iI v1)), (4, .int (iI rs)), (0, .ref 58), (1, .int (iI ((dd : Int)))), (2, .int (iI (((dd + (k + 1) : Nat) : Int))))] dX6_brings_79 rfl ev1.symm (by decide) rfl ?_
              refine z_goto C 29 dX6_brings_82 (by decide) ?_
              refine zZ_sub [2, 3, 4, 0] rfl ?_
              refine zZ_cast rfl (zLk (zLk (zLk (zLc (by omega) rfl)))) rfl (kke (zRq I2 (spR I)) ⟨hbk.1, svAt_q hbk.2, optN_none hpe.2.2 (by rw [show canN (hvR I).1 (hvR I).2.1 (hvR I).2.2.1 (spR I).1 (e : Int) = true from h39, if_pos rfl, ← hres]; revert h74; rw [ers]; cases res; exact fun _ => rfl; exact fun z => absurd z (show ¬ ((1 : Int) = 0) by decide))⟩)
            · refine z_iconst C dX6_brings_77 ?_
              refine zZ_zret C hR (Nat.le_refl _) (Nat.le_refl _) dX6_brings_78 rfl (Or.inr rfl) ?_
              cases hr : res with
              | none => rw [ers, hr] at h74; exact absurd rfl h74
              | some l =>
                have hB : bgP (hvR I) (k + 1) (spR I) = some ((e : Int) :: l) := by unfold bgP; exact optN_some (n := 5) hee hpe.2.2 (x := (e : Int) :: l) (by rw [show canN (hvR I).1 (hvR I).2.1 (hvR I).2.2.1 (spR I).1 (e : Int) = true from h39, if_pos rfl, ← hres, hr]; rfl)
                refine ⟨zRq I2 (spR I), rfl, by rw [hB]; rfl, hbk.1, fun l' hl' => ?_⟩
                rw [hB] at hl'
                cases hl'
                intro j hj
                rw [zRq_n (by decide) (by decide)]
                cases j with
                | zero => rw [Nat.add_zero, tryR_71 hf2]; rfl
                | succ j => rw [show dd + (j + 1) = dd + 1 + j by omega, hl2 l hr j (by simpa using hj)]; rfl
          · refine z_goto C 79 dX6_brings_42 (by decide) ?_
            obtain ⟨v2, ev2⟩ : ∃ y : Int, y = (e : Int) + 1 := ⟨_, rfl⟩
            refine z_iinc C 3 v2 [(3, .int (iI v2)), (0, .ref 58), (1, .int (iI ((dd : Int)))), (2, .int (iI (((dd + (k + 1) : Nat) : Int))))] dX6_brings_79 rfl ev2.symm (by decide) rfl ?_
            refine z_goto C 29 dX6_brings_82 (by decide) ?_
            refine zZ_sub [1, 2, 3, 0] rfl ?_
            refine zZ_cast rfl (zLk (zLk (zLk (zLc (by omega) rfl)))) rfl (kke I' ⟨hpe.1, hpe.2.1, optN_none hpe.2.2 (if_neg (fun z => absurd (z.symm.trans (show canN (hvR I).1 (hvR I).2.1 (hvR I).2.2.1 (spR I).1 (e : Int) = false from h39)) (by decide)))⟩)
      · intro I' hpe
        refine z_iload_n C 3 rfl dX6_brings_29 rfl ?_
        refine z_iconst C dX6_brings_30 ?_
        refine z_icmp_ge C 85 dX6_brings_31 (by decide) (by omega) (by omega) (fun h31 => ?_) (fun h31 => ?_)
        · refine z_iconst C dX6_brings_85 ?_
          refine zZ_zret C hR (Nat.le_refl _) (Nat.le_refl _) dX6_brings_86 rfl (Or.inl rfl) ?_
          have hB : bgP (hvR I) (k + 1) (spR I) = none := by unfold bgP; exact hpe.2.2
          exact ⟨I', rfl, by rw [hB]; rfl, hpe.1, fun l hl => by rw [hB] at hl; cases hl⟩
        · omega
    · omega
