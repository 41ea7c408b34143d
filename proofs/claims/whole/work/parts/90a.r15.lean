set_option maxHeartbeats 4000000 in
set_option maxRecDepth 100000 in
theorem c_X6_bare {g : zG} {I : Nat → Nat → Int} {J : Nat → Nat → Int64} {q : Nat × Nat}  (hgr : gR I) (hrs : gRS (spR I)) : zRun g mX6_bare 1 [.ref 58] (zst I J q) (some (.int (iI (bareG (occ I) (I 58 0).toNat (I 58 0).toNat)))) (zst I J q) := by
  obtain ⟨b1, b2, b3, b4, b5, b6, b7⟩ := id hgr
  obtain ⟨k1, k2, k3⟩ := id hrs
  have k1 : gC7 (I 58 3) := k1
  have k2 : 0 ≤ I 58 4 ∧ I 58 4 ≤ 4 := k2
  have k3 : ∀ e, e < 5 → gC7 (I 62 e) := k3
  have k1' := k1.1
  have b2' := b2.1
  obtain ⟨sd, hsd⟩ : ∃ n : Nat, I 58 0 = n := ⟨(I 58 0).toNat, by omega⟩
  have hsd2 : (I 58 0).toNat = sd := by omega
  rw [hsd2]
  obtain ⟨O, hO⟩ : ∃ O, O = occ I := ⟨_, rfl⟩
  rw [← hO]
  refine zRuns_intro rfl (Nat.le_of_ble_eq_true rfl) (fun X C hR => ?_)
  show zZ g X 0 0 _ 0 [(0, .ref 58)] []
  refine z_iconst C dX6_bare_0 ?_
  refine z_istore_n C [(1, .int (iI 0)), (0, .ref 58)] dX6_bare_1 rfl (by decide) rfl ?_
  refine z_iconst C dX6_bare_2 ?_
  refine z_istore_n C [(2, .int (iI 0)), (1, .int (iI 0)), (0, .ref 58)] dX6_bare_3 rfl (by decide) rfl ?_
  refine zZ_sub [2, 1, 0] rfl ?_
  refine zZ_cast (σ' := (fun _ : Nat => zst I J q) 0) (L' := (fun r : Nat => [(0, .ref 58), (1, .int (iI (bareG O sd r))), (2, .int (iI (r : Int)))]) 0) rfl rfl rfl ?_
  refine zfor (sd) (fun _ => True) (fun _ : Nat => zst I J q) (fun r : Nat => [(0, .ref 58), (1, .int (iI (bareG O sd r))), (2, .int (iI (r : Int)))]) trivial ?_ ?_
  · intro r her hpr kkr
    obtain ⟨bg, hbg⟩ : ∃ bg, bg = bareG O sd r := ⟨_, rfl⟩
    rw [← hbg]
    refine z_iload_n C 2 rfl dX6_bare_4 rfl ?_
    refine z_aload_n C 0 rfl dX6_bare_5 rfl ?_
    refine y_getI C zCl6 0 flX6_57 rfl rfl dX6_bare_6 ?_
    refine z_icmp_ge C 128 dX6_bare_9 (by decide) (by omega) (by omega) (fun h9 => ?_) (fun h9 => ?_)
    · omega
    · refine z_iconst C dX6_bare_12 ?_
      refine z_istore_n C [(3, .int (iI 1)), (0, .ref 58), (1, .int (iI bg)), (2, .int (iI ((r : Int))))] dX6_bare_13 rfl (by decide) rfl ?_
      refine z_iconst C dX6_bare_14 ?_
      refine z_istore C [(4, .int (iI 1)), (3, .int (iI 1)), (0, .ref 58), (1, .int (iI bg)), (2, .int (iI ((r : Int))))] dX6_bare_15 (by decide) rfl ?_
      refine z_iconst C dX6_bare_17 ?_
      refine z_istore C [(5, .int (iI 0)), (4, .int (iI 1)), (3, .int (iI 1)), (0, .ref 58), (1, .int (iI bg)), (2, .int (iI ((r : Int))))] dX6_bare_18 (by decide) rfl ?_
      refine zZ_sub [3, 4, 5, 2, 1, 0] rfl ?_
      refine zZ_cast (σ' := (fun _ : Nat => zst I J q) 0) (L' := (fun e : Nat => [(0, .ref 58), (1, .int (iI bg)), (2, .int (iI ((r : Int)))), (3, .int (iI (okV 1 (fun j => O (10 * r + j)) e))), (4, .int (iI (okV 1 (fun j => O (10 * j + r)) e))), (5, .int (iI (e : Int)))]) 0) rfl rfl rfl ?_
      refine zfor (sd) (fun _ => True) (fun _ : Nat => zst I J q) (fun e : Nat => [(0, .ref 58), (1, .int (iI bg)), (2, .int (iI ((r : Int)))), (3, .int (iI (okV 1 (fun j => O (10 * r + j)) e))), (4, .int (iI (okV 1 (fun j => O (10 * j + r)) e))), (5, .int (iI (e : Int)))]) trivial ?_ ?_
      · intro e hee hpe kke
        have hw1 := b7 (10 * r + e) (by omega)
        have hw2 := b7 (10 * e + r) (by omega)
        refine z_iload C 5 rfl dX6_bare_20 ?_
        refine z_aload_n C 0 rfl dX6_bare_22 rfl ?_
        refine y_getI C zCl6 0 flX6_57 rfl rfl dX6_bare_23 ?_
        refine z_icmp_ge C 98 dX6_bare_26 (by decide) (by omega) (by omega) (fun h26 => ?_) (fun h26 => ?_)
        · omega
        · refine z_aload_n C 0 rfl dX6_bare_29 rfl ?_
          refine y_getR C zCl6 1 flX6_7 rfl rfl rfl dX6_bare_30 ?_
          refine z_bipush C dX6_bare_33 (by decide) ?_
          refine z_iload_n C 2 rfl dX6_bare_35 rfl ?_
          refine z_imul C dX6_bare_36 ?_
          refine z_iload C 5 rfl dX6_bare_37 ?_
          refine z_iadd C dX6_bare_39 ?_
          refine y_zald C (10 * r + e) (by omega) rfl (by omega) (by decide) dX6_bare_40 ?_
          refine z_if_ne C 58 dX6_bare_41 (by decide) (by omega) (fun h41 => ?_) (fun h41 => ?_)
          · refine z_iconst C dX6_bare_58 ?_
            refine z_istore_n C [(3, .int (iI 0)), (0, .ref 58), (1, .int (iI bg)), (2, .int (iI ((r : Int)))), (4, .int (iI ((okV 1 (fun j => O (10 * j + r)) e)))), (5, .int (iI ((e : Int))))] dX6_bare_59 rfl (by decide) rfl ?_
            refine z_aload_n C 1 rfl dX6_bare_60 rfl ?_
            refine y_getR C zCl6 1 flX6_7 rfl rfl rfl dX6_bare_61 ?_
            refine z_bipush C dX6_bare_64 (by decide) ?_
            refine z_iload C 5 rfl dX6_bare_66 ?_
            refine z_imul C dX6_bare_68 ?_
            refine z_iload_n C 3 rfl dX6_bare_69 rfl ?_
            refine z_iadd C dX6_bare_70 ?_
            refine y_zald C (10 * e + r) (by omega) rfl (by omega) (by decide) dX6_bare_71 ?_
            refine z_if_ne C 89 dX6_bare_72 (by decide) (by omega) (fun h72 => ?_) (fun h72 => ?_)
            · refine z_iconst C dX6_bare_89 ?_
              refine z_istore C [(4, .int (iI 0)), (3, .int (iI 0)), (0, .ref 58), (1, .int (iI bg)), (2, .int (iI ((r : Int)))), (5, .int (iI ((e : Int))))] dX6_bare_90 (by decide) rfl ?_
              obtain ⟨v1, ev1⟩ : ∃ y : Int, y = (e : Int) + 1 := ⟨_, rfl⟩
              refine z_iinc C 5 v1 [(5, .int (iI v1)), (4, .int (iI 0)), (3, .int (iI 0)), (0, .ref 58), (1, .int (iI bg)), (2, .int (iI ((r : Int))))] dX6_bare_92 rfl ev1.symm (by decide) rfl ?_
              refine z_goto C 20 dX6_bare_95 (by decide) ?_
              refine zZ_sub [3, 4, 5, 2, 1, 0] rfl ?_
              refine zZ_cast rfl (zLk (zLk (zLk (zLc (okV_f (by simp only [hO]; exact occ_w (by omega))) (zLc (okV_f (by simp only [hO]; exact occ_w (by omega))) (zLc (by omega) rfl)))))) rfl (kke trivial)
            · refine z_aload_n C 1 rfl dX6_bare_75 rfl ?_
              refine z_bipush C dX6_bare_76 (by decide) ?_
              refine z_iload C 5 rfl dX6_bare_78 ?_
              refine z_imul C dX6_bare_80 ?_
              refine z_iload_n C 3 rfl dX6_bare_81 rfl ?_
              refine z_iadd C dX6_bare_82 ?_
              refine y_callV1 C oX6_isEweAt iX6_isEweAt eX6_isEweAt lkX6_125 (c_X6_isEweAt hgr hrs (by first | assumption | omega)) rfl (by decide) rfl rfl (by decide) (Nat.le_refl _) (Nat.le_refl _) (Nat.le_of_ble_eq_true rfl) dX6_bare_83 ?_
              refine y_if_eqB C 92 dX6_bare_86 (by decide) (fun h86 => ?_) (fun h86 => ?_)
              · obtain ⟨v2, ev2⟩ : ∃ y : Int, y = (e : Int) + 1 := ⟨_, rfl⟩
                refine z_iinc C 5 v2 [(5, .int (iI v2)), (3, .int (iI 0)), (0, .ref 58), (1, .int (iI bg)), (2, .int (iI ((r : Int)))), (4, .int (iI ((okV 1 (fun j => O (10 * j + r)) e))))] dX6_bare_92 rfl ev2.symm (by decide) rfl ?_
                refine z_goto C 20 dX6_bare_95 (by decide) ?_
                refine zZ_sub [2, 3, 4, 1, 5, 0] rfl ?_
                refine zZ_cast rfl (zLk (zLk (zLk (zLc (okV_f (by simp only [hO]; exact occ_w (by omega))) (zLc (okV_t (by simp only [hO]; exact occ_e (by omega) (by omega) h86)) (zLc (by omega) rfl)))))) rfl (kke trivial)
              · refine z_iconst C dX6_bare_89 ?_
                refine z_istore C [(4, .int (iI 0)), (3, .int (iI 0)), (0, .ref 58), (1, .int (iI bg)), (2, .int (iI ((r : Int)))), (5, .int (iI ((e : Int))))] dX6_bare_90 (by decide) rfl ?_
                obtain ⟨v3, ev3⟩ : ∃ y : Int, y = (e : Int) + 1 := ⟨_, rfl⟩
                refine z_iinc C 5 v3 [(5, .int (iI v3)), (4, .int (iI 0)), (3, .int (iI 0)), (0, .ref 58), (1, .int (iI bg)), (2, .int (iI ((r : Int))))] dX6_bare_92 rfl ev3.symm (by decide) rfl ?_
                refine z_goto C 20 dX6_bare_95 (by decide) ?_
                refine zZ_sub [3, 4, 5, 2, 1, 0] rfl ?_
                refine zZ_cast rfl (zLk (zLk (zLk (zLc (okV_f (by simp only [hO]; exact occ_w (by omega))) (zLc (okV_f (by simp only [hO]; exact occ_e (by omega) (by omega) h86)) (zLc (by omega) rfl)))))) rfl (kke trivial)
          · refine z_aload_n C 0 rfl dX6_bare_44 rfl ?_
            refine z_bipush C dX6_bare_45 (by decide) ?_
            refine z_iload_n C 2 rfl dX6_bare_47 rfl ?_
            refine z_imul C dX6_bare_48 ?_
            refine z_iload C 5 rfl dX6_bare_49 ?_
            refine z_iadd C dX6_bare_51 ?_
            refine y_callV1 C oX6_isEweAt iX6_isEweAt eX6_isEweAt lkX6_125 (c_X6_isEweAt hgr hrs (by first | assumption | omega)) rfl (by decide) rfl rfl (by decide) (Nat.le_refl _) (Nat.le_refl _) (Nat.le_of_ble_eq_true rfl) dX6_bare_52 ?_
            refine y_if_eqB C 60 dX6_bare_55 (by decide) (fun h55 => ?_) (fun h55 => ?_)
            · refine z_aload_n C 0 rfl dX6_bare_60 rfl ?_
              refine y_getR C zCl6 1 flX6_7 rfl rfl rfl dX6_bare_61 ?_
              refine z_bipush C dX6_bare_64 (by decide) ?_
              refine z_iload C 5 rfl dX6_bare_66 ?_
              refine z_imul C dX6_bare_68 ?_
              refine z_iload_n C 2 rfl dX6_bare_69 rfl ?_
              refine z_iadd C dX6_bare_70 ?_
              refine y_zald C (10 * e + r) (by omega) rfl (by omega) (by decide) dX6_bare_71 ?_
              refine z_if_ne C 89 dX6_bare_72 (by decide) (by omega) (fun h72 => ?_) (fun h72 => ?_)
              · refine z_iconst C dX6_bare_89 ?_
                refine z_istore C [(4, .int (iI 0)), (0, .ref 58), (1, .int (iI bg)), (2, .int (iI ((r : Int)))), (3, .int (iI ((okV 1 (fun j => O (10 * r + j)) e)))), (5, .int (iI ((e : Int))))] dX6_bare_90 (by decide) rfl ?_
                obtain ⟨v4, ev4⟩ : ∃ y : Int, y = (e : Int) + 1 := ⟨_, rfl⟩
                refine z_iinc C 5 v4 [(5, .int (iI v4)), (4, .int (iI 0)), (0, .ref 58), (1, .int (iI bg)), (2, .int (iI ((r : Int)))), (3, .int (iI ((okV 1 (fun j => O (10 * r + j)) e))))] dX6_bare_92 rfl ev4.symm (by decide) rfl ?_
                refine z_goto C 20 dX6_bare_95 (by decide) ?_
                refine zZ_sub [2, 3, 4, 5, 1, 0] rfl ?_
                refine zZ_cast rfl (zLk (zLk (zLk (zLc (okV_t (by simp only [hO]; exact occ_e (by omega) (by omega) h55)) (zLc (okV_f (by simp only [hO]; exact occ_w (by omega))) (zLc (by omega) rfl)))))) rfl (kke trivial)
              · refine z_aload_n C 0 rfl dX6_bare_75 rfl ?_
                refine z_bipush C dX6_bare_76 (by decide) ?_
                refine z_iload C 5 rfl dX6_bare_78 ?_
                refine z_imul C dX6_bare_80 ?_
                refine z_iload_n C 2 rfl dX6_bare_81 rfl ?_
                refine z_iadd C dX6_bare_82 ?_
                refine y_callV1 C oX6_isEweAt iX6_isEweAt eX6_isEweAt lkX6_125 (c_X6_isEweAt hgr hrs (by first | assumption | omega)) rfl (by decide) rfl rfl (by decide) (Nat.le_refl _) (Nat.le_refl _) (Nat.le_of_ble_eq_true rfl) dX6_bare_83 ?_
                refine y_if_eqB C 92 dX6_bare_86 (by decide) (fun h86 => ?_) (fun h86 => ?_)
                · obtain ⟨v5, ev5⟩ : ∃ y : Int, y = (e : Int) + 1 := ⟨_, rfl⟩
                  refine z_iinc C 5 v5 [(5, .int (iI v5)), (0, .ref 58), (1, .int (iI bg)), (2, .int (iI ((r : Int)))), (3, .int (iI ((okV 1 (fun j => O (10 * r + j)) e)))), (4, .int (iI ((okV 1 (fun j => O (10 * j + r)) e))))] dX6_bare_92 rfl ev5.symm (by decide) rfl ?_
                  refine z_goto C 20 dX6_bare_95 (by decide) ?_
                  refine zZ_sub [1, 2, 3, 4, 5, 0] rfl ?_
                  refine zZ_cast rfl (zLk (zLk (zLk (zLc (okV_t (by simp only [hO]; exact occ_e (by omega) (by omega) h55)) (zLc (okV_t (by simp only [hO]; exact occ_e (by omega) (by omega) h86)) (zLc (by omega) rfl)))))) rfl (kke trivial)
                · refine z_iconst C dX6_bare_89 ?_
                  refine z_istore C [(4, .int (iI 0)), (0, .ref 58), (1, .int (iI bg)), (2, .int (iI ((r : Int)))), (3, .int (iI ((okV 1 (fun j => O (10 * r + j)) e)))), (5, .int (iI ((e : Int))))] dX6_bare_90 (by decide) rfl ?_
                  obtain ⟨v6, ev6⟩ : ∃ y : Int, y = (e : Int) + 1 := ⟨_, rfl⟩
                  refine z_iinc C 5 v6 [(5, .int (iI v6)), (4, .int (iI 0)), (0, .ref 58), (1, .int (iI bg)), (2, .int (iI ((r : Int)))), (3, .int (iI ((okV 1 (fun j => O (10 * r + j)) e))))] dX6_bare_92 rfl ev6.symm (by decide) rfl ?_
                  refine z_goto C 20 dX6_bare_95 (by decide) ?_
                  refine zZ_sub [2, 3, 4, 5, 1, 0] rfl ?_
                  refine zZ_cast rfl (zLk (zLk (zLk (zLc (okV_t (by simp only [hO]; exact occ_e (by omega) (by omega) h55)) (zLc (okV_f (by simp only [hO]; exact occ_e (by omega) (by omega) h86)) (zLc (by omega) rfl)))))) rfl (kke trivial)
            · refine z_iconst C dX6_bare_58 ?_
              refine z_istore_n C [(3, .int (iI 0)), (0, .ref 58), (1, .int (iI bg)), (2, .int (iI ((r : Int)))), (4, .int (iI ((okV 1 (fun j => O (10 * j + r)) e)))), (5, .int (iI ((e : Int))))] dX6_bare_59 rfl (by decide) rfl ?_
              refine z_aload_n C 1 rfl dX6_bare_60 rfl ?_
              refine y_getR C zCl6 1 flX6_7 rfl rfl rfl dX6_bare_61 ?_
              refine z_bipush C dX6_bare_64 (by decide) ?_
              refine z_iload C 5 rfl dX6_bare_66 ?_
              refine z_imul C dX6_bare_68 ?_
              refine z_iload_n C 3 rfl dX6_bare_69 rfl ?_
              refine z_iadd C dX6_bare_70 ?_
              refine y_zald C (10 * e + r) (by omega) rfl (by omega) (by decide) dX6_bare_71 ?_
              refine z_if_ne C 89 dX6_bare_72 (by decide) (by omega) (fun h72 => ?_) (fun h72 => ?_)
              · refine z_iconst C dX6_bare_89 ?_
                refine z_istore C [(4, .int (iI 0)), (3, .int (iI 0)), (0, .ref 58), (1, .int (iI bg)), (2, .int (iI ((r : Int)))), (5, .int (iI ((e : Int))))] dX6_bare_90 (by decide) rfl ?_
                obtain ⟨v7, ev7⟩ : ∃ y : Int, y = (e : Int) + 1 := ⟨_, rfl⟩
                refine z_iinc C 5 v7 [(5, .int (iI v7)), (4, .int (iI 0)), (3, .int (iI 0)), (0, .ref 58), (1, .int (iI bg)), (2, .int (iI ((r : Int))))] dX6_bare_92 rfl ev7.symm (by decide) rfl ?_
                refine z_goto C 20 dX6_bare_95 (by decide) ?_
                refine zZ_sub [3, 4, 5, 2, 1, 0] rfl ?_
                refine zZ_cast rfl (zLk (zLk (zLk (zLc (okV_f (by simp only [hO]; exact occ_e (by omega) (by omega) h55)) (zLc (okV_f (by simp only [hO]; exact occ_w (by omega))) (zLc (by omega) rfl)))))) rfl (kke trivial)
              · refine z_aload_n C 1 rfl dX6_bare_75 rfl ?_
                refine z_bipush C dX6_bare_76 (by decide) ?_
                refine z_iload C 5 rfl dX6_bare_78 ?_
                refine z_imul C dX6_bare_80 ?_
                refine z_iload_n C 3 rfl dX6_bare_81 rfl ?_
                refine z_iadd C dX6_bare_82 ?_
                refine y_callV1 C oX6_isEweAt iX6_isEweAt eX6_isEweAt lkX6_125 (c_X6_isEweAt hgr hrs (by first | assumption | omega)) rfl (by decide) rfl rfl (by decide) (Nat.le_refl _) (Nat.le_refl _) (Nat.le_of_ble_eq_true rfl) dX6_bare_83 ?_
                refine y_if_eqB C 92 dX6_bare_86 (by decide) (fun h86 => ?_) (fun h86 => ?_)
                · obtain ⟨v8, ev8⟩ : ∃ y : Int, y = (e : Int) + 1 := ⟨_, rfl⟩
                  refine z_iinc C 5 v8 [(5, .int (iI v8)), (3, .int (iI 0)), (0, .ref 58), (1, .int (iI bg)), (2, .int (iI ((r : Int)))), (4, .int (iI ((okV 1 (fun j => O (10 * j + r)) e))))] dX6_bare_92 rfl ev8.symm (by decide) rfl ?_
                  refine z_goto C 20 dX6_bare_95 (by decide) ?_
                  refine zZ_sub [2, 3, 4, 1, 5, 0] rfl ?_
                  refine zZ_cast rfl (zLk (zLk (zLk (zLc (okV_f (by simp only [hO]; exact occ_e (by omega) (by omega) h55)) (zLc (okV_t (by simp only [hO]; exact occ_e (by omega) (by omega) h86)) (zLc (by omega) rfl)))))) rfl (kke trivial)
                · refine z_iconst C dX6_bare_89 ?_
                  refine z_istore C [(4, .int (iI 0)), (3, .int (iI 0)), (0, .ref 58), (1, .int (iI bg)), (2, .int (iI ((r : Int)))), (5, .int (iI ((e : Int))))] dX6_bare_90 (by decide) rfl ?_
                  obtain ⟨v9, ev9⟩ : ∃ y : Int, y = (e : Int) + 1 := ⟨_, rfl⟩
                  refine z_iinc C 5 v9 [(5, .int (iI v9)), (4, .int (iI 0)), (3, .int (iI 0)), (0, .ref 58), (1, .int (iI bg)), (2, .int (iI ((r : Int))))] dX6_bare_92 rfl ev9.symm (by decide) rfl ?_
                  refine z_goto C 20 dX6_bare_95 (by decide) ?_
                  refine zZ_sub [3, 4, 5, 2, 1, 0] rfl ?_
                  refine zZ_cast rfl (zLk (zLk (zLk (zLc (okV_f (by simp only [hO]; exact occ_e (by omega) (by omega) h55)) (zLc (okV_f (by simp only [hO]; exact occ_e (by omega) (by omega) h86)) (zLc (by omega) rfl)))))) rfl (kke trivial)
      · intro hpe
        have hr1 := okV_r (P := (fun j => O (10 * r + j))) (n := sd)
        have hr2 := okV_r (P := (fun j => O (10 * j + r))) (n := sd)
        refine z_iload C 5 rfl dX6_bare_20 ?_
        refine z_aload_n C 0 rfl dX6_bare_22 rfl ?_
        refine y_getI C zCl6 0 flX6_57 rfl rfl dX6_bare_23 ?_
        refine z_icmp_ge C 98 dX6_bare_26 (by decide) (by omega) (by omega) (fun h26 => ?_) (fun h26 => ?_)
        · refine z_iload_n C 3 rfl dX6_bare_98 rfl ?_
          refine z_if_eq C 108 dX6_bare_99 (by decide) (by omega) (fun h99 => ?_) (fun h99 => ?_)
          · refine z_iload C 4 rfl dX6_bare_108 ?_
            refine z_if_eq C 122 dX6_bare_110 (by decide) (by omega) (fun h110 => ?_) (fun h110 => ?_)
            · obtain ⟨v10, ev10⟩ : ∃ y : Int, y = (r : Int) + 1 := ⟨_, rfl⟩
              refine z_iinc C 2 v10 [(2, .int (iI v10)), (0, .ref 58), (1, .int (iI bg)), (3, .int (iI ((okV 1 (fun j => O (10 * r + j)) sd)))), (4, .int (iI ((okV 1 (fun j => O (10 * j + r)) sd)))), (5, .int (iI ((sd : Int))))] dX6_bare_122 rfl ev10.symm (by decide) rfl ?_
              refine z_goto C 4 dX6_bare_125 (by decide) ?_
              refine zZ_sub [1, 2, 0] rfl ?_
              refine zZ_cast rfl (zLk (zLc (by simp only [bareG]; rw [← hbg, if_neg (rw_n h99), if_neg (cl_n h110)]) (zLc (by omega) rfl))) rfl (kkr trivial)
            · refine z_iload_n C 1 rfl dX6_bare_113 rfl ?_
              refine z_iconst C dX6_bare_114 ?_
              refine z_bipush C dX6_bare_115 (by decide) ?_
              refine z_iload_n C 2 rfl dX6_bare_117 rfl ?_
              refine z_iadd C dX6_bare_118 ?_
              refine z_ishl C ((2 ^ (7 + r) : Nat) : Int) dX6_bare_119 (by rw [show (7 : Int) + (r : Int) = ((7 + r : Nat) : Int) by omega]; exact iI_sh1 (by omega)) ?_
              refine z_ior C (orN bg ((2 ^ (7 + r) : Nat) : Int)) dX6_bare_120 (iI_of _) ?_
              refine z_istore_n C [(1, .int (iI ((orN bg ((2 ^ (7 + r) : Nat) : Int))))), (0, .ref 58), (2, .int (iI ((r : Int)))), (3, .int (iI ((okV 1 (fun j => O (10 * r + j)) sd)))), (4, .int (iI ((okV 1 (fun j => O (10 * j + r)) sd)))), (5, .int (iI ((sd : Int))))] dX6_bare_121 rfl (by decide) rfl ?_
              obtain ⟨v11, ev11⟩ : ∃ y : Int, y = (r : Int) + 1 := ⟨_, rfl⟩
              refine z_iinc C 2 v11 [(2, .int (iI v11)), (1, .int (iI ((orN bg ((2 ^ (7 + r) : Nat) : Int))))), (0, .ref 58), (3, .int (iI ((okV 1 (fun j => O (10 * r + j)) sd)))), (4, .int (iI ((okV 1 (fun j => O (10 * j + r)) sd)))), (5, .int (iI ((sd : Int))))] dX6_bare_122 rfl ev11.symm (by decide) rfl ?_
              refine z_goto C 4 dX6_bare_125 (by decide) ?_
              refine zZ_sub [2, 1, 0] rfl ?_
              refine zZ_cast rfl (zLk (zLc (by simp only [bareG]; rw [← hbg, if_neg (rw_n h99), if_pos (cl_p h110)]) (zLc (by omega) rfl))) rfl (kkr trivial)
          · refine z_iload_n C 1 rfl dX6_bare_102 rfl ?_
            refine z_iconst C dX6_bare_103 ?_
            refine z_iload_n C 2 rfl dX6_bare_104 rfl ?_
            refine z_ishl C ((2 ^ r : Nat) : Int) dX6_bare_105 (iI_sh1 (by omega)) ?_
            refine z_ior C (orN bg ((2 ^ r : Nat) : Int)) dX6_bare_106 (iI_of _) ?_
            refine z_istore_n C [(1, .int (iI ((orN bg ((2 ^ r : Nat) : Int))))), (0, .ref 58), (2, .int (iI ((r : Int)))), (3, .int (iI ((okV 1 (fun j => O (10 * r + j)) sd)))), (4, .int (iI ((okV 1 (fun j => O (10 * j + r)) sd)))), (5, .int (iI ((sd : Int))))] dX6_bare_107 rfl (by decide) rfl ?_
            refine z_iload C 4 rfl dX6_bare_108 ?_
            refine z_if_eq C 122 dX6_bare_110 (by decide) (by omega) (fun h110 => ?_) (fun h110 => ?_)
            · obtain ⟨v12, ev12⟩ : ∃ y : Int, y = (r : Int) + 1 := ⟨_, rfl⟩
              refine z_iinc C 2 v12 [(2, .int (iI v12)), (1, .int (iI ((orN bg ((2 ^ r : Nat) : Int))))), (0, .ref 58), (3, .int (iI ((okV 1 (fun j => O (10 * r + j)) sd)))), (4, .int (iI ((okV 1 (fun j => O (10 * j + r)) sd)))), (5, .int (iI ((sd : Int))))] dX6_bare_122 rfl ev12.symm (by decide) rfl ?_
              refine z_goto C 4 dX6_bare_125 (by decide) ?_
              refine zZ_sub [2, 1, 0] rfl ?_
              refine zZ_cast rfl (zLk (zLc (by simp only [bareG]; rw [← hbg, if_pos (rw_p h99), if_neg (cl_n h110)]) (zLc (by omega) rfl))) rfl (kkr trivial)
            · refine z_iload_n C 0 rfl dX6_bare_113 rfl ?_
              refine z_iconst C dX6_bare_114 ?_
              refine z_bipush C dX6_bare_115 (by decide) ?_
              refine z_iload_n C 2 rfl dX6_bare_117 rfl ?_
              refine z_iadd C dX6_bare_118 ?_
              refine z_ishl C ((2 ^ (7 + r) : Nat) : Int) dX6_bare_119 (by rw [show (7 : Int) + (r : Int) = ((7 + r : Nat) : Int) by omega]; exact iI_sh1 (by omega)) ?_
              refine z_ior C (orN (orN bg ((2 ^ r : Nat) : Int)) ((2 ^ (7 + r) : Nat) : Int)) dX6_bare_120 (iI_of _) ?_
              refine z_istore_n C [(1, .int (iI ((orN (orN bg ((2 ^ r : Nat) : Int)) ((2 ^ (7 + r) : Nat) : Int))))), (0, .ref 58), (2, .int (iI ((r : Int)))), (3, .int (iI ((okV 1 (fun j => O (10 * r + j)) sd)))), (4, .int (iI ((okV 1 (fun j => O (10 * j + r)) sd)))), (5, .int (iI ((sd : Int))))] dX6_bare_121 rfl (by decide) rfl ?_
              obtain ⟨v13, ev13⟩ : ∃ y : Int, y = (r : Int) + 1 := ⟨_, rfl⟩
              refine z_iinc C 2 v13 [(2, .int (iI v13)), (1, .int (iI ((orN (orN bg ((2 ^ r : Nat) : Int)) ((2 ^ (7 + r) : Nat) : Int))))), (0, .ref 58), (3, .int (iI ((okV 1 (fun j => O (10 * r + j)) sd)))), (4, .int (iI ((okV 1 (fun j => O (10 * j + r)) sd)))), (5, .int (iI ((sd : Int))))] dX6_bare_122 rfl ev13.symm (by decide) rfl ?_
              refine z_goto C 4 dX6_bare_125 (by decide) ?_
              refine zZ_sub [2, 1, 0] rfl ?_
              refine zZ_cast rfl (zLk (zLc (by simp only [bareG]; rw [← hbg, if_pos (rw_p h99), if_pos (cl_p h110)]) (zLc (by omega) rfl))) rfl (kkr trivial)
        · omega
  · intro hpr
    refine z_iload_n C 2 rfl dX6_bare_4 rfl ?_
    refine z_aload_n C 0 rfl dX6_bare_5 rfl ?_
    refine y_getI C zCl6 0 flX6_57 rfl rfl dX6_bare_6 ?_
    refine z_icmp_ge C 128 dX6_bare_9 (by decide) (by omega) (by omega) (fun h9 => ?_) (fun h9 => ?_)
    · refine z_iload_n C 1 rfl dX6_bare_128 rfl ?_
      exact zZ_iret C hR (Nat.le_refl _) (Nat.le_refl _) dX6_bare_129 rfl (zIs_I rfl rfl)
    · omega
