set_option maxHeartbeats 4000000 in
set_option maxRecDepth 100000 in
theorem c_X6_draw {g : zG} {I : Nat → Nat → Int} {J : Nat → Nat → Int64} {q : Nat × Nat} {m : Int} (hm : 1 ≤ m ∧ m ≤ 100) : zRun g mX6_draw 0 [.ref 58, .int (iI m)] (zst I J q) (some (.int (iI (ush16 (seedN (I 58 11)) % m)))) (zst (zu I 58 11 (seedN (I 58 11))) J q) := by
  have hur := ush16_r (seedN (I 58 11))
  refine zRuns_intro rfl (Nat.le_of_ble_eq_true rfl) (fun X C hR => ?_)
  show zZ g X 0 0 _ 0 [(0, .ref 58), (1, .int (iI m))] []
  refine z_aload_n C 0 rfl dX6_draw_0 rfl ?_
  refine z_aload_n C 0 rfl dX6_draw_1 rfl ?_
  refine y_getI C zCl6 11 flX6_67 rfl rfl dX6_draw_2 ?_
  refine z_ldcw C 1103515245 dX6_draw_5 kcX6_302 ?_
  refine z_imul C dX6_draw_8 ?_
  refine z_sipush C dX6_draw_9 (by decide) ?_
  refine z_iadd C dX6_draw_12 ?_
  refine y_putI C zCl6 11 flX6_67 rfl rfl rfl rfl dX6_draw_13 ?_
  refine z_aload_n C 0 rfl dX6_draw_16 rfl ?_
  refine y_getI C zCl6 11 flX6_67 rfl rfl dX6_draw_17 ?_
  rw [show zu I 58 11 (I 58 11 * 1103515245 + 12345) 58 11 = seedN (I 58 11) by simp [zu, seedN]]
  refine z_bipush C dX6_draw_20 (by decide) ?_
  refine z_iushr C (ush16 (seedN (I 58 11))) dX6_draw_22 (ush16_eq _) ?_
  refine z_iload_n C 1 rfl dX6_draw_23 rfl ?_
  refine z_irem C dX6_draw_24 (by omega) (by omega) ?_
  exact zZ_iret C hR (Nat.le_refl _) (Nat.le_refl _) dX6_draw_25 rfl (zIs_I rfl rfl)
set_option maxHeartbeats 4000000 in
set_option maxRecDepth 100000 in
theorem c_X6_noTold {g : zG} {I : Nat → Nat → Int} {J : Nat → Nat → Int64} {q : Nat × Nat} {s n : Int} (hrl : gRL I) (hs : 0 ≤ s ∧ s < 8) (hn : 0 ≤ n ∧ n ≤ 40) : zRun g mX6_noTold 2 [.ref 58, .int (iI s), .int (iI n)] (zst I J q) (some (.int (iI (ntN I s.toNat n)))) (zst I J q) := by
  have hls := hrl s.toNat (by omega)
  refine zRuns_intro rfl (Nat.le_of_ble_eq_true rfl) (fun X C hR => ?_)
  show zZ g X 0 0 _ 0 [(0, .ref 58), (1, .int (iI s)), (2, .int (iI n))] []
  refine z_aload_n C 0 rfl dX6_noTold_0 rfl ?_
  refine z_iload_n C 1 rfl dX6_noTold_1 rfl ?_
  refine y_callV1 C oX6_isRow iX6_isRow eX6_isRow lkX6_87 (c_X6_isRow hrl (by first | assumption | omega)) rfl (by decide) rfl rfl (by decide) (Nat.le_refl _) (Nat.le_refl _) (Nat.le_of_ble_eq_true rfl) dX6_noTold_2 ?_
  refine y_if_neB C 16 dX6_noTold_5 (by decide) (fun h5 => ?_) (fun h5 => ?_)
  · refine z_iload_n C 2 rfl dX6_noTold_16 rfl ?_
    refine z_aload_n C 0 rfl dX6_noTold_17 rfl ?_
    refine y_getR C zCl6 19 flX6_29 rfl rfl rfl dX6_noTold_18 ?_
    refine z_iload_n C 1 rfl dX6_noTold_21 rfl ?_
    refine y_iald C s.toNat (by omega) rfl (by omega) (by decide) dX6_noTold_22 ?_
    refine z_icmp_le C 31 dX6_noTold_23 (by decide) (by omega) (by omega) (fun h23 => ?_) (fun h23 => ?_)
    · refine z_iconst C dX6_noTold_31 ?_
      exact zZ_iret C hR (Nat.le_refl _) (Nat.le_refl _) dX6_noTold_32 rfl (zIs_I (by have q : 0 ≤ I 64 s.toNat ∧ I 64 s.toNat < 5 := (by simpa using h5); unfold ntN; rw [if_pos q, if_neg (by omega)]) rfl)
    · refine z_bipush C dX6_noTold_26 (by decide) ?_
      refine z_goto C 32 dX6_noTold_28 (by decide) ?_
      exact zZ_iret C hR (Nat.le_refl _) (Nat.le_refl _) dX6_noTold_32 rfl (zIs_I (by have q : 0 ≤ I 64 s.toNat ∧ I 64 s.toNat < 5 := (by simpa using h5); unfold ntN; rw [if_pos q, if_pos (by omega)]) rfl)
  · refine z_aload_n C 0 rfl dX6_noTold_8 rfl ?_
    refine z_iload_n C 1 rfl dX6_noTold_9 rfl ?_
    refine y_callV1 C oX6_noRow iX6_noRow eX6_noRow lkX6_90 (c_X6_noRow hrl (by first | assumption | omega)) rfl (by decide) rfl rfl (by decide) (Nat.le_refl _) (Nat.le_refl _) (Nat.le_of_ble_eq_true rfl) dX6_noTold_10 ?_
    refine z_goto C 32 dX6_noTold_13 (by decide) ?_
    exact zZ_iret C hR (Nat.le_refl _) (Nat.le_refl _) dX6_noTold_32 rfl (zIs_I (by have q : ¬ (0 ≤ I 64 s.toNat ∧ I 64 s.toNat < 5) := (by simpa using h5); unfold ntN; rw [if_neg q]) rfl)
set_option maxHeartbeats 4000000 in
set_option maxRecDepth 100000 in
theorem c_X6_toldAt {g : zG} {I : Nat → Nat → Int} {J : Nat → Nat → Int64} {q : Nat × Nat} {s i : Nat} (hs : s < 8) (hi : i < 40) : zRun g mX6_toldAt 0 [.ref 58, .int (iI ((s : Int))), .int (iI ((i : Int)))] (zst I J q) (some (.long (J 66 (40 * s + i)))) (zst I J q) := by
  refine zRuns_intro rfl (Nat.le_of_ble_eq_true rfl) (fun X C hR => ?_)
  show zZ g X 0 0 _ 0 [(0, .ref 58), (1, .int (iI ((s : Int)))), (2, .int (iI ((i : Int))))] []
  refine z_aload_n C 0 rfl dX6_toldAt_0 rfl ?_
  refine y_getR C zCl6 20 flX6_32 rfl rfl rfl dX6_toldAt_1 ?_
  refine z_bipush C dX6_toldAt_4 (by decide) ?_
  refine z_iload_n C 1 rfl dX6_toldAt_6 rfl ?_
  refine z_imul C dX6_toldAt_7 ?_
  refine z_iload_n C 2 rfl dX6_toldAt_8 rfl ?_
  refine z_iadd C dX6_toldAt_9 ?_
  refine y_lald C (40 * s + i) (by omega) rfl (by omega) (by decide) dX6_toldAt_10 ?_
  exact zZ_lret C hR (Nat.le_refl _) (Nat.le_refl _) dX6_toldAt_11 rfl (zIs_J rfl rfl)
set_option maxHeartbeats 4000000 in
set_option maxRecDepth 100000 in
theorem c_X6_allWalls {g : zG} {I : Nat → Nat → Int} {J : Nat → Nat → Int64} {q : Nat × Nat}  (hgr : gR I) : zRun g mX6_allWalls 0 [.ref 58] (zst I J q) (some (.int (iI (wcN I)))) (zst I J q) := by
  obtain ⟨b1, b2, b3, b4, b5, b6, b7⟩ := id hgr
  have hW : wcN I = cnt (fun c => decide (I 59 c = 1)) 67 := rfl
  rw [hW]
  obtain ⟨P, hP⟩ : ∃ P : Nat → Bool, P = fun c => decide (I 59 c = 1) := ⟨_, rfl⟩
  rw [← hP]
  refine zRuns_intro rfl (Nat.le_of_ble_eq_true rfl) (fun X C hR => ?_)
  show zZ g X 0 0 _ 0 [(0, .ref 58)] []
  refine z_iconst C dX6_allWalls_0 ?_
  refine z_istore_n C [(1, .int (iI 0)), (0, .ref 58)] dX6_allWalls_1 rfl (by decide) rfl ?_
  refine z_iconst C dX6_allWalls_2 ?_
  refine z_istore_n C [(2, .int (iI 0)), (1, .int (iI 0)), (0, .ref 58)] dX6_allWalls_3 rfl (by decide) rfl ?_
  refine zZ_sub [2, 1, 0] rfl ?_
  refine zZ_cast (σ' := (fun _ : Nat => zst I J q) 0) (L' := (fun e : Nat => [(0, .ref 58), (1, .int (iI (cnt P e))), (2, .int (iI (e : Int)))]) 0) rfl rfl rfl ?_
  refine zfor (67) (fun _ => True) (fun _ : Nat => zst I J q) (fun e : Nat => [(0, .ref 58), (1, .int (iI (cnt P e))), (2, .int (iI (e : Int)))]) trivial ?_ ?_
  · intro e hee hpe kke
    have hw7 := b7 e (by omega)
    have hcr := cnt_r P e
    refine z_iload_n C 2 rfl dX6_allWalls_4 rfl ?_
    refine z_bipush C dX6_allWalls_5 (by decide) ?_
    refine z_icmp_ge C 28 dX6_allWalls_7 (by decide) (by omega) (by omega) (fun h7 => ?_) (fun h7 => ?_)
    · omega
    · refine z_aload_n C 0 rfl dX6_allWalls_10 rfl ?_
      refine y_getR C zCl6 1 flX6_7 rfl rfl rfl dX6_allWalls_11 ?_
      refine z_iload_n C 2 rfl dX6_allWalls_14 rfl ?_
      refine y_zald C e (by omega) rfl (by omega) (by decide) dX6_allWalls_15 ?_
      refine z_if_eq C 22 dX6_allWalls_16 (by decide) (by omega) (fun h16 => ?_) (fun h16 => ?_)
      · obtain ⟨v1, ev1⟩ : ∃ y : Int, y = (e : Int) + 1 := ⟨_, rfl⟩
        refine z_iinc C 2 v1 [(2, .int (iI v1)), (0, .ref 58), (1, .int (iI ((cnt P e))))] dX6_allWalls_22 rfl ev1.symm (by decide) rfl ?_
        refine z_goto C 4 dX6_allWalls_25 (by decide) ?_
        refine zZ_sub [1, 2, 0] rfl ?_
        refine zZ_cast rfl (zLk (zLc (by simp only [cnt]; rw [show P e = false from by rw [hP]; exact decide_eq_false (by omega)]; simp [bI]) (zLc (by omega) rfl))) rfl (kke trivial)
      · obtain ⟨v2, ev2⟩ : ∃ y : Int, y = (cnt P e) + 1 := ⟨_, rfl⟩
        refine z_iinc C 1 v2 [(1, .int (iI v2)), (0, .ref 58), (2, .int (iI ((e : Int))))] dX6_allWalls_19 rfl ev2.symm (by decide) rfl ?_
        obtain ⟨v3, ev3⟩ : ∃ y : Int, y = (e : Int) + 1 := ⟨_, rfl⟩
        refine z_iinc C 2 v3 [(2, .int (iI v3)), (1, .int (iI v2)), (0, .ref 58)] dX6_allWalls_22 rfl ev3.symm (by decide) rfl ?_
        refine z_goto C 4 dX6_allWalls_25 (by decide) ?_
        refine zZ_sub [2, 1, 0] rfl ?_
        refine zZ_cast rfl (zLk (zLc (by simp only [cnt]; rw [show P e = true from by rw [hP]; exact decide_eq_true (by omega)]; simp [bI]; omega) (zLc (by omega) rfl))) rfl (kke trivial)
  · intro hpe
    refine z_iload_n C 2 rfl dX6_allWalls_4 rfl ?_
    refine z_bipush C dX6_allWalls_5 (by decide) ?_
    refine z_icmp_ge C 28 dX6_allWalls_7 (by decide) (by omega) (by omega) (fun h7 => ?_) (fun h7 => ?_)
    · refine z_iload_n C 1 rfl dX6_allWalls_28 rfl ?_
      exact zZ_iret C hR (Nat.le_refl _) (Nat.le_refl _) dX6_allWalls_29 rfl (zIs_I rfl rfl)
    · omega
set_option maxHeartbeats 4000000 in
set_option maxRecDepth 100000 in
theorem c_X6_status {g : zG} {I : Nat → Nat → Int} {J : Nat → Nat → Int64} {q : Nat × Nat} {w : Int} (hgr : gR I) (hrs : gRS (spR I)) (hrl : gRL I) (hw : -2147483648 ≤ w ∧ w ≤ 2147483647) : zRun g mX6_status 2 [.ref 58, .int (iI w)] (zst I J q) (some (.int (iI (statusR I w)))) (zst I J q) := by
  obtain ⟨b1, b2, b3, b4, b5, b6, b7⟩ := id hgr
  obtain ⟨k1, k2, k3⟩ := id hrs
  have k1 : gC7 (I 58 3) := k1
  have k2 : 0 ≤ I 58 4 ∧ I 58 4 ≤ 4 := k2
  have k3 : ∀ e, e < 5 → gC7 (I 62 e) := k3
  have k1' := k1.1
  have b2' := b2.1
  refine zRuns_intro rfl (Nat.le_of_ble_eq_true rfl) (fun X C hR => ?_)
  show zZ g X 0 0 _ 0 [(0, .ref 58), (1, .int (iI w))] []
  refine z_iconst C dX6_status_0 ?_
  refine z_istore_n C [(2, .int (iI 0)), (0, .ref 58), (1, .int (iI w))] dX6_status_1 rfl (by decide) rfl ?_
  refine z_iload_n C 2 rfl dX6_status_2 rfl ?_
  rcases (show w = 0 ∨ w = 1 ∨ w = 2 ∨ w = 3 ∨ w = 4 ∨ w = 5 ∨ w = 6 ∨ w = 7 ∨ w = 8 ∨ w = 9 ∨ w = 10 ∨ w = 11 ∨ (w < 0 ∨ 11 < w) by omega) with hsw | hsw | hsw | hsw | hsw | hsw | hsw | hsw | hsw | hsw | hsw | hsw | hsw
  · subst hsw
    refine z_tabIn C 64 dX6_status_3 (by decide) (by decide) (by decide) rfl (by decide) ?_
    refine z_aload_n C 1 rfl dX6_status_64 rfl ?_
    refine y_getI C zCl6 5 flX6_72 rfl rfl dX6_status_65 ?_
    exact zZ_iret C hR (Nat.le_refl _) (Nat.le_refl _) dX6_status_68 rfl (zIs_I rfl rfl)
  · subst hsw
    refine z_tabIn C 69 dX6_status_3 (by decide) (by decide) (by decide) rfl (by decide) ?_
    refine z_aload_n C 1 rfl dX6_status_69 rfl ?_
    refine y_getI C zCl6 0 flX6_57 rfl rfl dX6_status_70 ?_
    exact zZ_iret C hR (Nat.le_refl _) (Nat.le_refl _) dX6_status_73 rfl (zIs_I rfl rfl)
  · subst hsw
    refine z_tabIn C 74 dX6_status_3 (by decide) (by decide) (by decide) rfl (by decide) ?_
    refine z_aload_n C 1 rfl dX6_status_74 rfl ?_
    refine y_getI C zCl6 2 flX6_119 rfl rfl dX6_status_75 ?_
    exact zZ_iret C hR (Nat.le_refl _) (Nat.le_refl _) dX6_status_78 rfl (zIs_I rfl rfl)
  · subst hsw
    refine z_tabIn C 79 dX6_status_3 (by decide) (by decide) (by decide) rfl (by decide) ?_
    refine z_aload_n C 1 rfl dX6_status_79 rfl ?_
    refine y_getI C zCl6 3 flX6_61 rfl rfl dX6_status_80 ?_
    exact zZ_iret C hR (Nat.le_refl _) (Nat.le_refl _) dX6_status_83 rfl (zIs_I rfl rfl)
  · subst hsw
    refine z_tabIn C 84 dX6_status_3 (by decide) (by decide) (by decide) rfl (by decide) ?_
    refine z_aload_n C 1 rfl dX6_status_84 rfl ?_
    refine y_getI C zCl6 9 flX6_64 rfl rfl dX6_status_85 ?_
    exact zZ_iret C hR (Nat.le_refl _) (Nat.le_refl _) dX6_status_88 rfl (zIs_I rfl rfl)
  · subst hsw
    refine z_tabIn C 89 dX6_status_3 (by decide) (by decide) (by decide) rfl (by decide) ?_
    refine z_aload_n C 1 rfl dX6_status_89 rfl ?_
    refine y_getI C zCl6 10 flX6_299 rfl rfl dX6_status_90 ?_
    exact zZ_iret C hR (Nat.le_refl _) (Nat.le_refl _) dX6_status_93 rfl (zIs_I rfl rfl)
  · subst hsw
    refine z_tabIn C 94 dX6_status_3 (by decide) (by decide) (by decide) rfl (by decide) ?_
    refine z_aload_n C 1 rfl dX6_status_94 rfl ?_
    refine y_callV0 C oX6_in iX6_in eX6_in lkX6_135 (c_X6_in hgr hrs) rfl (by decide) rfl rfl (by decide) (Nat.le_refl _) (Nat.le_refl _) (Nat.le_of_ble_eq_true rfl) dX6_status_95 ?_
    exact zZ_iret C hR (Nat.le_refl _) (Nat.le_refl _) dX6_status_98 rfl (zIs_I rfl rfl)
  · subst hsw
    refine z_tabIn C 99 dX6_status_3 (by decide) (by decide) (by decide) rfl (by decide) ?_
    refine z_aload_n C 1 rfl dX6_status_99 rfl ?_
    refine y_callV0 C oX6_allWalls iX6_allWalls eX6_allWalls lkX6_310 (c_X6_allWalls hgr) rfl (by decide) rfl rfl (by decide) (Nat.le_refl _) (Nat.le_refl _) (Nat.le_of_ble_eq_true rfl) dX6_status_100 ?_
    exact zZ_iret C hR (Nat.le_refl _) (Nat.le_refl _) dX6_status_103 rfl (zIs_I rfl rfl)
  · subst hsw
    refine z_tabIn C 104 dX6_status_3 (by decide) (by decide) (by decide) rfl (by decide) ?_
    refine z_aload_n C 1 rfl dX6_status_104 rfl ?_
    refine y_getI C zCl6 4 flX6_235 rfl rfl dX6_status_105 ?_
    exact zZ_iret C hR (Nat.le_refl _) (Nat.le_refl _) dX6_status_108 rfl (zIs_I rfl rfl)
  · subst hsw
    refine z_tabIn C 109 dX6_status_3 (by decide) (by decide) (by decide) rfl (by decide) ?_
    refine z_aload_n C 1 rfl dX6_status_109 rfl ?_
    refine y_getI C zCl6 12 flX6_149 rfl rfl dX6_status_110 ?_
    exact zZ_iret C hR (Nat.le_refl _) (Nat.le_refl _) dX6_status_113 rfl (zIs_I rfl rfl)
  · subst hsw
    refine z_tabIn C 114 dX6_status_3 (by decide) (by decide) (by decide) rfl (by decide) ?_
    refine z_aload_n C 1 rfl dX6_status_114 rfl ?_
    refine y_getI C zCl6 11 flX6_67 rfl rfl dX6_status_115 ?_
    exact zZ_iret C hR (Nat.le_refl _) (Nat.le_refl _) dX6_status_118 rfl (zIs_I rfl rfl)
  · subst hsw
    refine z_tabIn C 119 dX6_status_3 (by decide) (by decide) (by decide) rfl (by decide) ?_
    refine z_iconst C dX6_status_119 ?_
    refine z_istore_n C [(3, .int (iI 0)), (2, .int (iI 0)), (0, .ref 58), (1, .int (iI 11))] dX6_status_120 rfl (by decide) rfl ?_
    refine zZ_sub [2, 3, 1, 0] rfl ?_
    refine zZ_cast (σ' := (fun _ : Nat => zst I J q) 0) (L' := (fun e : Nat => [(0, .ref 58), (1, .int (iI 11)), (2, .int (iI (flR I e))), (3, .int (iI (e : Int)))]) 0) rfl rfl rfl ?_
    refine zfor (8) (fun _ => True) (fun _ : Nat => zst I J q) (fun e : Nat => [(0, .ref 58), (1, .int (iI 11)), (2, .int (iI (flR I e))), (3, .int (iI (e : Int)))]) trivial ?_ ?_
    · intro e hee hpe kke
      have hls := hrl e (by omega)
      have hfr := flR_r (I := I) e
      refine z_iload_n C 3 rfl dX6_status_121 rfl ?_
      refine z_bipush C dX6_status_122 (by decide) ?_
      refine z_icmp_ge C 146 dX6_status_124 (by decide) (by omega) (by omega) (fun h124 => ?_) (fun h124 => ?_)
      · omega
      · refine z_aload_n C 0 rfl dX6_status_127 rfl ?_
        refine y_getR C zCl6 18 flX6_26 rfl rfl rfl dX6_status_128 ?_
        refine z_iload_n C 3 rfl dX6_status_131 rfl ?_
        refine y_iald C e rfl rfl (by omega) (by decide) dX6_status_132 ?_
        refine z_iconst C dX6_status_133 ?_
        refine z_icmp_eq C 140 dX6_status_134 (by decide) (by omega) (by omega) (fun h134 => ?_) (fun h134 => ?_)
        · obtain ⟨v1, ev1⟩ : ∃ y : Int, y = (e : Int) + 1 := ⟨_, rfl⟩
          refine z_iinc C 3 v1 [(3, .int (iI v1)), (0, .ref 58), (1, .int (iI 11)), (2, .int (iI ((flR I e))))] dX6_status_140 rfl ev1.symm (by decide) rfl ?_
          refine z_goto C 121 dX6_status_143 (by decide) ?_
          refine zZ_sub [1, 2, 3, 0] rfl ?_
          refine zZ_cast rfl (zLk (zLk (zLc (by simp only [flR]; rw [decide_eq_true (show I 64 e = -1 by omega)]; simp [bI]) (zLc (by omega) rfl)))) rfl (kke trivial)
        · obtain ⟨v2, ev2⟩ : ∃ y : Int, y = (flR I e) + 1 := ⟨_, rfl⟩
          refine z_iinc C 2 v2 [(2, .int (iI v2)), (0, .ref 58), (1, .int (iI 11)), (3, .int (iI ((e : Int))))] dX6_status_137 rfl ev2.symm (by decide) rfl ?_
          obtain ⟨v3, ev3⟩ : ∃ y : Int, y = (e : Int) + 1 := ⟨_, rfl⟩
          refine z_iinc C 3 v3 [(3, .int (iI v3)), (2, .int (iI v2)), (0, .ref 58), (1, .int (iI 11))] dX6_status_140 rfl ev3.symm (by decide) rfl ?_
          refine z_goto C 121 dX6_status_143 (by decide) ?_
          refine zZ_sub [2, 3, 1, 0] rfl ?_
          refine zZ_cast rfl (zLk (zLk (zLc (by simp only [flR]; rw [decide_eq_false (show ¬ I 64 e = -1 by omega)]; simp [bI]; omega) (zLc (by omega) rfl)))) rfl (kke trivial)
    · intro hpe
      refine z_iload_n C 3 rfl dX6_status_121 rfl ?_
      refine z_bipush C dX6_status_122 (by decide) ?_
      refine z_icmp_ge C 146 dX6_status_124 (by decide) (by omega) (by omega) (fun h124 => ?_) (fun h124 => ?_)
      · refine z_iload_n C 2 rfl dX6_status_146 rfl ?_
        exact zZ_iret C hR (Nat.le_refl _) (Nat.le_refl _) dX6_status_147 rfl (zIs_I rfl rfl)
      · omega
  · refine z_tabOut C 148 dX6_status_3 (by omega) hsw (by decide) ?_
    refine z_iload_n C 2 rfl dX6_status_148 rfl ?_
    refine z_bipush C dX6_status_149 (by decide) ?_
    refine z_bipush C dX6_status_151 (by decide) ?_
    refine y_callS3 C oX6_within sX6_within lkX6_75 (c_X6_within (by first | assumption | omega) (by first | assumption | omega) (by first | assumption | omega)) (by decide) (Nat.le_refl _) (Nat.le_refl _) (Nat.le_of_ble_eq_true rfl) dX6_status_153 ?_
    refine y_if_eqB C 171 dX6_status_156 (by decide) (fun h156 => ?_) (fun h156 => ?_)
    · refine z_iconst C dX6_status_171 ?_
      exact zZ_iret C hR (Nat.le_refl _) (Nat.le_refl _) dX6_status_172 rfl (zIs_I (by have q : ¬ (12 ≤ w ∧ w ≤ 16) := (by simpa using h156); unfold statusR; (iterate 13 rw [if_neg (by omega)])) rfl)
    · have q156 : 12 ≤ w ∧ w ≤ 16 := by simpa using h156
      refine z_aload_n C 1 rfl dX6_status_159 rfl ?_
      refine y_getR C zCl6 21 flX6_36 rfl rfl rfl dX6_status_160 ?_
      refine z_iload_n C 2 rfl dX6_status_163 rfl ?_
      refine z_bipush C dX6_status_164 (by decide) ?_
      refine z_isub C dX6_status_166 ?_
      refine y_iald C (w - 10).toNat (by omega) rfl (by omega) (by decide) dX6_status_167 ?_
      refine z_goto C 172 dX6_status_168 (by decide) ?_
      exact zZ_iret C hR (Nat.le_refl _) (Nat.le_refl _) dX6_status_172 rfl (zIs_I (by have q : 12 ≤ w ∧ w ≤ 16 := (by simpa using h156); unfold statusR; (iterate 12 rw [if_neg (by omega)]); exact (if_pos ⟨by omega, by omega⟩).symm) rfl)
