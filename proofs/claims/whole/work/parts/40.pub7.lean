set_option maxHeartbeats 4000000 in
set_option maxRecDepth 100000 in
theorem c_X5_weightIfAllIn {g : zG} {I : Nat → Nat → Int} {J : Nat → Nat → Int64} {q : Nat × Nat} {t lost : Nat} {n : Int} (itt : isL t) (hg : gH I 1) (hq : gS I 4) (hn : 0 ≤ n ∧ n ≤ 6) (hlo : lost < 64) (hf : ∀ k, k < n.toNat → isCmd (J (t + 1) k) = true) : zRun g mX5_weightIfAllIn 6 [.ref 0, .ref t, .int (iI n), .int (iI ((lost : Int)))] (zst I J q) (some (.long (weightN (hv I J 1) (I 1 2) (spOf I 4) (J (t + 1)) lost n.toNat))) (zst (zSq I 36 (lostS (hv I J 1) (spOf I 4) (J (t + 1)) lost n.toNat)) J q) := by
  obtain ⟨g1, g2, g3, g4, g5, g6⟩ := id hg
  obtain ⟨k1, k2, k3⟩ := id hq
  have k3 : ∀ e, e < 5 → 0 ≤ I 5 e ∧ I 5 e ≤ 66 := k3
  have hF : ∀ k, k < n.toNat → 0 ≤ (J (t + 1) k).toInt ∧ (J (t + 1) k).toInt ≤ 4 := fun k hk => by have := hf k hk; simp only [isCmd, decide_eq_true_eq] at this; omega
  have hgp := fun k (hk : k ≤ n.toNat) => gP_lost (J := J) (f := J (t + 1)) (lost := lost) hg (gP_of hq) k (fun e he => hF e (by omega))
  refine zRuns_intro rfl (Nat.le_of_ble_eq_true rfl) (fun X C hR => ?_)
  show zZ g X 0 0 _ 0 [(0, .ref 0), (1, .ref t), (2, .int (iI n)), (3, .int (iI ((lost : Int))))] []
  refine z_lconst C 1 dX5_weightIfAllIn_0 rfl ?_
  refine z_lstore C [(4, .long 1), (0, .ref 0), (1, .ref t), (2, .int (iI n)), (3, .int (iI ((lost : Int))))] dX5_weightIfAllIn_1 (by decide) rfl ?_
  refine z_aload_n C 1 rfl dX5_weightIfAllIn_3 rfl ?_
  refine y_getR C zCl5 6 flX5_44 rfl rfl rfl dX5_weightIfAllIn_4 ?_
  refine z_aload_n C 1 rfl dX5_weightIfAllIn_7 rfl ?_
  refine y_getR C zCl5 0 flX5_10 rfl rfl rfl dX5_weightIfAllIn_8 ?_
  refine y_getR C zCl0 9 flX5_118 rfl rfl rfl dX5_weightIfAllIn_11 ?_
  refine y_callV1 C oX3_setTo iX3_setTo eX3_setTo lkX5_191 (c_X3_setTo isS_36 isS_4) rfl (by decide) rfl rfl (by decide) (Nat.le_refl _) (Nat.le_refl _) (Nat.le_of_ble_eq_true rfl) dX5_weightIfAllIn_14 ?_
  refine z_iconst C dX5_weightIfAllIn_17 ?_
  refine z_istore C [(6, .int (iI 0)), (4, .long 1), (0, .ref 0), (1, .ref t), (2, .int (iI n)), (3, .int (iI ((lost : Int))))] dX5_weightIfAllIn_18 (by decide) rfl ?_
  refine zZ_sub [2, 3, 4, 5, 1, 0] rfl ?_
  refine zZ_cast (σ' := (fun e : Nat => zst (zSq I 36 (lostS (hv I J 1) (spOf I 4) (J (t + 1)) lost e)) J q) 0) (L' := (fun e : Nat => [(0, .ref 0), (1, .ref t), (2, .int (iI n)), (3, .int (iI ((lost : Int)))), (4, .long (lostW (I 1 2) lost e)), (6, .int (iI (e : Int)))]) 0) rfl rfl rfl ?_
  refine zfor (n.toNat) (fun _ => True) (fun e : Nat => zst (zSq I 36 (lostS (hv I J 1) (spOf I 4) (J (t + 1)) lost e)) J q) (fun e : Nat => [(0, .ref 0), (1, .ref t), (2, .int (iI n)), (3, .int (iI ((lost : Int)))), (4, .long (lostW (I 1 2) lost e)), (6, .int (iI (e : Int)))]) trivial ?_ ?_
  · intro e hee hpe kke
    have hfe := hF e hee
    have hge := hgp e (by omega)
    have hge1 : 0 ≤ zSq I 36 (lostS (hv I J 1) (spOf I 4) (J (t + 1)) lost e) 36 1 ∧ zSq I 36 (lostS (hv I J 1) (spOf I 4) (J (t + 1)) lost e) 36 1 ≤ 4 := hge.2.1
    obtain ⟨bt, hbt⟩ : ∃ b, b = lost / 2 ^ e % 2 := ⟨_, rfl⟩
    have hb2 : bt < 2 := by rw [hbt]; exact Nat.mod_lt _ (by decide)
    refine z_iload C 5 rfl dX5_weightIfAllIn_20 ?_
    refine z_iload_n C 2 rfl dX5_weightIfAllIn_22 rfl ?_
    refine z_icmp_ge C 114 dX5_weightIfAllIn_23 (by decide) (by omega) (by omega) (fun h23 => ?_) (fun h23 => ?_)
    · omega
    · refine z_iload_n C 3 rfl dX5_weightIfAllIn_26 rfl ?_
      refine z_iload C 5 rfl dX5_weightIfAllIn_27 ?_
      refine z_ishr C ((lost / 2 ^ e : Nat) : Int) dX5_weightIfAllIn_29 (iI_shr (by omega) (by omega)) ?_
      refine z_iconst C dX5_weightIfAllIn_30 ?_
      refine z_iand C (bt : Int) dX5_weightIfAllIn_31 (by rw [hbt]; exact iI_and1 (by have := Nat.div_le_self lost (2 ^ e); omega)) ?_
      refine z_if_ne C 39 dX5_weightIfAllIn_32 (by decide) (by omega) (fun h32 => ?_) (fun h32 => ?_)
      · refine z_iconst C dX5_weightIfAllIn_39 ?_
        refine z_istore C [(7, .int (iI 0)), (0, .ref 0), (1, .ref t), (2, .int (iI n)), (3, .int (iI ((lost : Int)))), (4, .long ((lostW (I 1 2) lost e))), (6, .int (iI ((e : Int))))] dX5_weightIfAllIn_40 (by decide) rfl ?_
        have hla : lostAt lost e = true := by unfold lostAt; rw [← hbt]; simp; omega
        refine z_lload C 5 rfl dX5_weightIfAllIn_42 ?_
        refine z_iload C 0 rfl dX5_weightIfAllIn_44 ?_
        refine z_if_eq C 63 dX5_weightIfAllIn_46 (by decide) (by omega) (fun h46 => ?_) (fun h46 => ?_)
        · refine z_aload_n C 1 rfl dX5_weightIfAllIn_63 rfl ?_
          refine y_getR C zCl5 0 flX5_10 rfl rfl rfl dX5_weightIfAllIn_64 ?_
          refine y_getI C zCl0 2 flX5_165 rfl rfl dX5_weightIfAllIn_67 ?_
          refine z_i2l C ((iI (I 1 2)).toInt64) dX5_weightIfAllIn_70 rfl ?_
          refine z_lmul C dX5_weightIfAllIn_71 ?_
          refine z_topL C (fun v1 ev1 => ?_)
          refine z_lstore C [(4, .long v1), (7, .int (iI 0)), (0, .ref 0), (1, .ref t), (2, .int (iI n)), (3, .int (iI ((lost : Int)))), (6, .int (iI ((e : Int))))] dX5_weightIfAllIn_72 (by decide) rfl ?_
          refine z_aload_n C 2 rfl dX5_weightIfAllIn_74 rfl ?_
          refine y_getR C zCl5 0 flX5_10 rfl rfl rfl dX5_weightIfAllIn_75 ?_
          refine z_aload_n C 2 rfl dX5_weightIfAllIn_78 rfl ?_
          refine y_getR C zCl5 6 flX5_44 rfl rfl rfl dX5_weightIfAllIn_79 ?_
          refine z_iload C 1 rfl dX5_weightIfAllIn_82 ?_
          refine z_if_eq C 98 dX5_weightIfAllIn_84 (by decide) (by omega) (fun h84 => ?_) (fun h84 => ?_)
          · refine z_aload_n C 2 rfl dX5_weightIfAllIn_98 rfl ?_
            refine y_getR C zCl5 6 flX5_44 rfl rfl rfl dX5_weightIfAllIn_99 ?_
            refine y_getI C zCl3 1 flX5_338 rfl rfl dX5_weightIfAllIn_102 ?_
            refine y_callV2 C oX0_takeTurn iX0_takeTurn eX0_takeTurn lkX5_211 (c_X0_takeTurn isH_1 isS_36 (gH_sp isH_1 isS_36 hg) (gS_of hge) (by first | assumption | omega)) rfl (by decide) rfl rfl (by decide) (Nat.le_refl _) (Nat.le_refl _) (Nat.le_of_ble_eq_true rfl) dX5_weightIfAllIn_105 ?_
            obtain ⟨v2, ev2⟩ : ∃ y : Int, y = (e : Int) + 1 := ⟨_, rfl⟩
            refine z_iinc C 6 v2 [(6, .int (iI v2)), (4, .long v1), (7, .int (iI 0)), (0, .ref 0), (1, .ref t), (2, .int (iI n)), (3, .int (iI ((lost : Int))))] dX5_weightIfAllIn_108 rfl ev2.symm (by decide) rfl ?_
            refine z_goto C 20 dX5_weightIfAllIn_111 (by decide) ?_
            refine zZ_sub [3, 4, 5, 6, 1, 0] rfl ?_
            refine zZ_cast (by refine congrArg (fun I' => zst I' J q) ?_; simp only [lostS]; rw [hla]; exact zSp_zSp) (zLk (zLk (zLk (zLk (zLj (by rw [ev1]; simp only [lostW]; rw [hla]; rfl) (zLc (by omega) rfl)))))) rfl (kke trivial)
          · exact absurd rfl h84
        · exact absurd rfl h46
      · refine z_iconst C dX5_weightIfAllIn_35 ?_
        refine z_goto C 40 dX5_weightIfAllIn_36 (by decide) ?_
        refine z_istore C [(7, .int (iI 1)), (0, .ref 0), (1, .ref t), (2, .int (iI n)), (3, .int (iI ((lost : Int)))), (4, .long ((lostW (I 1 2) lost e))), (6, .int (iI ((e : Int))))] dX5_weightIfAllIn_40 (by decide) rfl ?_
        have hla : lostAt lost e = false := by unfold lostAt; rw [← hbt]; simp; omega
        refine z_lload C 5 rfl dX5_weightIfAllIn_42 ?_
        refine z_iload C 0 rfl dX5_weightIfAllIn_44 ?_
        refine z_if_eq C 63 dX5_weightIfAllIn_46 (by decide) (by omega) (fun h46 => ?_) (fun h46 => ?_)
        · exact absurd h46 (by decide)
        · refine z_bipush C dX5_weightIfAllIn_49 (by decide) ?_
          refine z_aload_n C 1 rfl dX5_weightIfAllIn_51 rfl ?_
          refine y_getR C zCl5 0 flX5_10 rfl rfl rfl dX5_weightIfAllIn_52 ?_
          refine y_getI C zCl0 2 flX5_165 rfl rfl dX5_weightIfAllIn_55 ?_
          refine z_isub C dX5_weightIfAllIn_58 ?_
          refine z_i2l C ((iI (12 - I 1 2)).toInt64) dX5_weightIfAllIn_59 rfl ?_
          refine z_goto C 71 dX5_weightIfAllIn_60 (by decide) ?_
          refine z_lmul C dX5_weightIfAllIn_71 ?_
          refine z_topL C (fun v3 ev3 => ?_)
          refine z_lstore C [(4, .long v3), (7, .int (iI 1)), (0, .ref 0), (1, .ref t), (2, .int (iI n)), (3, .int (iI ((lost : Int)))), (6, .int (iI ((e : Int))))] dX5_weightIfAllIn_72 (by decide) rfl ?_
          refine z_aload_n C 2 rfl dX5_weightIfAllIn_74 rfl ?_
          refine y_getR C zCl5 0 flX5_10 rfl rfl rfl dX5_weightIfAllIn_75 ?_
          refine z_aload_n C 2 rfl dX5_weightIfAllIn_78 rfl ?_
          refine y_getR C zCl5 6 flX5_44 rfl rfl rfl dX5_weightIfAllIn_79 ?_
          refine z_iload C 1 rfl dX5_weightIfAllIn_82 ?_
          refine z_if_eq C 98 dX5_weightIfAllIn_84 (by decide) (by omega) (fun h84 => ?_) (fun h84 => ?_)
          · exact absurd h84 (by decide)
          · refine z_aload_n C 3 rfl dX5_weightIfAllIn_87 rfl ?_
            refine y_getR C zCl2 2 flX5_75 rfl (lay_l itt) (rt_l itt) dX5_weightIfAllIn_88 ?_
            refine z_iload C 6 rfl dX5_weightIfAllIn_91 ?_
            refine y_lald C e (by omega) (lay_l1 itt) (by omega) (by decide) dX5_weightIfAllIn_93 ?_
            refine z_l2i C (J (t + 1) e).toInt dX5_weightIfAllIn_94 (l2i_eq _) ?_
            refine z_goto C 105 dX5_weightIfAllIn_95 (by decide) ?_
            refine y_callV2 C oX0_takeTurn iX0_takeTurn eX0_takeTurn lkX5_211 (c_X0_takeTurn isH_1 isS_36 (gH_sp isH_1 isS_36 hg) (gS_of hge) (by first | assumption | omega)) rfl (by decide) rfl rfl (by decide) (Nat.le_refl _) (Nat.le_refl _) (Nat.le_of_ble_eq_true rfl) dX5_weightIfAllIn_105 ?_
            obtain ⟨v4, ev4⟩ : ∃ y : Int, y = (e : Int) + 1 := ⟨_, rfl⟩
            refine z_iinc C 6 v4 [(6, .int (iI v4)), (4, .long v3), (7, .int (iI 1)), (0, .ref 0), (1, .ref t), (2, .int (iI n)), (3, .int (iI ((lost : Int))))] dX5_weightIfAllIn_108 rfl ev4.symm (by decide) rfl ?_
            refine z_goto C 20 dX5_weightIfAllIn_111 (by decide) ?_
            refine zZ_sub [3, 4, 5, 6, 1, 0] rfl ?_
            refine zZ_cast (by refine congrArg (fun I' => zst I' J q) ?_; simp only [lostS]; rw [hla]; exact zSp_zSp) (zLk (zLk (zLk (zLk (zLj (by rw [ev3]; simp only [lostW]; rw [hla]; rfl) (zLc (by omega) rfl)))))) rfl (kke trivial)
  · intro hpe
    refine z_iload C 5 rfl dX5_weightIfAllIn_20 ?_
    refine z_iload_n C 2 rfl dX5_weightIfAllIn_22 rfl ?_
    refine z_icmp_ge C 114 dX5_weightIfAllIn_23 (by decide) (by omega) (by omega) (fun h23 => ?_) (fun h23 => ?_)
    · refine z_aload_n C 0 rfl dX5_weightIfAllIn_114 rfl ?_
      refine y_getR C zCl5 0 flX5_10 rfl rfl rfl dX5_weightIfAllIn_115 ?_
      refine z_aload_n C 0 rfl dX5_weightIfAllIn_118 rfl ?_
      refine y_getR C zCl5 6 flX5_44 rfl rfl rfl dX5_weightIfAllIn_119 ?_
      refine y_callV1 C oX0_countIn iX0_countIn eX0_countIn lkX5_235 (c_X0_countIn isH_1 isS_36 (gH_sp isH_1 isS_36 hg) (gS_of (hgp n.toNat (Nat.le_refl _)))) rfl (by decide) rfl rfl (by decide) (Nat.le_refl _) (Nat.le_refl _) (Nat.le_of_ble_eq_true rfl) dX5_weightIfAllIn_122 ?_
      refine z_aload_n C 0 rfl dX5_weightIfAllIn_125 rfl ?_
      refine y_getR C zCl5 0 flX5_10 rfl rfl rfl dX5_weightIfAllIn_126 ?_
      refine y_getI C zCl0 6 flX5_156 rfl rfl dX5_weightIfAllIn_129 ?_
      refine z_icmp_ne C 140 dX5_weightIfAllIn_132 (by decide) (by have := inN_b (I := zSq I 36 (lostS (hv I J 1) (spOf I 4) (J (t + 1)) lost n.toNat)) (J := J) (h := 1) (C := (zSq I 36 (lostS (hv I J 1) (spOf I 4) (J (t + 1)) lost n.toNat)) (36 + 1)) (gH_sp isH_1 isS_36 hg); omega) (by have : 0 ≤ (zSq I 36 (lostS (hv I J 1) (spOf I 4) (J (t + 1)) lost n.toNat)) 1 6 ∧ (zSq I 36 (lostS (hv I J 1) (spOf I 4) (J (t + 1)) lost n.toNat)) 1 6 ≤ 5 := g4; omega) (fun h132 => ?_) (fun h132 => ?_)
      · refine z_lconst C 0 dX5_weightIfAllIn_140 rfl ?_
        exact zZ_lret C hR (Nat.le_refl _) (Nat.le_refl _) dX5_weightIfAllIn_141 rfl (zIs_J (if_neg h132).symm rfl)
      · refine z_lload C 4 rfl dX5_weightIfAllIn_135 ?_
        refine z_goto C 141 dX5_weightIfAllIn_137 (by decide) ?_
        exact zZ_lret C hR (Nat.le_refl _) (Nat.le_refl _) dX5_weightIfAllIn_141 rfl (zIs_J (if_pos h132).symm rfl)
    · omega
set_option maxHeartbeats 4000000 in
set_option maxRecDepth 100000 in
theorem c_X5_path {g : zG} {I : Nat → Nat → Int} {J : Nat → Nat → Int64} {q : Nat × Nat} {c : Int} (hg : gH I 1) (hq : gS I 4) (hl : gL I) (hc : -2147483648 ≤ c ∧ c ≤ 2147483647) : zRun g mX5_path 4 [.ref 0, .int (iI c)] (zst I J q) (some (.int (iI (uR (fHasW I c) (pathN (groundB (I 1 0) (J 1 5) (I 1 1) 67) (bitL (I 4 0)) (bitL c)))))) (zst (uI I (fHasW I c) (I)) J q) := by
  obtain ⟨g1, g2, g3, g4, g5, g6⟩ := id hg
  obtain ⟨k1, k2, k3⟩ := id hq
  have k3 : ∀ e, e < 5 → 0 ≤ I 5 e ∧ I 5 e ≤ 66 := k3
  refine zRuns_intro rfl (Nat.le_of_ble_eq_true rfl) (fun X C hR => ?_)
  show zZ g X 0 0 _ 0 [(0, .ref 0), (1, .int (iI c))] []
  refine z_aload_n C 0 rfl dX5_path_0 rfl ?_
  refine y_getR C zCl5 0 flX5_10 rfl rfl rfl dX5_path_1 ?_
  refine z_iload_n C 1 rfl dX5_path_4 rfl ?_
  refine y_callV1 C oX0_isCell iX0_isCell eX0_isCell lkX5_128 (c_X0_isCell isH_1 hg (by first | assumption | omega)) rfl (by decide) rfl rfl (by decide) (Nat.le_refl _) (Nat.le_refl _) (Nat.le_of_ble_eq_true rfl) dX5_path_5 ?_
  refine y_if_neB C 18 dX5_path_8 (by decide) (fun h8 => ?_) (fun h8 => ?_)
  · have hcr := isCellN_r g1.2 h8
    have qd : 0 ≤ I (1 + 3) 0 ∧ I (1 + 3) 0 ≤ 66 := k1
    refine z_iload_n C 1 rfl dX5_path_18 rfl ?_
    refine y_callS1 C oX5_bitOf sX5_bitOf lkX5_274 (c_X5_bitOf (by first | assumption | omega)) (by decide) (Nat.le_refl _) (Nat.le_refl _) (Nat.le_of_ble_eq_true rfl) dX5_path_19 ?_
    refine z_topL C (fun bc ebc => ?_)
    refine z_lstore_n C [(2, .long bc), (0, .ref 0), (1, .int (iI c))] dX5_path_22 rfl (by decide) rfl ?_
    refine z_aload_n C 1 rfl dX5_path_23 rfl ?_
    refine y_getR C zCl5 0 flX5_10 rfl rfl rfl dX5_path_24 ?_
    refine y_callV0 C oX0_dogsGround iX0_dogsGround eX0_dogsGround lkX5_277 (c_X0_dogsGround isH_1 hg) rfl (by decide) rfl rfl (by decide) (Nat.le_refl _) (Nat.le_refl _) (Nat.le_of_ble_eq_true rfl) dX5_path_27 ?_
    refine z_topL C (fun gg egg => ?_)
    refine z_lstore C [(4, .long gg), (2, .long bc), (0, .ref 0), (1, .int (iI c))] dX5_path_30 (by decide) rfl ?_
    refine z_aload_n C 2 rfl dX5_path_32 rfl ?_
    refine y_getR C zCl5 0 flX5_10 rfl rfl rfl dX5_path_33 ?_
    refine y_getR C zCl0 9 flX5_118 rfl rfl rfl dX5_path_36 ?_
    refine y_getI C zCl3 0 flX5_150 rfl rfl dX5_path_39 ?_
    refine y_callS1 C oX5_bitOf sX5_bitOf lkX5_274 (c_X5_bitOf (by first | assumption | omega)) (by decide) (Nat.le_refl _) (Nat.le_refl _) (Nat.le_of_ble_eq_true rfl) dX5_path_42 ?_
    refine z_topL C (fun bd ebd => ?_)
    refine z_lstore C [(6, .long bd), (4, .long gg), (2, .long bc), (0, .ref 0), (1, .int (iI c))] dX5_path_45 (by decide) rfl ?_
    have ebd : bd = bitL (I 4 0) := ebd
    refine z_iconst C dX5_path_47 ?_
    refine z_istore C [(8, .int (iI 0)), (6, .long bd), (4, .long gg), (2, .long bc), (0, .ref 0), (1, .int (iI c))] dX5_path_48 (by decide) rfl ?_
    refine zZ_sub [4, 5, 3, 2, 1, 0] rfl ?_
    refine zZ_cast (σ' := (fun _ : Nat => zst I J q) 0) (L' := (fun e : Nat => [(0, .ref 0), (1, .int (iI c)), (2, .long bc), (4, .long gg), (6, .long (sprN gg bd e)), (8, .int (iI (e : Int)))]) 0) rfl rfl rfl ?_
    refine zfor (67) (fun e => firstN (pathP gg bd bc) e = none) (fun _ : Nat => zst I J q) (fun e : Nat => [(0, .ref 0), (1, .int (iI c)), (2, .long bc), (4, .long gg), (6, .long (sprN gg bd e)), (8, .int (iI (e : Int)))]) rfl ?_ ?_
    · intro e hee hpe kke
      refine z_iload C 5 rfl dX5_path_50 ?_
      refine z_bipush C dX5_path_52 (by decide) ?_
      refine z_icmp_ge C 84 dX5_path_54 (by decide) (by omega) (by omega) (fun h54 => ?_) (fun h54 => ?_)
      · omega
      · refine z_lload C 4 rfl dX5_path_57 ?_
        refine z_lload_n C 2 rfl dX5_path_59 rfl ?_
        refine z_land C dX5_path_60 ?_
        refine z_lconst C 0 dX5_path_61 rfl ?_
        refine z_lcmp_eq C 69 dX5_path_62 dX5_path_63 (by decide) (fun h62 => ?_) (fun h62 => ?_)
        · refine z_lload C 4 rfl dX5_path_69 ?_
          refine z_lload C 3 rfl dX5_path_71 ?_
          refine y_callS2 C oX0_spread sX0_spread lkX5_280 c_X0_spread (by decide) (Nat.le_refl _) (Nat.le_refl _) (Nat.le_of_ble_eq_true rfl) dX5_path_73 ?_
          refine z_topL C (fun v1 ev1 => ?_)
          refine z_lstore C [(6, .long v1), (0, .ref 0), (1, .int (iI c)), (2, .long bc), (4, .long gg), (8, .int (iI ((e : Int))))] dX5_path_76 (by decide) rfl ?_
          obtain ⟨v2, ev2⟩ : ∃ y : Int, y = (e : Int) + 1 := ⟨_, rfl⟩
          refine z_iinc C 5 v2 [(8, .int (iI v2)), (6, .long v1), (0, .ref 0), (1, .int (iI c)), (2, .long bc), (4, .long gg)] dX5_path_78 rfl ev2.symm (by decide) rfl ?_
          refine z_goto C 50 dX5_path_81 (by decide) ?_
          refine zZ_sub [2, 3, 4, 5, 1, 0] rfl ?_
          refine zZ_cast rfl (zLk (zLk (zLk (zLk (zLj (by rw [ev1]; rfl) (zLc (by omega) rfl)))))) rfl (kke (by simp only [firstN, hpe]; rw [if_neg]; simp [pathP, h62]))
        · refine z_iload C 5 rfl dX5_path_66 ?_
          exact zZ_iret C hR (Nat.le_refl _) (Nat.le_refl _) dX5_path_68 rfl (zIs_I (by rw [uR0 (show fHasW I c = 0 by (try simp only [decide_eq_true_eq, decide_eq_false_iff_not, bI] at *); unfold fHasW; (repeat' split) <;> first | rfl | omega | (exfalso; simp_all; done) | (exfalso; simp_all; omega))]; rw [← egg, ← ebd, ← ebc]; unfold pathN; rw [firstN_some hee hpe (by simp [pathP, h62])]) (by rw [uI0 (show fHasW I c = 0 by (try simp only [decide_eq_true_eq, decide_eq_false_iff_not, bI] at *); unfold fHasW; (repeat' split) <;> first | rfl | omega | (exfalso; simp_all; done) | (exfalso; simp_all; omega))]))
    · intro hpe
      refine z_iload C 5 rfl dX5_path_50 ?_
      refine z_bipush C dX5_path_52 (by decide) ?_
      refine z_icmp_ge C 84 dX5_path_54 (by decide) (by omega) (by omega) (fun h54 => ?_) (fun h54 => ?_)
      · refine z_iconst C dX5_path_84 ?_
        exact zZ_iret C hR (Nat.le_refl _) (Nat.le_refl _) dX5_path_85 rfl (zIs_I (by rw [uR0 (show fHasW I c = 0 by (try simp only [decide_eq_true_eq, decide_eq_false_iff_not, bI] at *); unfold fHasW; (repeat' split) <;> first | rfl | omega | (exfalso; simp_all; done) | (exfalso; simp_all; omega))]; rw [← egg, ← ebd, ← ebc]; unfold pathN; rw [hpe]) (by rw [uI0 (show fHasW I c = 0 by (try simp only [decide_eq_true_eq, decide_eq_false_iff_not, bI] at *); unfold fHasW; (repeat' split) <;> first | rfl | omega | (exfalso; simp_all; done) | (exfalso; simp_all; omega))]))
      · omega
  · refine z_aload_n C 0 rfl dX5_path_11 rfl ?_
    refine z_bipush C dX5_path_12 (by decide) ?_
    refine y_callV1 C oX5_refuse iX5_refuse eX5_refuse lkX5_59 (c_X5_refuse (by first | assumption | omega)) rfl (by decide) rfl rfl (by decide) (Nat.le_refl _) (Nat.le_refl _) (Nat.le_of_ble_eq_true rfl) dX5_path_14 ?_
    exact zZ_iret C hR (Nat.le_refl _) (Nat.le_refl _) dX5_path_17 rfl (zIs_I (uRc (show fHasW I c = -2 by (try simp only [decide_eq_true_eq, decide_eq_false_iff_not, bI] at *); unfold fHasW; (repeat' split) <;> first | rfl | omega | (exfalso; simp_all; done) | (exfalso; simp_all; omega)) (by decide)).symm (by rw [uIc (show fHasW I c = -2 by (try simp only [decide_eq_true_eq, decide_eq_false_iff_not, bI] at *); unfold fHasW; (repeat' split) <;> first | rfl | omega | (exfalso; simp_all; done) | (exfalso; simp_all; omega)) (by decide)]))
set_option maxHeartbeats 4000000 in
set_option maxRecDepth 100000 in
theorem c_X5_goesSo {g : zG} {I : Nat → Nat → Int} {J : Nat → Nat → Int64} {q : Nat × Nat} {w t r : Nat} {kd n : Int} (itt : isL t) (irr : isL r) (hg : gH I 1) (hq : gS I 4) (hw : w < 5) (hkd : 0 ≤ kd ∧ kd ≤ 5) (hn : 0 ≤ n ∧ n ≤ 40) (hf : ∀ k, k < n.toNat → 0 ≤ (J (t + 1) k).toInt ∧ (J (t + 1) k).toInt ≤ 66) (hh : ∀ k, k < n.toNat → 0 ≤ (J (r + 1) k).toInt ∧ (J (r + 1) k).toInt ≤ 66) : zRuns g mX5_goesSo 5 0 0 [.ref 0, .int (iI ((w : Int))), .int (iI kd), .ref t, .ref r, .int (iI n)] (zst I J q) (zEx (some (.int (iI (bI (goesN (hv I J 1) (I 5) w kd (J (t + 1)) (J (r + 1)) n.toNat))))) (fun p : SP => zst (zSq I 36 p) J q)) := by
  obtain ⟨g1, g2, g3, g4, g5, g6⟩ := id hg
  obtain ⟨k1, k2, k3⟩ := id hq
  have k3 : ∀ e, e < 5 → 0 ≤ I 5 e ∧ I 5 e ≤ 66 := k3
  have hsp := fun k (hk : k ≤ n.toNat) => sogoP_r (H := hv I J 1) (w := w) (kd := kd) (f := J (t + 1)) k3 hh k hk
  refine zRuns_intro rfl (Nat.le_of_ble_eq_true rfl) (fun X C hR => ?_)
  show zZ g X 0 0 _ 0 [(0, .ref 0), (1, .int (iI ((w : Int)))), (2, .int (iI kd)), (3, .ref t), (4, .ref r), (5, .int (iI n))] []
  refine z_aload_n C 0 rfl dX5_goesSo_0 rfl ?_
  refine y_getR C zCl5 6 flX5_44 rfl rfl rfl dX5_goesSo_1 ?_
  refine z_aload_n C 0 rfl dX5_goesSo_4 rfl ?_
  refine y_getR C zCl5 0 flX5_10 rfl rfl rfl dX5_goesSo_5 ?_
  refine y_getR C zCl0 9 flX5_118 rfl rfl rfl dX5_goesSo_8 ?_
  refine y_callV1 C oX3_setTo iX3_setTo eX3_setTo lkX5_191 (c_X3_setTo isS_36 isS_4) rfl (by decide) rfl rfl (by decide) (Nat.le_refl _) (Nat.le_refl _) (Nat.le_of_ble_eq_true rfl) dX5_goesSo_11 ?_
  refine zZ_cast (σ' := zst (zSq I 36 (I 4 0, I 4 1, I 5)) J q) rfl rfl rfl ?_
  refine z_iconst C dX5_goesSo_14 ?_
  refine z_istore C [(6, .int (iI 0)), (0, .ref 0), (1, .int (iI ((w : Int)))), (2, .int (iI kd)), (3, .ref t), (4, .ref r), (5, .int (iI n))] dX5_goesSo_15 (by decide) rfl ?_
  refine zZ_sub [1, 2, 3, 4, 5, 6, 0] rfl ?_
  refine zZ_cast (σ' := (fun (e : Nat) (dd : Int) => zst (zSq I 36 (dd, I 4 1, sogoP (hv I J 1) (I 5) w kd (J (t + 1)) (J (r + 1)) e)) J q) 0 (I 4 0)) (L' := (fun (e : Nat) (dd : Int) => [(0, .ref 0), (1, .int (iI ((w : Int)))), (2, .int (iI kd)), (3, .ref t), (4, .ref r), (5, .int (iI n)), (6, .int (iI (e : Int)))]) 0 (I 4 0)) rfl rfl rfl ?_
  refine zforE (n.toNat) (fun e _ => firstN (fun k => !sogoN (hv I J 1) (I 5) w kd (J (t + 1)) (J (r + 1)) k) e = none) (fun (e : Nat) (dd : Int) => zst (zSq I 36 (dd, I 4 1, sogoP (hv I J 1) (I 5) w kd (J (t + 1)) (J (r + 1)) e)) J q) (fun (e : Nat) (dd : Int) => [(0, .ref 0), (1, .int (iI ((w : Int)))), (2, .int (iI kd)), (3, .ref t), (4, .ref r), (5, .int (iI n)), (6, .int (iI (e : Int)))]) (I 4 0) rfl ?_ ?_
  · intro e dd hee hpe kke
    have hfe := hf e hee
    have hhe := hh e hee
    have hse := hsp e (by omega)
    refine z_iload C 6 rfl dX5_goesSo_17 ?_
    refine z_iload C 5 rfl dX5_goesSo_19 ?_
    refine z_icmp_ge C 88 dX5_goesSo_21 (by decide) (by omega) (by omega) (fun h21 => ?_) (fun h21 => ?_)
    · omega
    · refine z_aload_n C 0 rfl dX5_goesSo_24 rfl ?_
      refine y_getR C zCl5 6 flX5_44 rfl rfl rfl dX5_goesSo_25 ?_
      refine z_aload_n C 3 rfl dX5_goesSo_28 rfl ?_
      refine y_getR C zCl2 2 flX5_75 rfl (lay_l itt) (rt_l itt) dX5_goesSo_29 ?_
      refine z_iload C 6 rfl dX5_goesSo_32 ?_
      refine y_lald C e (by omega) (lay_l1 itt) (by omega) (by decide) dX5_goesSo_34 ?_
      refine z_l2i C (J (t + 1) e).toInt dX5_goesSo_35 (l2i_eq _) ?_
      refine y_putI C zCl3 0 flX5_150 rfl rfl rfl rfl dX5_goesSo_36 ?_
      refine zZ_cast (σ' := zst (zSq I 36 ((J (t + 1) e).toInt, I 4 1, sogoP (hv I J 1) (I 5) w kd (J (t + 1)) (J (r + 1)) e)) J q) (by refine congrArg (fun I' => zst I' J q) ?_; exact zSp_put0.trans zSp_zSp) rfl rfl ?_
      refine z_aload_n C 0 rfl dX5_goesSo_39 rfl ?_
      refine y_getR C zCl5 0 flX5_10 rfl rfl rfl dX5_goesSo_40 ?_
      refine z_aload_n C 0 rfl dX5_goesSo_43 rfl ?_
      refine y_getR C zCl5 6 flX5_44 rfl rfl rfl dX5_goesSo_44 ?_
      refine z_iload_n C 1 rfl dX5_goesSo_47 rfl ?_
      refine z_iload_n C 2 rfl dX5_goesSo_48 rfl ?_
      refine y_callV3 C oX0_goalOf iX0_goalOf eX0_goalOf lkX5_121 (c_X0_goalOf isH_1 isS_36 (gH_sp isH_1 isS_36 hg) (gS_of (p := ((J (t + 1) e).toInt, I 4 1, sogoP (hv I J 1) (I 5) w kd (J (t + 1)) (J (r + 1)) e)) ⟨hfe, k2, hse⟩) (by first | assumption | omega) (by first | assumption | omega)) rfl (by decide) rfl rfl (by decide) (Nat.le_refl _) (Nat.le_refl _) (Nat.le_of_ble_eq_true rfl) dX5_goesSo_49 ?_
      refine z_topI C (fun go ego => ?_)
      refine z_istore C [(7, .int (iI go)), (0, .ref 0), (1, .int (iI ((w : Int)))), (2, .int (iI kd)), (3, .ref t), (4, .ref r), (5, .int (iI n)), (6, .int (iI ((e : Int))))] dX5_goesSo_52 (by decide) rfl ?_
      have ego : go = goalN (hv I J 1) (J (t + 1) e).toInt (sogoP (hv I J 1) (I 5) w kd (J (t + 1)) (J (r + 1)) e) w kd := ego
      have hgr := goalN_r (J := J) (dog := (J (t + 1) e).toInt) (kd := kd) hg hse hw
      rw [← ego] at hgr
      refine z_iload C 0 rfl dX5_goesSo_54 ?_
      refine z_i2l C ((iI go).toInt64) dX5_goesSo_56 rfl ?_
      refine z_aload C 5 rfl dX5_goesSo_57 ?_
      refine y_getR C zCl2 2 flX5_75 rfl (lay_l irr) (rt_l irr) dX5_goesSo_59 ?_
      refine z_iload C 7 rfl dX5_goesSo_62 ?_
      refine y_lald C e (by omega) (lay_l1 irr) (by omega) (by decide) dX5_goesSo_64 ?_
      refine z_lcmp_eq C 71 dX5_goesSo_65 dX5_goesSo_66 (by decide) (fun h65 => ?_) (fun h65 => ?_)
      · refine z_aload_n C 1 rfl dX5_goesSo_71 rfl ?_
        refine y_getR C zCl5 6 flX5_44 rfl rfl rfl dX5_goesSo_72 ?_
        refine y_getR C zCl3 2 flX5_162 rfl rfl rfl dX5_goesSo_75 ?_
        refine z_iload_n C 2 rfl dX5_goesSo_78 rfl ?_
        refine z_iload C 0 rfl dX5_goesSo_79 ?_
        refine y_iast C w (by omega) rfl (by omega) (by decide) dX5_goesSo_81 ?_
        obtain ⟨v1, ev1⟩ : ∃ y : Int, y = (e : Int) + 1 := ⟨_, rfl⟩
        refine z_iinc C 7 v1 [(6, .int (iI v1)), (7, .int (iI go)), (0, .ref 0), (1, .int (iI ((w : Int)))), (2, .int (iI kd)), (3, .ref t), (4, .ref r), (5, .int (iI n))] dX5_goesSo_82 rfl ev1.symm (by decide) rfl ?_
        refine z_goto C 17 dX5_goesSo_85 (by decide) ?_
        refine zZ_sub [2, 3, 4, 5, 6, 7, 0] rfl ?_
        have hgoe : go = (J (r + 1) e).toInt := by rw [← h65]; exact (i2l_toInt (by omega)).symm
        refine zZ_cast (by refine congrArg (fun I' => zst I' J q) ?_; refine zSq_put.trans ?_; simp only [sogoP]; rw [← hgoe]) (zLk (zLk (zLk (zLk (zLk (zLk (zLc (by omega) rfl))))))) rfl (kke (J (t + 1) e).toInt (by simp only [firstN, hpe]; rw [if_neg]; simp only [sogoN]; rw [← ego, hgoe]; simp))
      · refine z_iconst C dX5_goesSo_69 ?_
        exact zZ_zret C hR (Nat.le_refl _) (Nat.le_refl _) dX5_goesSo_70 rfl (Or.inl rfl) (zEx_I (by unfold goesN; rw [firstN_some hee hpe (by simp only [sogoN, ← ego]; simp; intro hz; exact h65 (Int64.toInt_inj.mp ((i2l_toInt (by omega)).trans hz)))]; rfl) _ rfl)
  · intro dd hpe
    refine z_iload C 6 rfl dX5_goesSo_17 ?_
    refine z_iload C 5 rfl dX5_goesSo_19 ?_
    refine z_icmp_ge C 88 dX5_goesSo_21 (by decide) (by omega) (by omega) (fun h21 => ?_) (fun h21 => ?_)
    · refine z_iconst C dX5_goesSo_88 ?_
      exact zZ_zret C hR (Nat.le_refl _) (Nat.le_refl _) dX5_goesSo_89 rfl (Or.inr rfl) (zEx_I (by unfold goesN; rw [hpe]; rfl) (dd, I 4 1, sogoP (hv I J 1) (I 5) w kd (J (t + 1)) (J (r + 1)) n.toNat) rfl)
    · omega
