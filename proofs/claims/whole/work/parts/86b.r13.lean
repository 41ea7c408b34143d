set_option maxHeartbeats 4000000 in
set_option maxRecDepth 100000 in
theorem c_X6_keep_69 {g : zG} {I : Nat → Nat → Int} {J : Nat → Nat → Int64} {q : Nat × Nat}  (hgr : gR I) : zRun g mX6_keep 0 [.ref 58, .ref 69] (zst I J q) (none) (zst (kpI I 69) J q) := by
  obtain ⟨b1, b2, b3, b4, b5, b6, b7⟩ := id hgr
  refine zRuns_intro rfl (Nat.le_of_ble_eq_true rfl) (fun X C hR => ?_)
  show zZ g X 0 0 _ 0 [(0, .ref 58), (1, .ref 69)] []
  refine z_iconst C dX6_keep_0 ?_
  refine z_istore_n C [(2, .int (iI 0)), (0, .ref 58), (1, .ref 69)] dX6_keep_1 rfl (by decide) rfl ?_
  refine zZ_sub [1, 2, 0] rfl ?_
  refine zZ_cast (σ' := (fun e : Nat => zst (mixP I (kpB I) (kpP 69 e)) J q) 0) (L' := (fun e : Nat => [(0, .ref 58), (1, .ref 69), (2, .int (iI (e : Int)))]) 0) (by refine congrArg (fun I' => zst I' J q) ?_; exact (mixP_0 (fun a b => by simp [kpP])).symm) rfl rfl ?_
  refine zfor (67) (fun _ => True) (fun e : Nat => zst (mixP I (kpB I) (kpP 69 e)) J q) (fun e : Nat => [(0, .ref 58), (1, .ref 69), (2, .int (iI (e : Int)))]) trivial ?_ ?_
  · intro e hee hpe kke
    have hwl := b7 e (by omega)
    refine z_iload_n C 2 rfl dX6_keep_2 rfl ?_
    refine z_bipush C dX6_keep_3 (by decide) ?_
    refine z_icmp_ge C 31 dX6_keep_5 (by decide) (by omega) (by omega) (fun h5 => ?_) (fun h5 => ?_)
    · omega
    · refine z_aload_n C 1 rfl dX6_keep_8 rfl ?_
      refine z_iload_n C 2 rfl dX6_keep_9 rfl ?_
      refine z_aload_n C 0 rfl dX6_keep_10 rfl ?_
      refine y_getR C zCl6 1 flX6_7 rfl rfl rfl dX6_keep_11 ?_
      refine z_iload_n C 2 rfl dX6_keep_14 rfl ?_
      refine y_zald C e (by omega) rfl (by omega) (by decide) dX6_keep_15 ?_
      refine z_top C (I 59 e) (rfl) ?_
      refine z_if_eq C 23 dX6_keep_16 (by decide) (by omega) (fun h16 => ?_) (fun h16 => ?_)
      · refine z_iconst C dX6_keep_23 ?_
        refine y_iast C e (by omega) rfl (by omega) (by decide) dX6_keep_24 ?_
        obtain ⟨v1, ev1⟩ : ∃ y : Int, y = (e : Int) + 1 := ⟨_, rfl⟩
        refine z_iinc C 2 v1 [(2, .int (iI v1)), (0, .ref 58), (1, .ref 69)] dX6_keep_25 rfl ev1.symm (by decide) rfl ?_
        refine z_goto C 2 dX6_keep_28 (by decide) ?_
        refine zZ_sub [1, 2, 0] rfl ?_
        refine zZ_cast (by refine congrArg (fun I' => zst I' J q) ?_; exact mixP_s (by unfold kpB kpF; rw [if_pos (by omega)]; omega) (fun a b => by simp only [kpP, decide_eq_true_eq]; omega)) (zLk (zLk (zLc (by omega) rfl))) rfl (kke trivial)
      · refine z_iconst C dX6_keep_19 ?_
        refine z_goto C 24 dX6_keep_20 (by decide) ?_
        refine y_iast C e (by omega) rfl (by omega) (by decide) dX6_keep_24 ?_
        obtain ⟨v2, ev2⟩ : ∃ y : Int, y = (e : Int) + 1 := ⟨_, rfl⟩
        refine z_iinc C 2 v2 [(2, .int (iI v2)), (0, .ref 58), (1, .ref 69)] dX6_keep_25 rfl ev2.symm (by decide) rfl ?_
        refine z_goto C 2 dX6_keep_28 (by decide) ?_
        refine zZ_sub [1, 2, 0] rfl ?_
        refine zZ_cast (by refine congrArg (fun I' => zst I' J q) ?_; exact mixP_s (by unfold kpB kpF; rw [if_pos (by omega)]; omega) (fun a b => by simp only [kpP, decide_eq_true_eq]; omega)) (zLk (zLk (zLc (by omega) rfl))) rfl (kke trivial)
  · intro hpe
    refine z_iload_n C 2 rfl dX6_keep_2 rfl ?_
    refine z_bipush C dX6_keep_3 (by decide) ?_
    refine z_icmp_ge C 31 dX6_keep_5 (by decide) (by omega) (by omega) (fun h5 => ?_) (fun h5 => ?_)
    · refine z_iconst C dX6_keep_31 ?_
      refine z_istore_n C [(2, .int (iI 0)), (0, .ref 58), (1, .ref 69)] dX6_keep_32 rfl (by decide) rfl ?_
      refine zZ_sub [1, 2, 0] rfl ?_
      refine zZ_cast (σ' := (fun e : Nat => zst (mixP I (kpB I) (kpQ 69 e)) J q) 0) (L' := (fun e : Nat => [(0, .ref 58), (1, .ref 69), (2, .int (iI (e : Int)))]) 0) (by refine congrArg (fun I' => zst I' J q) ?_; exact mixP_c (fun a b => by simp only [kpQ, kpP, decide_eq_true_eq]; omega)) rfl rfl ?_
      refine zfor (5) (fun _ => True) (fun e : Nat => zst (mixP I (kpB I) (kpQ 69 e)) J q) (fun e : Nat => [(0, .ref 58), (1, .ref 69), (2, .int (iI (e : Int)))]) trivial ?_ ?_
      · intro e hee hpe kke
        refine z_iload_n C 2 rfl dX6_keep_33 rfl ?_
        refine z_iconst C dX6_keep_34 ?_
        refine z_icmp_ge C 80 dX6_keep_35 (by decide) (by omega) (by omega) (fun h35 => ?_) (fun h35 => ?_)
        · omega
        · refine z_aload_n C 1 rfl dX6_keep_38 rfl ?_
          refine z_bipush C dX6_keep_39 (by decide) ?_
          refine z_iload_n C 2 rfl dX6_keep_41 rfl ?_
          refine z_iadd C dX6_keep_42 ?_
          refine z_aload_n C 0 rfl dX6_keep_43 rfl ?_
          refine y_getR C zCl6 6 flX6_13 rfl rfl rfl dX6_keep_44 ?_
          refine z_iload_n C 2 rfl dX6_keep_47 rfl ?_
          refine y_iald C e (by omega) rfl (by omega) (by decide) dX6_keep_48 ?_
          refine z_top C (I 60 e) (mixP_n (by simp [kpQ])) ?_
          refine y_iast C (67 + e) (by omega) rfl (by omega) (by decide) dX6_keep_49 ?_
          refine zZ_cast (σ' := zst (mixP I (kpB I) (kpQ1 69 e)) J q)  (by refine congrArg (fun I' => zst I' J q) ?_; exact mixP_s (by unfold kpB kpF; rw [if_neg (by omega), if_pos (by omega), show 67 + e - 67 = e by omega]) (fun a b => by simp only [kpQ, kpQ1, decide_eq_true_eq]; omega)) rfl rfl ?_
          refine z_aload_n C 1 rfl dX6_keep_50 rfl ?_
          refine z_bipush C dX6_keep_51 (by decide) ?_
          refine z_iload_n C 2 rfl dX6_keep_53 rfl ?_
          refine z_iadd C dX6_keep_54 ?_
          refine z_aload_n C 0 rfl dX6_keep_55 rfl ?_
          refine y_getR C zCl6 7 flX6_17 rfl rfl rfl dX6_keep_56 ?_
          refine z_iload_n C 2 rfl dX6_keep_59 rfl ?_
          refine y_iald C e (by omega) rfl (by omega) (by decide) dX6_keep_60 ?_
          refine z_top C (I 61 e) (mixP_n (by simp [kpQ1])) ?_
          refine y_iast C (72 + e) (by omega) rfl (by omega) (by decide) dX6_keep_61 ?_
          refine zZ_cast (σ' := zst (mixP I (kpB I) (kpQ2 69 e)) J q)  (by refine congrArg (fun I' => zst I' J q) ?_; exact mixP_s (by unfold kpB kpF; rw [if_neg (by omega), if_neg (by omega), if_pos (by omega), show 72 + e - 72 = e by omega]) (fun a b => by simp only [kpQ1, kpQ2, decide_eq_true_eq]; omega)) rfl rfl ?_
          refine z_aload_n C 1 rfl dX6_keep_62 rfl ?_
          refine z_bipush C dX6_keep_63 (by decide) ?_
          refine z_iload_n C 2 rfl dX6_keep_65 rfl ?_
          refine z_iadd C dX6_keep_66 ?_
          refine z_aload_n C 0 rfl dX6_keep_67 rfl ?_
          refine y_getR C zCl6 8 flX6_20 rfl rfl rfl dX6_keep_68 ?_
          refine z_iload_n C 2 rfl dX6_keep_71 rfl ?_
          refine y_iald C e (by omega) rfl (by omega) (by decide) dX6_keep_72 ?_
          refine z_top C (I 62 e) (mixP_n (by simp [kpQ2])) ?_
          refine y_iast C (77 + e) (by omega) rfl (by omega) (by decide) dX6_keep_73 ?_
          obtain ⟨v3, ev3⟩ : ∃ y : Int, y = (e : Int) + 1 := ⟨_, rfl⟩
          refine z_iinc C 2 v3 [(2, .int (iI v3)), (0, .ref 58), (1, .ref 69)] dX6_keep_74 rfl ev3.symm (by decide) rfl ?_
          refine z_goto C 33 dX6_keep_77 (by decide) ?_
          refine zZ_sub [1, 2, 0] rfl ?_
          refine zZ_cast (by refine congrArg (fun I' => zst I' J q) ?_; exact mixP_s (by unfold kpB kpF; rw [if_neg (by omega), if_neg (by omega), if_neg (by omega), if_pos (by omega), show 77 + e - 77 = e by omega]) (fun a b => by simp only [kpQ, kpQ2, decide_eq_true_eq]; omega)) (zLk (zLk (zLc (by omega) rfl))) rfl (kke trivial)
      · intro hpe
        refine zZ_cast (σ' := zst (mixP I (kpB I) (kpP 69 82)) J q) (by refine congrArg (fun I' => zst I' J q) ?_; exact mixP_c (fun a b => by simp only [kpQ, kpP, decide_eq_true_eq]; omega)) rfl rfl ?_
        refine z_iload_n C 2 rfl dX6_keep_33 rfl ?_
        refine z_iconst C dX6_keep_34 ?_
        refine z_icmp_ge C 80 dX6_keep_35 (by decide) (by omega) (by omega) (fun h35 => ?_) (fun h35 => ?_)
        · refine z_aload_n C 1 rfl dX6_keep_80 rfl ?_
          refine z_bipush C dX6_keep_81 (by decide) ?_
          refine z_aload_n C 0 rfl dX6_keep_83 rfl ?_
          refine y_getI C zCl6 0 flX6_57 rfl rfl dX6_keep_84 ?_
          refine z_top C (I 58 0) (mixP_n (by simp [kpP])) ?_
          refine y_iast C 82 rfl rfl (by decide) (by decide) dX6_keep_87 ?_
          refine zZ_cast (σ' := zst (mixP I (kpB I) (kpP 69 83)) J q)  (by refine congrArg (fun I' => zst I' J q) ?_; exact mixP_s (by rfl) (fun a b => by simp only [kpP, decide_eq_true_eq]; omega)) rfl rfl ?_
          refine z_aload_n C 1 rfl dX6_keep_88 rfl ?_
          refine z_bipush C dX6_keep_89 (by decide) ?_
          refine z_aload_n C 0 rfl dX6_keep_91 rfl ?_
          refine y_getI C zCl6 2 flX6_119 rfl rfl dX6_keep_92 ?_
          refine z_top C (I 58 2) (mixP_n (by simp [kpP])) ?_
          refine y_iast C 83 rfl rfl (by decide) (by decide) dX6_keep_95 ?_
          refine zZ_cast (σ' := zst (mixP I (kpB I) (kpP 69 84)) J q)  (by refine congrArg (fun I' => zst I' J q) ?_; exact mixP_s (by rfl) (fun a b => by simp only [kpP, decide_eq_true_eq]; omega)) rfl rfl ?_
          refine z_aload_n C 1 rfl dX6_keep_96 rfl ?_
          refine z_bipush C dX6_keep_97 (by decide) ?_
          refine z_aload_n C 0 rfl dX6_keep_99 rfl ?_
          refine y_getI C zCl6 3 flX6_61 rfl rfl dX6_keep_100 ?_
          refine z_top C (I 58 3) (mixP_n (by simp [kpP])) ?_
          refine y_iast C 84 rfl rfl (by decide) (by decide) dX6_keep_103 ?_
          refine zZ_cast (σ' := zst (mixP I (kpB I) (kpP 69 85)) J q)  (by refine congrArg (fun I' => zst I' J q) ?_; exact mixP_s (by rfl) (fun a b => by simp only [kpP, decide_eq_true_eq]; omega)) rfl rfl ?_
          refine z_aload_n C 1 rfl dX6_keep_104 rfl ?_
          refine z_bipush C dX6_keep_105 (by decide) ?_
          refine z_aload_n C 0 rfl dX6_keep_107 rfl ?_
          refine y_getI C zCl6 4 flX6_235 rfl rfl dX6_keep_108 ?_
          refine z_top C (I 58 4) (mixP_n (by simp [kpP])) ?_
          refine y_iast C 85 rfl rfl (by decide) (by decide) dX6_keep_111 ?_
          refine zZ_cast (σ' := zst (mixP I (kpB I) (kpP 69 86)) J q)  (by refine congrArg (fun I' => zst I' J q) ?_; exact mixP_s (by rfl) (fun a b => by simp only [kpP, decide_eq_true_eq]; omega)) rfl rfl ?_
          refine z_aload_n C 1 rfl dX6_keep_112 rfl ?_
          refine z_bipush C dX6_keep_113 (by decide) ?_
          refine z_aload_n C 0 rfl dX6_keep_115 rfl ?_
          refine y_getI C zCl6 5 flX6_72 rfl rfl dX6_keep_116 ?_
          refine z_top C (I 58 5) (mixP_n (by simp [kpP])) ?_
          refine y_iast C 86 rfl rfl (by decide) (by decide) dX6_keep_119 ?_
          refine zZ_cast (σ' := zst (mixP I (kpB I) (kpP 69 87)) J q)  (by refine congrArg (fun I' => zst I' J q) ?_; exact mixP_s (by rfl) (fun a b => by simp only [kpP, decide_eq_true_eq]; omega)) rfl rfl ?_
          refine z_aload_n C 1 rfl dX6_keep_120 rfl ?_
          refine z_bipush C dX6_keep_121 (by decide) ?_
          refine z_aload_n C 0 rfl dX6_keep_123 rfl ?_
          refine y_getI C zCl6 9 flX6_64 rfl rfl dX6_keep_124 ?_
          refine z_top C (I 58 9) (mixP_n (by simp [kpP])) ?_
          refine y_iast C 87 rfl rfl (by decide) (by decide) dX6_keep_127 ?_
          refine zZ_cast (σ' := zst (mixP I (kpB I) (kpP 69 88)) J q)  (by refine congrArg (fun I' => zst I' J q) ?_; exact mixP_s (by rfl) (fun a b => by simp only [kpP, decide_eq_true_eq]; omega)) rfl rfl ?_
          refine z_aload_n C 1 rfl dX6_keep_128 rfl ?_
          refine z_bipush C dX6_keep_129 (by decide) ?_
          refine z_aload_n C 0 rfl dX6_keep_131 rfl ?_
          refine y_getI C zCl6 10 flX6_299 rfl rfl dX6_keep_132 ?_
          refine z_top C (I 58 10) (mixP_n (by simp [kpP])) ?_
          refine y_iast C 88 rfl rfl (by decide) (by decide) dX6_keep_135 ?_
          refine zZ_cast (σ' := zst (mixP I (kpB I) (kpP 69 89)) J q)  (by refine congrArg (fun I' => zst I' J q) ?_; exact mixP_s (by rfl) (fun a b => by simp only [kpP, decide_eq_true_eq]; omega)) rfl rfl ?_
          refine z_aload_n C 1 rfl dX6_keep_136 rfl ?_
          refine z_bipush C dX6_keep_137 (by decide) ?_
          refine z_aload_n C 0 rfl dX6_keep_139 rfl ?_
          refine y_getI C zCl6 11 flX6_67 rfl rfl dX6_keep_140 ?_
          refine z_top C (I 58 11) (mixP_n (by simp [kpP])) ?_
          refine y_iast C 89 rfl rfl (by decide) (by decide) dX6_keep_143 ?_
          refine zZ_cast (σ' := zst (mixP I (kpB I) (kpP 69 90)) J q)  (by refine congrArg (fun I' => zst I' J q) ?_; exact mixP_s (by rfl) (fun a b => by simp only [kpP, decide_eq_true_eq]; omega)) rfl rfl ?_
          exact zZ_vret C hR (Nat.le_refl _) (Nat.le_refl _) dX6_keep_144 rfl (zIs_V rfl)
        · omega
    · omega
