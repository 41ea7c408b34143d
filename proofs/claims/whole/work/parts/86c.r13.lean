set_option maxHeartbeats 4000000 in
set_option maxRecDepth 100000 in
theorem c_X6_keepBack_68 {g : zG} {I : Nat → Nat → Int} {J : Nat → Nat → Int64} {q : Nat × Nat}  (hwk : ∀ k, k < 67 → I 68 k = 0 ∨ I 68 k = 1) : zRun g mX6_keepBack 0 [.ref 58, .ref 68] (zst I J q) (none) (zst (kbI I 68) J q) := by
  refine zRuns_intro rfl (Nat.le_of_ble_eq_true rfl) (fun X C hR => ?_)
  show zZ g X 0 0 _ 0 [(0, .ref 58), (1, .ref 68)] []
  refine z_iconst C dX6_keepBack_0 ?_
  refine z_istore_n C [(2, .int (iI 0)), (0, .ref 58), (1, .ref 68)] dX6_keepBack_1 rfl (by decide) rfl ?_
  refine zZ_sub [1, 2, 0] rfl ?_
  refine zZ_cast (σ' := (fun e : Nat => zst (mixP I (kbB I 68) (kbP e)) J q) 0) (L' := (fun e : Nat => [(0, .ref 58), (1, .ref 68), (2, .int (iI (e : Int)))]) 0) (by refine congrArg (fun I' => zst I' J q) ?_; exact (mixP_0 (fun a b => by simp [kbP])).symm) rfl rfl ?_
  refine zfor (67) (fun _ => True) (fun e : Nat => zst (mixP I (kbB I 68) (kbP e)) J q) (fun e : Nat => [(0, .ref 58), (1, .ref 68), (2, .int (iI (e : Int)))]) trivial ?_ ?_
  · intro e hee hpe kke
    have hwl := hwk e (by omega)
    refine z_iload_n C 2 rfl dX6_keepBack_2 rfl ?_
    refine z_bipush C dX6_keepBack_3 (by decide) ?_
    refine z_icmp_ge C 32 dX6_keepBack_5 (by decide) (by omega) (by omega) (fun h5 => ?_) (fun h5 => ?_)
    · omega
    · refine z_aload_n C 0 rfl dX6_keepBack_8 rfl ?_
      refine y_getR C zCl6 1 flX6_7 rfl rfl rfl dX6_keepBack_9 ?_
      refine z_iload_n C 2 rfl dX6_keepBack_12 rfl ?_
      refine z_aload_n C 1 rfl dX6_keepBack_13 rfl ?_
      refine z_iload_n C 2 rfl dX6_keepBack_14 rfl ?_
      refine y_iald C e (by omega) rfl (by omega) (by decide) dX6_keepBack_15 ?_
      refine z_top C (I 68 e) (mixP_n (by simp [kbP])) ?_
      refine z_iconst C dX6_keepBack_16 ?_
      refine z_icmp_ne C 24 dX6_keepBack_17 (by decide) (by omega) (by omega) (fun h17 => ?_) (fun h17 => ?_)
      · refine z_iconst C dX6_keepBack_24 ?_
        refine y_zast C e (by omega) rfl (by omega) (by decide) (by first | exact .inl rfl | exact .inr rfl) dX6_keepBack_25 ?_
        obtain ⟨v1, ev1⟩ : ∃ y : Int, y = (e : Int) + 1 := ⟨_, rfl⟩
        refine z_iinc C 2 v1 [(2, .int (iI v1)), (0, .ref 58), (1, .ref 68)] dX6_keepBack_26 rfl ev1.symm (by decide) rfl ?_
        refine z_goto C 2 dX6_keepBack_29 (by decide) ?_
        refine zZ_sub [1, 2, 0] rfl ?_
        refine zZ_cast (by refine congrArg (fun I' => zst I' J q) ?_; exact mixP_s (by unfold kbB; rw [if_pos rfl, if_neg h17]) (fun a b => by simp only [kbP, decide_eq_true_eq]; omega)) (zLk (zLk (zLc (by omega) rfl))) rfl (kke trivial)
      · refine z_iconst C dX6_keepBack_20 ?_
        refine z_goto C 25 dX6_keepBack_21 (by decide) ?_
        refine y_zast C e (by omega) rfl (by omega) (by decide) (by first | exact .inl rfl | exact .inr rfl) dX6_keepBack_25 ?_
        obtain ⟨v2, ev2⟩ : ∃ y : Int, y = (e : Int) + 1 := ⟨_, rfl⟩
        refine z_iinc C 2 v2 [(2, .int (iI v2)), (0, .ref 58), (1, .ref 68)] dX6_keepBack_26 rfl ev2.symm (by decide) rfl ?_
        refine z_goto C 2 dX6_keepBack_29 (by decide) ?_
        refine zZ_sub [1, 2, 0] rfl ?_
        refine zZ_cast (by refine congrArg (fun I' => zst I' J q) ?_; exact mixP_s (by unfold kbB; rw [if_pos rfl, if_pos h17]) (fun a b => by simp only [kbP, decide_eq_true_eq]; omega)) (zLk (zLk (zLc (by omega) rfl))) rfl (kke trivial)
  · intro hpe
    refine z_iload_n C 2 rfl dX6_keepBack_2 rfl ?_
    refine z_bipush C dX6_keepBack_3 (by decide) ?_
    refine z_icmp_ge C 32 dX6_keepBack_5 (by decide) (by omega) (by omega) (fun h5 => ?_) (fun h5 => ?_)
    · refine z_iconst C dX6_keepBack_32 ?_
      refine z_istore_n C [(2, .int (iI 0)), (0, .ref 58), (1, .ref 68)] dX6_keepBack_33 rfl (by decide) rfl ?_
      refine zZ_sub [1, 2, 0] rfl ?_
      refine zZ_cast (σ' := (fun e : Nat => zst (mixP I (kbB I 68) (kbQ e)) J q) 0) (L' := (fun e : Nat => [(0, .ref 58), (1, .ref 68), (2, .int (iI (e : Int)))]) 0) (by refine congrArg (fun I' => zst I' J q) ?_; exact mixP_c (fun a b => by simp only [kbQ, kbP, decide_eq_true_eq]; omega)) rfl rfl ?_
      refine zfor (5) (fun _ => True) (fun e : Nat => zst (mixP I (kbB I 68) (kbQ e)) J q) (fun e : Nat => [(0, .ref 58), (1, .ref 68), (2, .int (iI (e : Int)))]) trivial ?_ ?_
      · intro e hee hpe kke
        refine z_iload_n C 2 rfl dX6_keepBack_34 rfl ?_
        refine z_iconst C dX6_keepBack_35 ?_
        refine z_icmp_ge C 81 dX6_keepBack_36 (by decide) (by omega) (by omega) (fun h36 => ?_) (fun h36 => ?_)
        · omega
        · refine z_aload_n C 0 rfl dX6_keepBack_39 rfl ?_
          refine y_getR C zCl6 6 flX6_13 rfl rfl rfl dX6_keepBack_40 ?_
          refine z_iload_n C 2 rfl dX6_keepBack_43 rfl ?_
          refine z_aload_n C 1 rfl dX6_keepBack_44 rfl ?_
          refine z_bipush C dX6_keepBack_45 (by decide) ?_
          refine z_iload_n C 2 rfl dX6_keepBack_47 rfl ?_
          refine z_iadd C dX6_keepBack_48 ?_
          refine y_iald C (67 + e) (by omega) rfl (by omega) (by decide) dX6_keepBack_49 ?_
          refine z_top C (I 68 (67 + e)) (mixP_n (by simp [kbQ])) ?_
          refine y_iast C e (by omega) rfl (by omega) (by decide) dX6_keepBack_50 ?_
          refine zZ_cast (σ' := zst (mixP I (kbB I 68) (kbQ1 e)) J q)  (by refine congrArg (fun I' => zst I' J q) ?_; exact mixP_s (by rfl) (fun a b => by simp only [kbQ, kbQ1, decide_eq_true_eq]; omega)) rfl rfl ?_
          refine z_aload_n C 0 rfl dX6_keepBack_51 rfl ?_
          refine y_getR C zCl6 7 flX6_17 rfl rfl rfl dX6_keepBack_52 ?_
          refine z_iload_n C 2 rfl dX6_keepBack_55 rfl ?_
          refine z_aload_n C 1 rfl dX6_keepBack_56 rfl ?_
          refine z_bipush C dX6_keepBack_57 (by decide) ?_
          refine z_iload_n C 2 rfl dX6_keepBack_59 rfl ?_
          refine z_iadd C dX6_keepBack_60 ?_
          refine y_iald C (72 + e) (by omega) rfl (by omega) (by decide) dX6_keepBack_61 ?_
          refine z_top C (I 68 (72 + e)) (mixP_n (by simp [kbQ1])) ?_
          refine y_iast C e (by omega) rfl (by omega) (by decide) dX6_keepBack_62 ?_
          refine zZ_cast (σ' := zst (mixP I (kbB I 68) (kbQ2 e)) J q)  (by refine congrArg (fun I' => zst I' J q) ?_; exact mixP_s (by rfl) (fun a b => by simp only [kbQ1, kbQ2, decide_eq_true_eq]; omega)) rfl rfl ?_
          refine z_aload_n C 0 rfl dX6_keepBack_63 rfl ?_
          refine y_getR C zCl6 8 flX6_20 rfl rfl rfl dX6_keepBack_64 ?_
          refine z_iload_n C 2 rfl dX6_keepBack_67 rfl ?_
          refine z_aload_n C 1 rfl dX6_keepBack_68 rfl ?_
          refine z_bipush C dX6_keepBack_69 (by decide) ?_
          refine z_iload_n C 2 rfl dX6_keepBack_71 rfl ?_
          refine z_iadd C dX6_keepBack_72 ?_
          refine y_iald C (77 + e) (by omega) rfl (by omega) (by decide) dX6_keepBack_73 ?_
          refine z_top C (I 68 (77 + e)) (mixP_n (by simp [kbQ2])) ?_
          refine y_iast C e (by omega) rfl (by omega) (by decide) dX6_keepBack_74 ?_
          obtain ⟨v3, ev3⟩ : ∃ y : Int, y = (e : Int) + 1 := ⟨_, rfl⟩
          refine z_iinc C 2 v3 [(2, .int (iI v3)), (0, .ref 58), (1, .ref 68)] dX6_keepBack_75 rfl ev3.symm (by decide) rfl ?_
          refine z_goto C 34 dX6_keepBack_78 (by decide) ?_
          refine zZ_sub [1, 2, 0] rfl ?_
          refine zZ_cast (by refine congrArg (fun I' => zst I' J q) ?_; exact mixP_s rfl (fun a b => by simp only [kbQ, kbQ2, decide_eq_true_eq]; omega)) (zLk (zLk (zLc (by omega) rfl))) rfl (kke trivial)
      · intro hpe
        refine zZ_cast (σ' := zst (mixP I (kbB I 68) (kbR [])) J q) (by refine congrArg (fun I' => zst I' J q) ?_; exact mixP_c (fun a b => by simp only [kbQ, kbR, decide_eq_true_eq, List.not_mem_nil, and_false, or_false])) rfl rfl ?_
        refine z_iload_n C 2 rfl dX6_keepBack_34 rfl ?_
        refine z_iconst C dX6_keepBack_35 ?_
        refine z_icmp_ge C 81 dX6_keepBack_36 (by decide) (by omega) (by omega) (fun h36 => ?_) (fun h36 => ?_)
        · refine z_aload_n C 0 rfl dX6_keepBack_81 rfl ?_
          refine z_aload_n C 1 rfl dX6_keepBack_82 rfl ?_
          refine z_bipush C dX6_keepBack_83 (by decide) ?_
          refine y_iald C 82 rfl rfl (by decide) (by decide) dX6_keepBack_85 ?_
          refine z_top C (I 68 82) (mixP_n (by simp [kbR])) ?_
          refine y_putI C zCl6 0 flX6_57 rfl rfl rfl rfl dX6_keepBack_86 ?_
          refine zZ_cast (σ' := zst (mixP I (kbB I 68) (kbR [0])) J q)  (by refine congrArg (fun I' => zst I' J q) ?_; exact mixP_s rfl kbR_s) rfl rfl ?_
          refine z_aload_n C 0 rfl dX6_keepBack_89 rfl ?_
          refine z_aload_n C 1 rfl dX6_keepBack_90 rfl ?_
          refine z_bipush C dX6_keepBack_91 (by decide) ?_
          refine y_iald C 83 rfl rfl (by decide) (by decide) dX6_keepBack_93 ?_
          refine z_top C (I 68 83) (mixP_n (by simp [kbR])) ?_
          refine y_putI C zCl6 2 flX6_119 rfl rfl rfl rfl dX6_keepBack_94 ?_
          refine zZ_cast (σ' := zst (mixP I (kbB I 68) (kbR [2, 0])) J q)  (by refine congrArg (fun I' => zst I' J q) ?_; exact mixP_s rfl kbR_s) rfl rfl ?_
          refine z_aload_n C 0 rfl dX6_keepBack_97 rfl ?_
          refine z_aload_n C 1 rfl dX6_keepBack_98 rfl ?_
          refine z_bipush C dX6_keepBack_99 (by decide) ?_
          refine y_iald C 84 rfl rfl (by decide) (by decide) dX6_keepBack_101 ?_
          refine z_top C (I 68 84) (mixP_n (by simp [kbR])) ?_
          refine y_putI C zCl6 3 flX6_61 rfl rfl rfl rfl dX6_keepBack_102 ?_
          refine zZ_cast (σ' := zst (mixP I (kbB I 68) (kbR [3, 2, 0])) J q)  (by refine congrArg (fun I' => zst I' J q) ?_; exact mixP_s rfl kbR_s) rfl rfl ?_
          refine z_aload_n C 0 rfl dX6_keepBack_105 rfl ?_
          refine z_aload_n C 1 rfl dX6_keepBack_106 rfl ?_
          refine z_bipush C dX6_keepBack_107 (by decide) ?_
          refine y_iald C 85 rfl rfl (by decide) (by decide) dX6_keepBack_109 ?_
          refine z_top C (I 68 85) (mixP_n (by simp [kbR])) ?_
          refine y_putI C zCl6 4 flX6_235 rfl rfl rfl rfl dX6_keepBack_110 ?_
          refine zZ_cast (σ' := zst (mixP I (kbB I 68) (kbR [4, 3, 2, 0])) J q)  (by refine congrArg (fun I' => zst I' J q) ?_; exact mixP_s rfl kbR_s) rfl rfl ?_
          refine z_aload_n C 0 rfl dX6_keepBack_113 rfl ?_
          refine z_aload_n C 1 rfl dX6_keepBack_114 rfl ?_
          refine z_bipush C dX6_keepBack_115 (by decide) ?_
          refine y_iald C 86 rfl rfl (by decide) (by decide) dX6_keepBack_117 ?_
          refine z_top C (I 68 86) (mixP_n (by simp [kbR])) ?_
          refine y_putI C zCl6 5 flX6_72 rfl rfl rfl rfl dX6_keepBack_118 ?_
          refine zZ_cast (σ' := zst (mixP I (kbB I 68) (kbR [5, 4, 3, 2, 0])) J q)  (by refine congrArg (fun I' => zst I' J q) ?_; exact mixP_s rfl kbR_s) rfl rfl ?_
          refine z_aload_n C 0 rfl dX6_keepBack_121 rfl ?_
          refine z_aload_n C 1 rfl dX6_keepBack_122 rfl ?_
          refine z_bipush C dX6_keepBack_123 (by decide) ?_
          refine y_iald C 87 rfl rfl (by decide) (by decide) dX6_keepBack_125 ?_
          refine z_top C (I 68 87) (mixP_n (by simp [kbR])) ?_
          refine y_putI C zCl6 9 flX6_64 rfl rfl rfl rfl dX6_keepBack_126 ?_
          refine zZ_cast (σ' := zst (mixP I (kbB I 68) (kbR [9, 5, 4, 3, 2, 0])) J q)  (by refine congrArg (fun I' => zst I' J q) ?_; exact mixP_s rfl kbR_s) rfl rfl ?_
          refine z_aload_n C 0 rfl dX6_keepBack_129 rfl ?_
          refine z_aload_n C 1 rfl dX6_keepBack_130 rfl ?_
          refine z_bipush C dX6_keepBack_131 (by decide) ?_
          refine y_iald C 88 rfl rfl (by decide) (by decide) dX6_keepBack_133 ?_
          refine z_top C (I 68 88) (mixP_n (by simp [kbR])) ?_
          refine y_putI C zCl6 10 flX6_299 rfl rfl rfl rfl dX6_keepBack_134 ?_
          refine zZ_cast (σ' := zst (mixP I (kbB I 68) (kbR [10, 9, 5, 4, 3, 2, 0])) J q)  (by refine congrArg (fun I' => zst I' J q) ?_; exact mixP_s rfl kbR_s) rfl rfl ?_
          refine z_aload_n C 0 rfl dX6_keepBack_137 rfl ?_
          refine z_aload_n C 1 rfl dX6_keepBack_138 rfl ?_
          refine z_bipush C dX6_keepBack_139 (by decide) ?_
          refine y_iald C 89 rfl rfl (by decide) (by decide) dX6_keepBack_141 ?_
          refine z_top C (I 68 89) (mixP_n (by simp [kbR])) ?_
          refine y_putI C zCl6 11 flX6_67 rfl rfl rfl rfl dX6_keepBack_142 ?_
          refine zZ_cast (σ' := zst (mixP I (kbB I 68) (kbR [11, 10, 9, 5, 4, 3, 2, 0])) J q)  (by refine congrArg (fun I' => zst I' J q) ?_; exact mixP_s rfl kbR_s) rfl rfl ?_
          exact zZ_vret C hR (Nat.le_refl _) (Nat.le_refl _) dX6_keepBack_145 rfl (zIs_V rfl)
        · omega
    · omega
set_option maxHeartbeats 4000000 in
set_option maxRecDepth 100000 in
theorem c_X6_keepBack_69 {g : zG} {I : Nat → Nat → Int} {J : Nat → Nat → Int64} {q : Nat × Nat}  (hwk : ∀ k, k < 67 → I 69 k = 0 ∨ I 69 k = 1) : zRun g mX6_keepBack 0 [.ref 58, .ref 69] (zst I J q) (none) (zst (kbI I 69) J q) := by
  refine zRuns_intro rfl (Nat.le_of_ble_eq_true rfl) (fun X C hR => ?_)
  show zZ g X 0 0 _ 0 [(0, .ref 58), (1, .ref 69)] []
  refine z_iconst C dX6_keepBack_0 ?_
  refine z_istore_n C [(2, .int (iI 0)), (0, .ref 58), (1, .ref 69)] dX6_keepBack_1 rfl (by decide) rfl ?_
  refine zZ_sub [1, 2, 0] rfl ?_
  refine zZ_cast (σ' := (fun e : Nat => zst (mixP I (kbB I 69) (kbP e)) J q) 0) (L' := (fun e : Nat => [(0, .ref 58), (1, .ref 69), (2, .int (iI (e : Int)))]) 0) (by refine congrArg (fun I' => zst I' J q) ?_; exact (mixP_0 (fun a b => by simp [kbP])).symm) rfl rfl ?_
  refine zfor (67) (fun _ => True) (fun e : Nat => zst (mixP I (kbB I 69) (kbP e)) J q) (fun e : Nat => [(0, .ref 58), (1, .ref 69), (2, .int (iI (e : Int)))]) trivial ?_ ?_
  · intro e hee hpe kke
    have hwl := hwk e (by omega)
    refine z_iload_n C 2 rfl dX6_keepBack_2 rfl ?_
    refine z_bipush C dX6_keepBack_3 (by decide) ?_
    refine z_icmp_ge C 32 dX6_keepBack_5 (by decide) (by omega) (by omega) (fun h5 => ?_) (fun h5 => ?_)
    · omega
    · refine z_aload_n C 0 rfl dX6_keepBack_8 rfl ?_
      refine y_getR C zCl6 1 flX6_7 rfl rfl rfl dX6_keepBack_9 ?_
      refine z_iload_n C 2 rfl dX6_keepBack_12 rfl ?_
      refine z_aload_n C 1 rfl dX6_keepBack_13 rfl ?_
      refine z_iload_n C 2 rfl dX6_keepBack_14 rfl ?_
      refine y_iald C e (by omega) rfl (by omega) (by decide) dX6_keepBack_15 ?_
      refine z_top C (I 69 e) (mixP_n (by simp [kbP])) ?_
      refine z_iconst C dX6_keepBack_16 ?_
      refine z_icmp_ne C 24 dX6_keepBack_17 (by decide) (by omega) (by omega) (fun h17 => ?_) (fun h17 => ?_)
      · refine z_iconst C dX6_keepBack_24 ?_
        refine y_zast C e (by omega) rfl (by omega) (by decide) (by first | exact .inl rfl | exact .inr rfl) dX6_keepBack_25 ?_
        obtain ⟨v1, ev1⟩ : ∃ y : Int, y = (e : Int) + 1 := ⟨_, rfl⟩
        refine z_iinc C 2 v1 [(2, .int (iI v1)), (0, .ref 58), (1, .ref 69)] dX6_keepBack_26 rfl ev1.symm (by decide) rfl ?_
        refine z_goto C 2 dX6_keepBack_29 (by decide) ?_
        refine zZ_sub [1, 2, 0] rfl ?_
        refine zZ_cast (by refine congrArg (fun I' => zst I' J q) ?_; exact mixP_s (by unfold kbB; rw [if_pos rfl, if_neg h17]) (fun a b => by simp only [kbP, decide_eq_true_eq]; omega)) (zLk (zLk (zLc (by omega) rfl))) rfl (kke trivial)
      · refine z_iconst C dX6_keepBack_20 ?_
        refine z_goto C 25 dX6_keepBack_21 (by decide) ?_
        refine y_zast C e (by omega) rfl (by omega) (by decide) (by first | exact .inl rfl | exact .inr rfl) dX6_keepBack_25 ?_
        obtain ⟨v2, ev2⟩ : ∃ y : Int, y = (e : Int) + 1 := ⟨_, rfl⟩
        refine z_iinc C 2 v2 [(2, .int (iI v2)), (0, .ref 58), (1, .ref 69)] dX6_keepBack_26 rfl ev2.symm (by decide) rfl ?_
        refine z_goto C 2 dX6_keepBack_29 (by decide) ?_
        refine zZ_sub [1, 2, 0] rfl ?_
        refine zZ_cast (by refine congrArg (fun I' => zst I' J q) ?_; exact mixP_s (by unfold kbB; rw [if_pos rfl, if_pos h17]) (fun a b => by simp only [kbP, decide_eq_true_eq]; omega)) (zLk (zLk (zLc (by omega) rfl))) rfl (kke trivial)
  · intro hpe
    refine z_iload_n C 2 rfl dX6_keepBack_2 rfl ?_
    refine z_bipush C dX6_keepBack_3 (by decide) ?_
    refine z_icmp_ge C 32 dX6_keepBack_5 (by decide) (by omega) (by omega) (fun h5 => ?_) (fun h5 => ?_)
    · refine z_iconst C dX6_keepBack_32 ?_
      refine z_istore_n C [(2, .int (iI 0)), (0, .ref 58), (1, .ref 69)] dX6_keepBack_33 rfl (by decide) rfl ?_
      refine zZ_sub [1, 2, 0] rfl ?_
      refine zZ_cast (σ' := (fun e : Nat => zst (mixP I (kbB I 69) (kbQ e)) J q) 0) (L' := (fun e : Nat => [(0, .ref 58), (1, .ref 69), (2, .int (iI (e : Int)))]) 0) (by refine congrArg (fun I' => zst I' J q) ?_; exact mixP_c (fun a b => by simp only [kbQ, kbP, decide_eq_true_eq]; omega)) rfl rfl ?_
      refine zfor (5) (fun _ => True) (fun e : Nat => zst (mixP I (kbB I 69) (kbQ e)) J q) (fun e : Nat => [(0, .ref 58), (1, .ref 69), (2, .int (iI (e : Int)))]) trivial ?_ ?_
      · intro e hee hpe kke
        refine z_iload_n C 2 rfl dX6_keepBack_34 rfl ?_
        refine z_iconst C dX6_keepBack_35 ?_
        refine z_icmp_ge C 81 dX6_keepBack_36 (by decide) (by omega) (by omega) (fun h36 => ?_) (fun h36 => ?_)
        · omega
        · refine z_aload_n C 0 rfl dX6_keepBack_39 rfl ?_
          refine y_getR C zCl6 6 flX6_13 rfl rfl rfl dX6_keepBack_40 ?_
          refine z_iload_n C 2 rfl dX6_keepBack_43 rfl ?_
          refine z_aload_n C 1 rfl dX6_keepBack_44 rfl ?_
          refine z_bipush C dX6_keepBack_45 (by decide) ?_
          refine z_iload_n C 2 rfl dX6_keepBack_47 rfl ?_
          refine z_iadd C dX6_keepBack_48 ?_
          refine y_iald C (67 + e) (by omega) rfl (by omega) (by decide) dX6_keepBack_49 ?_
          refine z_top C (I 69 (67 + e)) (mixP_n (by simp [kbQ])) ?_
          refine y_iast C e (by omega) rfl (by omega) (by decide) dX6_keepBack_50 ?_
          refine zZ_cast (σ' := zst (mixP I (kbB I 69) (kbQ1 e)) J q)  (by refine congrArg (fun I' => zst I' J q) ?_; exact mixP_s (by rfl) (fun a b => by simp only [kbQ, kbQ1, decide_eq_true_eq]; omega)) rfl rfl ?_
          refine z_aload_n C 0 rfl dX6_keepBack_51 rfl ?_
          refine y_getR C zCl6 7 flX6_17 rfl rfl rfl dX6_keepBack_52 ?_
          refine z_iload_n C 2 rfl dX6_keepBack_55 rfl ?_
          refine z_aload_n C 1 rfl dX6_keepBack_56 rfl ?_
          refine z_bipush C dX6_keepBack_57 (by decide) ?_
          refine z_iload_n C 2 rfl dX6_keepBack_59 rfl ?_
          refine z_iadd C dX6_keepBack_60 ?_
          refine y_iald C (72 + e) (by omega) rfl (by omega) (by decide) dX6_keepBack_61 ?_
          refine z_top C (I 69 (72 + e)) (mixP_n (by simp [kbQ1])) ?_
          refine y_iast C e (by omega) rfl (by omega) (by decide) dX6_keepBack_62 ?_
          refine zZ_cast (σ' := zst (mixP I (kbB I 69) (kbQ2 e)) J q)  (by refine congrArg (fun I' => zst I' J q) ?_; exact mixP_s (by rfl) (fun a b => by simp only [kbQ1, kbQ2, decide_eq_true_eq]; omega)) rfl rfl ?_
          refine z_aload_n C 0 rfl dX6_keepBack_63 rfl ?_
          refine y_getR C zCl6 8 flX6_20 rfl rfl rfl dX6_keepBack_64 ?_
          refine z_iload_n C 2 rfl dX6_keepBack_67 rfl ?_
          refine z_aload_n C 1 rfl dX6_keepBack_68 rfl ?_
          refine z_bipush C dX6_keepBack_69 (by decide) ?_
          refine z_iload_n C 2 rfl dX6_keepBack_71 rfl ?_
          refine z_iadd C dX6_keepBack_72 ?_
          refine y_iald C (77 + e) (by omega) rfl (by omega) (by decide) dX6_keepBack_73 ?_
          refine z_top C (I 69 (77 + e)) (mixP_n (by simp [kbQ2])) ?_
          refine y_iast C e (by omega) rfl (by omega) (by decide) dX6_keepBack_74 ?_
          obtain ⟨v3, ev3⟩ : ∃ y : Int, y = (e : Int) + 1 := ⟨_, rfl⟩
          refine z_iinc C 2 v3 [(2, .int (iI v3)), (0, .ref 58), (1, .ref 69)] dX6_keepBack_75 rfl ev3.symm (by decide) rfl ?_
          refine z_goto C 34 dX6_keepBack_78 (by decide) ?_
          refine zZ_sub [1, 2, 0] rfl ?_
          refine zZ_cast (by refine congrArg (fun I' => zst I' J q) ?_; exact mixP_s rfl (fun a b => by simp only [kbQ, kbQ2, decide_eq_true_eq]; omega)) (zLk (zLk (zLc (by omega) rfl))) rfl (kke trivial)
      · intro hpe
        refine zZ_cast (σ' := zst (mixP I (kbB I 69) (kbR [])) J q) (by refine congrArg (fun I' => zst I' J q) ?_; exact mixP_c (fun a b => by simp only [kbQ, kbR, decide_eq_true_eq, List.not_mem_nil, and_false, or_false])) rfl rfl ?_
        refine z_iload_n C 2 rfl dX6_keepBack_34 rfl ?_
        refine z_iconst C dX6_keepBack_35 ?_
        refine z_icmp_ge C 81 dX6_keepBack_36 (by decide) (by omega) (by omega) (fun h36 => ?_) (fun h36 => ?_)
        · refine z_aload_n C 0 rfl dX6_keepBack_81 rfl ?_
          refine z_aload_n C 1 rfl dX6_keepBack_82 rfl ?_
          refine z_bipush C dX6_keepBack_83 (by decide) ?_
          refine y_iald C 82 rfl rfl (by decide) (by decide) dX6_keepBack_85 ?_
          refine z_top C (I 69 82) (mixP_n (by simp [kbR])) ?_
          refine y_putI C zCl6 0 flX6_57 rfl rfl rfl rfl dX6_keepBack_86 ?_
          refine zZ_cast (σ' := zst (mixP I (kbB I 69) (kbR [0])) J q)  (by refine congrArg (fun I' => zst I' J q) ?_; exact mixP_s rfl kbR_s) rfl rfl ?_
          refine z_aload_n C 0 rfl dX6_keepBack_89 rfl ?_
          refine z_aload_n C 1 rfl dX6_keepBack_90 rfl ?_
          refine z_bipush C dX6_keepBack_91 (by decide) ?_
          refine y_iald C 83 rfl rfl (by decide) (by decide) dX6_keepBack_93 ?_
          refine z_top C (I 69 83) (mixP_n (by simp [kbR])) ?_
          refine y_putI C zCl6 2 flX6_119 rfl rfl rfl rfl dX6_keepBack_94 ?_
          refine zZ_cast (σ' := zst (mixP I (kbB I 69) (kbR [2, 0])) J q)  (by refine congrArg (fun I' => zst I' J q) ?_; exact mixP_s rfl kbR_s) rfl rfl ?_
          refine z_aload_n C 0 rfl dX6_keepBack_97 rfl ?_
          refine z_aload_n C 1 rfl dX6_keepBack_98 rfl ?_
          refine z_bipush C dX6_keepBack_99 (by decide) ?_
          refine y_iald C 84 rfl rfl (by decide) (by decide) dX6_keepBack_101 ?_
          refine z_top C (I 69 84) (mixP_n (by simp [kbR])) ?_
          refine y_putI C zCl6 3 flX6_61 rfl rfl rfl rfl dX6_keepBack_102 ?_
          refine zZ_cast (σ' := zst (mixP I (kbB I 69) (kbR [3, 2, 0])) J q)  (by refine congrArg (fun I' => zst I' J q) ?_; exact mixP_s rfl kbR_s) rfl rfl ?_
          refine z_aload_n C 0 rfl dX6_keepBack_105 rfl ?_
          refine z_aload_n C 1 rfl dX6_keepBack_106 rfl ?_
          refine z_bipush C dX6_keepBack_107 (by decide) ?_
          refine y_iald C 85 rfl rfl (by decide) (by decide) dX6_keepBack_109 ?_
          refine z_top C (I 69 85) (mixP_n (by simp [kbR])) ?_
          refine y_putI C zCl6 4 flX6_235 rfl rfl rfl rfl dX6_keepBack_110 ?_
          refine zZ_cast (σ' := zst (mixP I (kbB I 69) (kbR [4, 3, 2, 0])) J q)  (by refine congrArg (fun I' => zst I' J q) ?_; exact mixP_s rfl kbR_s) rfl rfl ?_
          refine z_aload_n C 0 rfl dX6_keepBack_113 rfl ?_
          refine z_aload_n C 1 rfl dX6_keepBack_114 rfl ?_
          refine z_bipush C dX6_keepBack_115 (by decide) ?_
          refine y_iald C 86 rfl rfl (by decide) (by decide) dX6_keepBack_117 ?_
          refine z_top C (I 69 86) (mixP_n (by simp [kbR])) ?_
          refine y_putI C zCl6 5 flX6_72 rfl rfl rfl rfl dX6_keepBack_118 ?_
          refine zZ_cast (σ' := zst (mixP I (kbB I 69) (kbR [5, 4, 3, 2, 0])) J q)  (by refine congrArg (fun I' => zst I' J q) ?_; exact mixP_s rfl kbR_s) rfl rfl ?_
          refine z_aload_n C 0 rfl dX6_keepBack_121 rfl ?_
          refine z_aload_n C 1 rfl dX6_keepBack_122 rfl ?_
          refine z_bipush C dX6_keepBack_123 (by decide) ?_
          refine y_iald C 87 rfl rfl (by decide) (by decide) dX6_keepBack_125 ?_
          refine z_top C (I 69 87) (mixP_n (by simp [kbR])) ?_
          refine y_putI C zCl6 9 flX6_64 rfl rfl rfl rfl dX6_keepBack_126 ?_
          refine zZ_cast (σ' := zst (mixP I (kbB I 69) (kbR [9, 5, 4, 3, 2, 0])) J q)  (by refine congrArg (fun I' => zst I' J q) ?_; exact mixP_s rfl kbR_s) rfl rfl ?_
          refine z_aload_n C 0 rfl dX6_keepBack_129 rfl ?_
          refine z_aload_n C 1 rfl dX6_keepBack_130 rfl ?_
          refine z_bipush C dX6_keepBack_131 (by decide) ?_
          refine y_iald C 88 rfl rfl (by decide) (by decide) dX6_keepBack_133 ?_
          refine z_top C (I 69 88) (mixP_n (by simp [kbR])) ?_
          refine y_putI C zCl6 10 flX6_299 rfl rfl rfl rfl dX6_keepBack_134 ?_
          refine zZ_cast (σ' := zst (mixP I (kbB I 69) (kbR [10, 9, 5, 4, 3, 2, 0])) J q)  (by refine congrArg (fun I' => zst I' J q) ?_; exact mixP_s rfl kbR_s) rfl rfl ?_
          refine z_aload_n C 0 rfl dX6_keepBack_137 rfl ?_
          refine z_aload_n C 1 rfl dX6_keepBack_138 rfl ?_
          refine z_bipush C dX6_keepBack_139 (by decide) ?_
          refine y_iald C 89 rfl rfl (by decide) (by decide) dX6_keepBack_141 ?_
          refine z_top C (I 69 89) (mixP_n (by simp [kbR])) ?_
          refine y_putI C zCl6 11 flX6_67 rfl rfl rfl rfl dX6_keepBack_142 ?_
          refine zZ_cast (σ' := zst (mixP I (kbB I 69) (kbR [11, 10, 9, 5, 4, 3, 2, 0])) J q)  (by refine congrArg (fun I' => zst I' J q) ?_; exact mixP_s rfl kbR_s) rfl rfl ?_
          exact zZ_vret C hR (Nat.le_refl _) (Nat.le_refl _) dX6_keepBack_145 rfl (zIs_V rfl)
        · omega
    · omega
