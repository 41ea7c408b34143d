set_option maxHeartbeats 4000000 in
set_option maxRecDepth 100000 in
theorem c_X5_bare {g : zG} {I : Nat → Nat → Int} {J : Nat → Nat → Int64} {q : Nat × Nat}  (hg : gH I 1) (hq : gS I 4) (hl : gL I) : zRun g mX5_bare 4 [.ref 0] (zst I J q) (some (.int (iI (bareF (J 1 5 ||| eweB (I 5) (I 1 6).toNat) (I 1 0).toNat)))) (zst I J q) := by
  obtain ⟨g1, g2, g3, g4, g5, g6⟩ := id hg
  obtain ⟨k1, k2, k3⟩ := id hq
  have k3 : ∀ e, e < 5 → 0 ≤ I 5 e ∧ I 5 e ≤ 66 := k3
  obtain ⟨sd, hsd⟩ : ∃ n : Nat, I 1 0 = n := ⟨(I 1 0).toNat, by omega⟩
  have hsd2 : (I 1 0).toNat = sd := by omega
  rw [hsd2]
  refine zRuns_intro rfl (Nat.le_of_ble_eq_true rfl) (fun X C hR => ?_)
  show zZ g X 0 0 _ 0 [(0, .ref 0)] []
  refine z_aload_n C 0 rfl dX5_bare_0 rfl ?_
  refine y_getR C zCl5 0 flX5_10 rfl rfl rfl dX5_bare_1 ?_
  refine y_getJ C zCl0 5 flX5_238 rfl rfl dX5_bare_4 ?_
  refine z_aload_n C 0 rfl dX5_bare_7 rfl ?_
  refine y_getR C zCl5 0 flX5_10 rfl rfl rfl dX5_bare_8 ?_
  refine y_callV0 C oX0_eweBits iX0_eweBits eX0_eweBits lkX5_242 (c_X0_eweBits isH_1 hg hq) rfl (by decide) rfl rfl (by decide) (Nat.le_refl _) (Nat.le_refl _) (Nat.le_of_ble_eq_true rfl) dX5_bare_11 ?_
  refine z_lor C dX5_bare_14 ?_
  refine z_topL C (fun tk etk => ?_)
  refine z_lstore_n C [(1, .long tk), (0, .ref 0)] dX5_bare_15 rfl (by decide) rfl ?_
  have etk : tk = J 1 5 ||| eweB (I 5) (I 1 6).toNat := etk
  refine z_iconst C dX5_bare_16 ?_
  refine z_istore_n C [(3, .int (iI 0)), (1, .long tk), (0, .ref 0)] dX5_bare_17 rfl (by decide) rfl ?_
  refine z_iconst C dX5_bare_18 ?_
  refine z_istore C [(4, .int (iI 0)), (3, .int (iI 0)), (1, .long tk), (0, .ref 0)] dX5_bare_19 (by decide) rfl ?_
  refine zZ_sub [3, 2, 1, 0] rfl ?_
  refine zZ_cast (σ' := (fun _ : Nat => zst I J q) 0) (L' := (fun e : Nat => [(0, .ref 0), (1, .long tk), (3, .int (iI (bareF tk e))), (4, .int (iI (e : Int)))]) 0) rfl rfl rfl ?_
  refine zfor (sd) (fun _ => True) (fun _ : Nat => zst I J q) (fun e : Nat => [(0, .ref 0), (1, .long tk), (3, .int (iI (bareF tk e))), (4, .int (iI (e : Int)))]) trivial ?_ ?_
  · intro e hee hpe kke
    obtain ⟨bf, hbf⟩ : ∃ bf, bf = bareF tk e := ⟨_, rfl⟩
    rw [← hbf]
    refine z_iload C 3 rfl dX5_bare_21 ?_
    refine z_aload_n C 0 rfl dX5_bare_23 rfl ?_
    refine y_getR C zCl5 0 flX5_10 rfl rfl rfl dX5_bare_24 ?_
    refine y_getI C zCl0 0 flX5_125 rfl rfl dX5_bare_27 ?_
    refine z_icmp_ge C 80 dX5_bare_30 (by decide) (by omega) (by omega) (fun h30 => ?_) (fun h30 => ?_)
    · omega
    · refine z_lload_n C 1 rfl dX5_bare_33 rfl ?_
      refine z_iload C 3 rfl dX5_bare_34 ?_
      refine y_callS1 C oX0_rowBits sX0_rowBits lkX5_246 c_X0_rowBits (by decide) (Nat.le_refl _) (Nat.le_refl _) (Nat.le_of_ble_eq_true rfl) dX5_bare_36 ?_
      refine z_land C dX5_bare_39 ?_
      refine z_lconst C 0 dX5_bare_40 rfl ?_
      refine z_lcmp_ne C 52 dX5_bare_41 dX5_bare_42 (by decide) (fun h41 => ?_) (fun h41 => ?_)
      · refine z_lload_n C 1 rfl dX5_bare_52 rfl ?_
        refine z_iload C 3 rfl dX5_bare_53 ?_
        refine y_callS1 C oX0_columnBits sX0_columnBits lkX5_250 c_X0_columnBits (by decide) (Nat.le_refl _) (Nat.le_refl _) (Nat.le_of_ble_eq_true rfl) dX5_bare_55 ?_
        refine z_land C dX5_bare_58 ?_
        refine z_lconst C 0 dX5_bare_59 rfl ?_
        refine z_lcmp_ne C 74 dX5_bare_60 dX5_bare_61 (by decide) (fun h60 => ?_) (fun h60 => ?_)
        · obtain ⟨v1, ev1⟩ : ∃ y : Int, y = (e : Int) + 1 := ⟨_, rfl⟩
          refine z_iinc C 3 v1 [(4, .int (iI v1)), (0, .ref 0), (1, .long tk), (3, .int (iI bf))] dX5_bare_74 rfl ev1.symm (by decide) rfl ?_
          refine z_goto C 21 dX5_bare_77 (by decide) ?_
          refine zZ_sub [1, 2, 3, 0] rfl ?_
          refine zZ_cast rfl (zLk (zLk (zLc (by simp only [bareF, bareR]; rw [← hbf, if_neg h60, if_neg h41]) (zLc (by omega) rfl)))) rfl (kke trivial)
        · refine z_iload_n C 2 rfl dX5_bare_64 rfl ?_
          refine z_iconst C dX5_bare_65 ?_
          refine z_bipush C dX5_bare_66 (by decide) ?_
          refine z_iload C 3 rfl dX5_bare_68 ?_
          refine z_iadd C dX5_bare_70 ?_
          refine z_ishl C ((2 ^ (7 + e) : Nat) : Int) dX5_bare_71 (by rw [show (7 : Int) + (e : Int) = ((7 + e : Nat) : Int) by omega]; exact iI_sh1 (by omega)) ?_
          refine z_ior C (orN bf ((2 ^ (7 + e) : Nat) : Int)) dX5_bare_72 (iI_of _) ?_
          refine z_istore_n C [(3, .int (iI ((orN bf ((2 ^ (7 + e) : Nat) : Int))))), (0, .ref 0), (1, .long tk), (4, .int (iI ((e : Int))))] dX5_bare_73 rfl (by decide) rfl ?_
          obtain ⟨v2, ev2⟩ : ∃ y : Int, y = (e : Int) + 1 := ⟨_, rfl⟩
          refine z_iinc C 3 v2 [(4, .int (iI v2)), (3, .int (iI ((orN bf ((2 ^ (7 + e) : Nat) : Int))))), (0, .ref 0), (1, .long tk)] dX5_bare_74 rfl ev2.symm (by decide) rfl ?_
          refine z_goto C 21 dX5_bare_77 (by decide) ?_
          refine zZ_sub [2, 3, 1, 0] rfl ?_
          refine zZ_cast rfl (zLk (zLk (zLc (by simp only [bareF, bareR]; rw [← hbf, if_pos h60, if_neg h41]) (zLc (by omega) rfl)))) rfl (kke trivial)
      · refine z_iload_n C 2 rfl dX5_bare_45 rfl ?_
        refine z_iconst C dX5_bare_46 ?_
        refine z_iload C 3 rfl dX5_bare_47 ?_
        refine z_ishl C ((2 ^ e : Nat) : Int) dX5_bare_49 (iI_sh1 (by omega)) ?_
        refine z_ior C (orN bf ((2 ^ e : Nat) : Int)) dX5_bare_50 (iI_of _) ?_
        refine z_istore_n C [(3, .int (iI ((orN bf ((2 ^ e : Nat) : Int))))), (0, .ref 0), (1, .long tk), (4, .int (iI ((e : Int))))] dX5_bare_51 rfl (by decide) rfl ?_
        refine z_lload_n C 2 rfl dX5_bare_52 rfl ?_
        refine z_iload C 3 rfl dX5_bare_53 ?_
        refine y_callS1 C oX0_columnBits sX0_columnBits lkX5_250 c_X0_columnBits (by decide) (Nat.le_refl _) (Nat.le_refl _) (Nat.le_of_ble_eq_true rfl) dX5_bare_55 ?_
        refine z_land C dX5_bare_58 ?_
        refine z_lconst C 0 dX5_bare_59 rfl ?_
        refine z_lcmp_ne C 74 dX5_bare_60 dX5_bare_61 (by decide) (fun h60 => ?_) (fun h60 => ?_)
        · obtain ⟨v3, ev3⟩ : ∃ y : Int, y = (e : Int) + 1 := ⟨_, rfl⟩
          refine z_iinc C 3 v3 [(4, .int (iI v3)), (3, .int (iI ((orN bf ((2 ^ e : Nat) : Int))))), (0, .ref 0), (1, .long tk)] dX5_bare_74 rfl ev3.symm (by decide) rfl ?_
          refine z_goto C 21 dX5_bare_77 (by decide) ?_
          refine zZ_sub [2, 3, 1, 0] rfl ?_
          refine zZ_cast rfl (zLk (zLk (zLc (by simp only [bareF, bareR]; rw [← hbf, if_neg h60, if_pos h41]) (zLc (by omega) rfl)))) rfl (kke trivial)
        · refine z_iload_n C 0 rfl dX5_bare_64 rfl ?_
          refine z_iconst C dX5_bare_65 ?_
          refine z_bipush C dX5_bare_66 (by decide) ?_
          refine z_iload C 3 rfl dX5_bare_68 ?_
          refine z_iadd C dX5_bare_70 ?_
          refine z_ishl C ((2 ^ (7 + e) : Nat) : Int) dX5_bare_71 (by rw [show (7 : Int) + (e : Int) = ((7 + e : Nat) : Int) by omega]; exact iI_sh1 (by omega)) ?_
          refine z_ior C (orN (orN bf ((2 ^ e : Nat) : Int)) ((2 ^ (7 + e) : Nat) : Int)) dX5_bare_72 (iI_of _) ?_
          refine z_istore_n C [(3, .int (iI ((orN (orN bf ((2 ^ e : Nat) : Int)) ((2 ^ (7 + e) : Nat) : Int))))), (0, .ref 0), (1, .long tk), (4, .int (iI ((e : Int))))] dX5_bare_73 rfl (by decide) rfl ?_
          obtain ⟨v4, ev4⟩ : ∃ y : Int, y = (e : Int) + 1 := ⟨_, rfl⟩
          refine z_iinc C 3 v4 [(4, .int (iI v4)), (3, .int (iI ((orN (orN bf ((2 ^ e : Nat) : Int)) ((2 ^ (7 + e) : Nat) : Int))))), (0, .ref 0), (1, .long tk)] dX5_bare_74 rfl ev4.symm (by decide) rfl ?_
          refine z_goto C 21 dX5_bare_77 (by decide) ?_
          refine zZ_sub [2, 3, 1, 0] rfl ?_
          refine zZ_cast rfl (zLk (zLk (zLc (by simp only [bareF, bareR]; rw [← hbf, if_pos h60, if_pos h41]) (zLc (by omega) rfl)))) rfl (kke trivial)
  · intro hpe
    refine z_iload C 3 rfl dX5_bare_21 ?_
    refine z_aload_n C 0 rfl dX5_bare_23 rfl ?_
    refine y_getR C zCl5 0 flX5_10 rfl rfl rfl dX5_bare_24 ?_
    refine y_getI C zCl0 0 flX5_125 rfl rfl dX5_bare_27 ?_
    refine z_icmp_ge C 80 dX5_bare_30 (by decide) (by omega) (by omega) (fun h30 => ?_) (fun h30 => ?_)
    · refine z_iload_n C 2 rfl dX5_bare_80 rfl ?_
      exact zZ_iret C hR (Nat.le_refl _) (Nat.le_refl _) dX5_bare_81 rfl (zIs_I (by rw [← etk]) rfl)
    · omega
