set_option maxHeartbeats 4000000 in
set_option maxRecDepth 100000 in
theorem c_X5_shy {g : zG} {I : Nat → Nat → Int} {J : Nat → Nat → Int64} {q : Nat × Nat} {w : Int} (hg : gH I 1) (hq : gS I 4) (hl : gL I) (hw : -2147483648 ≤ w ∧ w ≤ 2147483647) : zRuns g mX5_shy 6 0 0 [.ref 0, .int (iI w)] (zst I J q) (zEx (some (.int (iI (uR (fShy I w) (shyN I J w.toNat))))) (fun dd : Int => zst (uI I (fShy I w) (zSq I 36 (dd, I 4 1, I 5))) J q)) := by
  obtain ⟨g1, g2, g3, g4, g5, g6⟩ := id hg
  obtain ⟨k1, k2, k3⟩ := id hq
  have k3 : ∀ e, e < 5 → 0 ≤ I 5 e ∧ I 5 e ≤ 66 := k3
  refine zRuns_intro rfl (Nat.le_of_ble_eq_true rfl) (fun X C hR => ?_)
  show zZ g X 0 0 _ 0 [(0, .ref 0), (1, .int (iI w))] []
  refine z_aload_n C 0 rfl dX5_shy_0 rfl ?_
  refine y_getR C zCl5 0 flX5_10 rfl rfl rfl dX5_shy_1 ?_
  refine z_iload_n C 1 rfl dX5_shy_4 rfl ?_
  refine y_callV1 C oX0_isEwe iX0_isEwe eX0_isEwe lkX5_103 (c_X0_isEwe isH_1 hg (by first | assumption | omega)) rfl (by decide) rfl rfl (by decide) (Nat.le_refl _) (Nat.le_refl _) (Nat.le_of_ble_eq_true rfl) dX5_shy_5 ?_
  refine y_if_neB C 18 dX5_shy_8 (by decide) (fun h8 => ?_) (fun h8 => ?_)
  · have hwr : 0 ≤ w ∧ w < I 1 6 := by simpa using h8
    obtain ⟨wn, hwn⟩ : ∃ n : Nat, w = n := ⟨w.toNat, by omega⟩
    rw [hwn]
    have hwt : w.toNat = wn := by omega
    have qw : 0 ≤ I 5 wn ∧ I 5 wn ≤ 66 := k3 wn (by omega)
    obtain ⟨P, hP⟩ : ∃ P : Nat → Bool, P = fun (c : Nat) => dogsN (I 1 0) (J 1 5) (I 1 1) (c : Int) && !decide (goalN (hv I J 1) (c : Int) (I 5) wn (I 2 wn) = I 5 wn) := ⟨_, rfl⟩
    obtain ⟨V, hV⟩ : ∃ V : Nat → Int, V = fun (c : Nat) => stp (c : Int) (I 5 wn) := ⟨_, rfl⟩
    have hsN : shyN I J wn = shyF (fun (c : Nat) => dogsN (I 1 0) (J 1 5) (I 1 1) (c : Int) && !decide (goalN (hv I J 1) (c : Int) (I 5) wn (I 2 wn) = I 5 wn)) (fun (c : Nat) => stp (c : Int) (I 5 wn)) 67 := rfl
    rw [← hP, ← hV] at hsN
    refine z_iconst C dX5_shy_18 ?_
    refine z_istore_n C [(2, .int (iI ((-1)))), (0, .ref 0), (1, .int (iI ((wn : Int))))] dX5_shy_19 rfl (by decide) rfl ?_
    refine z_aload_n C 1 rfl dX5_shy_20 rfl ?_
    refine y_getR C zCl5 6 flX5_44 rfl rfl rfl dX5_shy_21 ?_
    refine z_aload_n C 1 rfl dX5_shy_24 rfl ?_
    refine y_getR C zCl5 0 flX5_10 rfl rfl rfl dX5_shy_25 ?_
    refine y_getR C zCl0 9 flX5_118 rfl rfl rfl dX5_shy_28 ?_
    refine y_callV1 C oX3_setTo iX3_setTo eX3_setTo lkX5_191 (c_X3_setTo isS_36 isS_4) rfl (by decide) rfl rfl (by decide) (Nat.le_refl _) (Nat.le_refl _) (Nat.le_of_ble_eq_true rfl) dX5_shy_31 ?_
    refine zZ_cast (σ' := zst (zSq I 36 (I 4 0, I 4 1, I 5)) J q) rfl rfl rfl ?_
    refine z_iconst C dX5_shy_34 ?_
    refine z_istore_n C [(3, .int (iI 0)), (2, .int (iI ((-1)))), (0, .ref 0), (1, .int (iI ((wn : Int))))] dX5_shy_35 rfl (by decide) rfl ?_
    refine zZ_sub [2, 3, 1, 0] rfl ?_
    refine zZ_cast (σ' := (fun (_ : Nat) (dd : Int) => zst (zSq I 36 (dd, I 4 1, I 5)) J q) 0 (I 4 0)) (L' := (fun (e : Nat) (dd : Int) => [(0, .ref 0), (1, .int (iI ((wn : Int)))), (2, .int (iI (shyF P V e))), (3, .int (iI (e : Int)))]) 0 (I 4 0)) rfl rfl rfl ?_
    refine zforE (67) (fun _ _ => True) (fun (_ : Nat) (dd : Int) => zst (zSq I 36 (dd, I 4 1, I 5)) J q) (fun (e : Nat) (dd : Int) => [(0, .ref 0), (1, .int (iI ((wn : Int)))), (2, .int (iI (shyF P V e))), (3, .int (iI (e : Int)))]) (I 4 0) trivial ?_ ?_
    · intro e dd hee hpe kke
      have hr := shyF_r (P := P) (v := V) (k := e) (fun c hc => by rw [hV]; have := stp_r (c := (c : Int)) (d := I 5 wn) (by omega) (by omega); simp only; omega)
      obtain ⟨sh, hsh⟩ : ∃ sh, sh = shyF P V e := ⟨_, rfl⟩
      rw [← hsh] at hr ⊢
      refine z_iload_n C 3 rfl dX5_shy_36 rfl ?_
      refine z_bipush C dX5_shy_37 (by decide) ?_
      refine z_icmp_ge C 103 dX5_shy_39 (by decide) (by omega) (by omega) (fun h39 => ?_) (fun h39 => ?_)
      · omega
      · refine z_aload_n C 0 rfl dX5_shy_42 rfl ?_
        refine y_getR C zCl5 0 flX5_10 rfl rfl rfl dX5_shy_43 ?_
        refine z_iload_n C 3 rfl dX5_shy_46 rfl ?_
        refine y_callV1 C oX0_mayBeDogs iX0_mayBeDogs eX0_mayBeDogs lkX5_147 (c_X0_mayBeDogs isH_1 (gH_sp isH_1 isS_36 hg) (by first | assumption | omega)) rfl (by decide) rfl rfl (by decide) (Nat.le_refl _) (Nat.le_refl _) (Nat.le_of_ble_eq_true rfl) dX5_shy_47 ?_
        refine y_if_eqB C 97 dX5_shy_50 (by decide) (fun h50 => ?_) (fun h50 => ?_)
        · obtain ⟨v1, ev1⟩ : ∃ y : Int, y = (e : Int) + 1 := ⟨_, rfl⟩
          refine z_iinc C 3 v1 [(3, .int (iI v1)), (0, .ref 0), (1, .int (iI ((wn : Int)))), (2, .int (iI sh))] dX5_shy_97 rfl ev1.symm (by decide) rfl ?_
          refine z_goto C 36 dX5_shy_100 (by decide) ?_
          refine zZ_sub [1, 2, 3, 0] rfl ?_
          refine zZ_cast rfl (zLk (zLk (zLc (by simp only [shyF]; rw [if_neg (by rw [hP]; simp [show dogsN (I 1 0) (J 1 5) (I 1 1) (e : Int) = false from h50])]; exact hsh) (zLc (by omega) rfl)))) rfl (kke dd trivial)
        · refine z_aload_n C 0 rfl dX5_shy_53 rfl ?_
          refine y_getR C zCl5 6 flX5_44 rfl rfl rfl dX5_shy_54 ?_
          refine z_iload_n C 3 rfl dX5_shy_57 rfl ?_
          refine y_putI C zCl3 0 flX5_150 rfl rfl rfl rfl dX5_shy_58 ?_
          refine zZ_cast (σ' := zst (zSq I 36 ((e : Int), I 4 1, I 5)) J q) (by refine congrArg (fun I' => zst I' J q) ?_; exact zSp_put0.trans zSp_zSp) rfl rfl ?_
          refine z_aload_n C 0 rfl dX5_shy_61 rfl ?_
          refine y_getR C zCl5 0 flX5_10 rfl rfl rfl dX5_shy_62 ?_
          refine z_aload_n C 0 rfl dX5_shy_65 rfl ?_
          refine y_getR C zCl5 6 flX5_44 rfl rfl rfl dX5_shy_66 ?_
          refine z_iload_n C 1 rfl dX5_shy_69 rfl ?_
          refine y_callV2 C oX0_wouldGo iX0_wouldGo eX0_wouldGo lkX5_219 (c_X0_wouldGo isH_1 isS_36 (gH_sp isH_1 isS_36 hg) (gS_of (⟨⟨by omega, by omega⟩, k2, k3⟩ : gP ((e : Int), I 4 1, I 5))) (by first | assumption | omega)) rfl (by decide) rfl rfl (by decide) (Nat.le_refl _) (Nat.le_refl _) (Nat.le_of_ble_eq_true rfl) dX5_shy_70 ?_
          refine y_if_eqB C 97 dX5_shy_73 (by decide) (fun h73 => ?_) (fun h73 => ?_)
          · obtain ⟨v2, ev2⟩ : ∃ y : Int, y = (e : Int) + 1 := ⟨_, rfl⟩
            refine z_iinc C 3 v2 [(3, .int (iI v2)), (0, .ref 0), (1, .int (iI ((wn : Int)))), (2, .int (iI sh))] dX5_shy_97 rfl ev2.symm (by decide) rfl ?_
            refine z_goto C 36 dX5_shy_100 (by decide) ?_
            refine zZ_sub [1, 2, 3, 0] rfl ?_
            refine zZ_cast rfl (zLk (zLk (zLc (by simp only [shyF]; rw [if_neg (by rw [hP]; simp only [Bool.and_eq_true, not_and]; intro _; exact Bool.eq_false_iff.mp h73)]; exact hsh) (zLc (by omega) rfl)))) rfl (kke (e : Int) trivial)
          · refine z_iload_n C 2 rfl dX5_shy_76 rfl ?_
            refine z_iload_n C 3 rfl dX5_shy_77 rfl ?_
            refine z_aload_n C 0 rfl dX5_shy_78 rfl ?_
            refine y_getR C zCl5 0 flX5_10 rfl rfl rfl dX5_shy_79 ?_
            refine y_getR C zCl0 9 flX5_118 rfl rfl rfl dX5_shy_82 ?_
            refine y_getR C zCl3 2 flX5_162 rfl rfl rfl dX5_shy_85 ?_
            refine z_iload_n C 1 rfl dX5_shy_88 rfl ?_
            refine y_iald C wn (by omega) rfl (by omega) (by decide) dX5_shy_89 ?_
            have qw2 : 0 ≤ zSq I 36 ((e : Int), I 4 1, I 5) (1 + 3 + 1) wn ∧ zSq I 36 ((e : Int), I 4 1, I 5) (1 + 3 + 1) wn ≤ 66 := qw
            have qst : 0 ≤ stp (e : Int) (zSq I 36 ((e : Int), I 4 1, I 5) (1 + 3 + 1) wn) ∧ stp (e : Int) (zSq I 36 ((e : Int), I 4 1, I 5) (1 + 3 + 1) wn) ≤ 18 := stp_r (by omega) (by omega)
            refine y_callS2 C oX5_stepsBetween sX5_stepsBetween lkX5_183 (c_X5_stepsBetween (by first | assumption | omega) (by first | assumption | omega)) (by decide) (Nat.le_refl _) (Nat.le_refl _) (Nat.le_of_ble_eq_true rfl) dX5_shy_90 ?_
            refine z_mmax C lkX5_223 (by omega) (by omega) (by decide) (Nat.le_refl _) (Nat.le_refl _) (Nat.le_of_ble_eq_true rfl) dX5_shy_93 ?_
            refine z_topI C (fun mx emx => ?_)
            have emx : mx = max sh (V e) := by rw [emx, hV]; rfl
            refine z_topI C (fun v3 ev3 => ?_)
            refine z_istore_n C [(2, .int (iI v3)), (0, .ref 0), (1, .int (iI ((wn : Int)))), (3, .int (iI ((e : Int))))] dX5_shy_96 rfl (by decide) rfl ?_
            obtain ⟨v4, ev4⟩ : ∃ y : Int, y = (e : Int) + 1 := ⟨_, rfl⟩
            refine z_iinc C 3 v4 [(3, .int (iI v4)), (2, .int (iI v3)), (0, .ref 0), (1, .int (iI ((wn : Int))))] dX5_shy_97 rfl ev4.symm (by decide) rfl ?_
            refine z_goto C 36 dX5_shy_100 (by decide) ?_
            refine zZ_sub [2, 3, 1, 0] rfl ?_
            refine zZ_cast rfl (zLk (zLk (zLc (by simp only [shyF]; rw [if_pos (by rw [hP]; simp only [Bool.and_eq_true]; exact ⟨h50, h73⟩), ← hsh]; have := emx; split <;> omega) (zLc (by omega) rfl)))) rfl (kke (e : Int) trivial)
    · intro dd hpe
      refine z_iload_n C 3 rfl dX5_shy_36 rfl ?_
      refine z_bipush C dX5_shy_37 (by decide) ?_
      refine z_icmp_ge C 103 dX5_shy_39 (by decide) (by omega) (by omega) (fun h39 => ?_) (fun h39 => ?_)
      · refine z_iload_n C 2 rfl dX5_shy_103 rfl ?_
        exact zZ_iret C hR (Nat.le_refl _) (Nat.le_refl _) dX5_shy_104 rfl (zEx_I (by rw [uR0 (show fShy I w = 0 by (try simp only [decide_eq_true_eq, decide_eq_false_iff_not, bI] at *); unfold fShy; (repeat' split) <;> first | rfl | omega | (exfalso; simp_all; done) | (exfalso; simp_all; omega))]; rw [hwt, hsN]) dd (by rw [uI0 (show fShy I w = 0 by (try simp only [decide_eq_true_eq, decide_eq_false_iff_not, bI] at *); unfold fShy; (repeat' split) <;> first | rfl | omega | (exfalso; simp_all; done) | (exfalso; simp_all; omega))]; (first | done | rfl)))
      · omega
  · refine z_aload_n C 0 rfl dX5_shy_11 rfl ?_
    refine z_bipush C dX5_shy_12 (by decide) ?_
    refine y_callV1 C oX5_refuse iX5_refuse eX5_refuse lkX5_59 (c_X5_refuse (by first | assumption | omega)) rfl (by decide) rfl rfl (by decide) (Nat.le_refl _) (Nat.le_refl _) (Nat.le_of_ble_eq_true rfl) dX5_shy_14 ?_
    exact zZ_iret C hR (Nat.le_refl _) (Nat.le_refl _) dX5_shy_17 rfl (zEx_I (uRc (show fShy I w = -2 by (try simp only [decide_eq_true_eq, decide_eq_false_iff_not, bI] at *); unfold fShy; (repeat' split) <;> first | rfl | omega | (exfalso; simp_all; done) | (exfalso; simp_all; omega)) (by decide)).symm 0 (by rw [uIc (show fShy I w = -2 by (try simp only [decide_eq_true_eq, decide_eq_false_iff_not, bI] at *); unfold fShy; (repeat' split) <;> first | rfl | omega | (exfalso; simp_all; done) | (exfalso; simp_all; omega)) (by decide)]))
