set_option maxHeartbeats 4000000 in
set_option maxRecDepth 100000 in
theorem c_X5_still {g : zG} {I : Nat → Nat → Int} {J : Nat → Nat → Int64} {q : Nat × Nat} {w : Int} (hg : gH I 1) (hq : gS I 4) (hl : gL I) (hw : -2147483648 ≤ w ∧ w ≤ 2147483647) : zRuns g mX5_still 7 0 0 [.ref 0, .int (iI w)] (zst I J q) (zEx (some (.int (iI (uR (fStill w) (stillN I J w))))) (fun dd : Int => zst (uI I (fStill w) (zSq I 36 (dd, I 4 1, I 5))) J q)) := by
  obtain ⟨g1, g2, g3, g4, g5, g6⟩ := id hg
  obtain ⟨k1, k2, k3⟩ := id hq
  have k3 : ∀ e, e < 5 → 0 ≤ I 5 e ∧ I 5 e ≤ 66 := k3
  obtain ⟨P, hP⟩ : ∃ P : Nat → Bool, P = fun (c : Nat) => dogsN (I 1 0) (J 1 5) (I 1 1) (c : Int) := ⟨_, rfl⟩
  obtain ⟨V, hV⟩ : ∃ V : Nat → Int, V = fun (c : Nat) => bcI (movD I J (c : Int)) := ⟨_, rfl⟩
  have hsN : stillN I J w = if w = 0 then (stillF (fun (c : Nat) => dogsN (I 1 0) (J 1 5) (I 1 1) (c : Int)) (fun (c : Nat) => bcI (movD I J (c : Int))) 67).1 else (stillF (fun (c : Nat) => dogsN (I 1 0) (J 1 5) (I 1 1) (c : Int)) (fun (c : Nat) => bcI (movD I J (c : Int))) 67).2 := rfl
  rw [← hP, ← hV] at hsN
  have hVr : ∀ e, 0 ≤ V e ∧ V e ≤ 5 := fun e => by rw [hV]; exact bcI_r (movD_lt hg)
  refine zRuns_intro rfl (Nat.le_of_ble_eq_true rfl) (fun X C hR => ?_)
  show zZ g X 0 0 _ 0 [(0, .ref 0), (1, .int (iI w))] []
  refine z_iload_n C 1 rfl dX5_still_0 rfl ?_
  refine z_if_lt C 9 dX5_still_1 (by decide) (by omega) (fun h1 => ?_) (fun h1 => ?_)
  · refine z_aload_n C 0 rfl dX5_still_9 rfl ?_
    refine z_bipush C dX5_still_10 (by decide) ?_
    refine y_callV1 C oX5_refuse iX5_refuse eX5_refuse lkX5_59 (c_X5_refuse (by first | assumption | omega)) rfl (by decide) rfl rfl (by decide) (Nat.le_refl _) (Nat.le_refl _) (Nat.le_of_ble_eq_true rfl) dX5_still_12 ?_
    exact zZ_iret C hR (Nat.le_refl _) (Nat.le_refl _) dX5_still_15 rfl (zEx_I (uRc (show fStill w = -2 by (try simp only [decide_eq_true_eq, decide_eq_false_iff_not, bI] at *); unfold fStill; (repeat' split) <;> first | rfl | omega | (exfalso; simp_all; done) | (exfalso; simp_all; omega)) (by decide)).symm 0 (by rw [uIc (show fStill w = -2 by (try simp only [decide_eq_true_eq, decide_eq_false_iff_not, bI] at *); unfold fStill; (repeat' split) <;> first | rfl | omega | (exfalso; simp_all; done) | (exfalso; simp_all; omega)) (by decide)]))
  · refine z_iload_n C 1 rfl dX5_still_4 rfl ?_
    refine z_iconst C dX5_still_5 ?_
    refine z_icmp_le C 16 dX5_still_6 (by decide) (by omega) (by omega) (fun h6 => ?_) (fun h6 => ?_)
    · refine z_iconst C dX5_still_16 ?_
      refine z_istore_n C [(2, .int (iI 0)), (0, .ref 0), (1, .int (iI w))] dX5_still_17 rfl (by decide) rfl ?_
      refine z_iconst C dX5_still_18 ?_
      refine z_istore_n C [(3, .int (iI 0)), (2, .int (iI 0)), (0, .ref 0), (1, .int (iI w))] dX5_still_19 rfl (by decide) rfl ?_
      refine z_aload_n C 2 rfl dX5_still_20 rfl ?_
      refine y_getR C zCl5 6 flX5_44 rfl rfl rfl dX5_still_21 ?_
      refine z_aload_n C 2 rfl dX5_still_24 rfl ?_
      refine y_getR C zCl5 0 flX5_10 rfl rfl rfl dX5_still_25 ?_
      refine y_getR C zCl0 9 flX5_118 rfl rfl rfl dX5_still_28 ?_
      refine y_callV1 C oX3_setTo iX3_setTo eX3_setTo lkX5_191 (c_X3_setTo isS_36 isS_4) rfl (by decide) rfl rfl (by decide) (Nat.le_refl _) (Nat.le_refl _) (Nat.le_of_ble_eq_true rfl) dX5_still_31 ?_
      refine zZ_cast (σ' := zst (zSq I 36 (I 4 0, I 4 1, I 5)) J q) rfl rfl rfl ?_
      refine z_iconst C dX5_still_34 ?_
      refine z_istore C [(4, .int (iI 0)), (3, .int (iI 0)), (2, .int (iI 0)), (0, .ref 0), (1, .int (iI w))] dX5_still_35 (by decide) rfl ?_
      refine zZ_sub [3, 4, 2, 1, 0] rfl ?_
      refine zZ_cast (σ' := (fun (_ : Nat) (dd : Int) => zst (zSq I 36 (dd, I 4 1, I 5)) J q) 0 (I 4 0)) (L' := (fun (e : Nat) (dd : Int) => [(0, .ref 0), (1, .int (iI w)), (2, .int (iI (stillF P V e).1)), (3, .int (iI (stillF P V e).2)), (4, .int (iI (e : Int)))]) 0 (I 4 0)) rfl rfl rfl ?_
      refine zforE (67) (fun _ _ => True) (fun (_ : Nat) (dd : Int) => zst (zSq I 36 (dd, I 4 1, I 5)) J q) (fun (e : Nat) (dd : Int) => [(0, .ref 0), (1, .int (iI w)), (2, .int (iI (stillF P V e).1)), (3, .int (iI (stillF P V e).2)), (4, .int (iI (e : Int)))]) (I 4 0) trivial ?_ ?_
      · intro e dd hee hpe kke
        have hr := stillF_r (P := P) (V := V) (k := e) (fun c _ => hVr c)
        have hVe0 := hVr e
        obtain ⟨st, mm, hnl⟩ : ∃ st mm, stillF P V e = (st, mm) := ⟨_, _, rfl⟩
        rw [hnl] at hr ⊢
        simp only at hr
        refine z_iload C 4 rfl dX5_still_37 ?_
        refine z_bipush C dX5_still_39 (by decide) ?_
        refine z_icmp_ge C 107 dX5_still_41 (by decide) (by omega) (by omega) (fun h41 => ?_) (fun h41 => ?_)
        · omega
        · refine z_aload_n C 0 rfl dX5_still_44 rfl ?_
          refine y_getR C zCl5 0 flX5_10 rfl rfl rfl dX5_still_45 ?_
          refine z_iload C 4 rfl dX5_still_48 ?_
          refine y_callV1 C oX0_mayBeDogs iX0_mayBeDogs eX0_mayBeDogs lkX5_147 (c_X0_mayBeDogs isH_1 (gH_sp isH_1 isS_36 hg) (by first | assumption | omega)) rfl (by decide) rfl rfl (by decide) (Nat.le_refl _) (Nat.le_refl _) (Nat.le_of_ble_eq_true rfl) dX5_still_50 ?_
          refine y_if_eqB C 101 dX5_still_53 (by decide) (fun h53 => ?_) (fun h53 => ?_)
          · obtain ⟨v1, ev1⟩ : ∃ y : Int, y = (e : Int) + 1 := ⟨_, rfl⟩
            refine z_iinc C 4 v1 [(4, .int (iI v1)), (0, .ref 0), (1, .int (iI w)), (2, .int (iI st)), (3, .int (iI mm))] dX5_still_101 rfl ev1.symm (by decide) rfl ?_
            refine z_goto C 37 dX5_still_104 (by decide) ?_
            refine zZ_sub [1, 2, 3, 4, 0] rfl ?_
            refine zZ_cast rfl (zLk (zLk (zLc (by simp only [stillF, hnl]; rw [if_neg (by rw [hP]; simp [show dogsN (I 1 0) (J 1 5) (I 1 1) (e : Int) = false from h53])]) (zLc (by simp only [stillF, hnl]; rw [if_neg (by rw [hP]; simp [show dogsN (I 1 0) (J 1 5) (I 1 1) (e : Int) = false from h53])]) (zLc (by omega) rfl))))) rfl (kke dd trivial)
          · refine z_aload_n C 0 rfl dX5_still_56 rfl ?_
            refine y_getR C zCl5 6 flX5_44 rfl rfl rfl dX5_still_57 ?_
            refine z_iload C 4 rfl dX5_still_60 ?_
            refine y_putI C zCl3 0 flX5_150 rfl rfl rfl rfl dX5_still_62 ?_
            refine zZ_cast (σ' := zst (zSq I 36 ((e : Int), I 4 1, I 5)) J q) (by refine congrArg (fun I' => zst I' J q) ?_; exact zSp_put0.trans zSp_zSp) rfl rfl ?_
            refine z_aload_n C 0 rfl dX5_still_65 rfl ?_
            refine y_getR C zCl5 0 flX5_10 rfl rfl rfl dX5_still_66 ?_
            refine z_aload_n C 0 rfl dX5_still_69 rfl ?_
            refine y_getR C zCl5 6 flX5_44 rfl rfl rfl dX5_still_70 ?_
            refine y_callV1 C oX0_moved iX0_moved eX0_moved lkX5_271 (c_X0_moved isH_1 isS_36 (gH_sp isH_1 isS_36 hg) (gS_of (⟨⟨by omega, by omega⟩, k2, k3⟩ : gP ((e : Int), I 4 1, I 5)))) rfl (by decide) rfl rfl (by decide) (Nat.le_refl _) (Nat.le_refl _) (Nat.le_of_ble_eq_true rfl) dX5_still_73 ?_
            refine y_callS1 C oJ6_bitCount_0f7a4 sJ6_bitCount_0f7a4 lkX5_297 c_J6_bitCount_0f7a4 (by decide) (Nat.le_refl _) (Nat.le_refl _) (Nat.le_of_ble_eq_true rfl) dX5_still_76 ?_
            refine z_topI C (fun bc ebc => ?_)
            refine z_istore C [(5, .int (iI bc)), (0, .ref 0), (1, .int (iI w)), (2, .int (iI st)), (3, .int (iI mm)), (4, .int (iI ((e : Int))))] dX5_still_79 (by decide) rfl ?_
            have hVe : V e = bc := by rw [ebc, hV]; rfl
            refine z_iload_n C 4 rfl dX5_still_81 rfl ?_
            refine z_iload C 0 rfl dX5_still_82 ?_
            refine z_mmax C lkX5_223 (by omega) (by omega) (by decide) (Nat.le_refl _) (Nat.le_refl _) (Nat.le_of_ble_eq_true rfl) dX5_still_84 ?_
            refine z_topI C (fun v2 ev2 => ?_)
            refine z_istore_n C [(3, .int (iI v2)), (5, .int (iI bc)), (0, .ref 0), (1, .int (iI w)), (2, .int (iI st)), (4, .int (iI ((e : Int))))] dX5_still_87 rfl (by decide) rfl ?_
            refine z_iload_n C 4 rfl dX5_still_88 rfl ?_
            refine z_iload C 1 rfl dX5_still_89 ?_
            refine z_if_ne C 98 dX5_still_91 (by decide) (by omega) (fun h91 => ?_) (fun h91 => ?_)
            · refine z_iconst C dX5_still_98 ?_
              refine z_iadd C dX5_still_99 ?_
              refine z_istore_n C [(2, .int (iI (st + 0))), (3, .int (iI v2)), (5, .int (iI bc)), (0, .ref 0), (1, .int (iI w)), (4, .int (iI ((e : Int))))] dX5_still_100 rfl (by decide) rfl ?_
              obtain ⟨v3, ev3⟩ : ∃ y : Int, y = (e : Int) + 1 := ⟨_, rfl⟩
              refine z_iinc C 5 v3 [(4, .int (iI v3)), (2, .int (iI (st + 0))), (3, .int (iI v2)), (5, .int (iI bc)), (0, .ref 0), (1, .int (iI w))] dX5_still_101 rfl ev3.symm (by decide) rfl ?_
              refine z_goto C 37 dX5_still_104 (by decide) ?_
              refine zZ_sub [4, 5, 1, 2, 0] rfl ?_
              refine zZ_cast rfl (zLk (zLk (zLc (by simp only [stillF, hnl]; rw [if_pos (by rw [hP]; exact h53)]; simp only; split <;> omega) (zLc (by simp only [stillF, hnl]; rw [if_pos (by rw [hP]; exact h53)]; simp only; omega) (zLc (by omega) rfl))))) rfl (kke (e : Int) trivial)
            · refine z_iconst C dX5_still_94 ?_
              refine z_goto C 99 dX5_still_95 (by decide) ?_
              refine z_iadd C dX5_still_99 ?_
              refine z_istore_n C [(2, .int (iI (st + 1))), (3, .int (iI v2)), (5, .int (iI bc)), (0, .ref 0), (1, .int (iI w)), (4, .int (iI ((e : Int))))] dX5_still_100 rfl (by decide) rfl ?_
              obtain ⟨v4, ev4⟩ : ∃ y : Int, y = (e : Int) + 1 := ⟨_, rfl⟩
              refine z_iinc C 5 v4 [(4, .int (iI v4)), (2, .int (iI (st + 1))), (3, .int (iI v2)), (5, .int (iI bc)), (0, .ref 0), (1, .int (iI w))] dX5_still_101 rfl ev4.symm (by decide) rfl ?_
              refine z_goto C 37 dX5_still_104 (by decide) ?_
              refine zZ_sub [4, 5, 1, 2, 0] rfl ?_
              refine zZ_cast rfl (zLk (zLk (zLc (by simp only [stillF, hnl]; rw [if_pos (by rw [hP]; exact h53)]; simp only; split <;> omega) (zLc (by simp only [stillF, hnl]; rw [if_pos (by rw [hP]; exact h53)]; simp only; omega) (zLc (by omega) rfl))))) rfl (kke (e : Int) trivial)
      · intro dd hpe
        refine z_iload C 4 rfl dX5_still_37 ?_
        refine z_bipush C dX5_still_39 (by decide) ?_
        refine z_icmp_ge C 107 dX5_still_41 (by decide) (by omega) (by omega) (fun h41 => ?_) (fun h41 => ?_)
        · refine z_iload_n C 1 rfl dX5_still_107 rfl ?_
          refine z_if_ne C 115 dX5_still_108 (by decide) (by omega) (fun h108 => ?_) (fun h108 => ?_)
          · refine z_iload_n C 3 rfl dX5_still_115 rfl ?_
            exact zZ_iret C hR (Nat.le_refl _) (Nat.le_refl _) dX5_still_116 rfl (zEx_I (by rw [uR0 (show fStill w = 0 by (try simp only [decide_eq_true_eq, decide_eq_false_iff_not, bI] at *); unfold fStill; (repeat' split) <;> first | rfl | omega | (exfalso; simp_all; done) | (exfalso; simp_all; omega))]; rw [hsN, if_neg (by omega)]) dd (by rw [uI0 (show fStill w = 0 by (try simp only [decide_eq_true_eq, decide_eq_false_iff_not, bI] at *); unfold fStill; (repeat' split) <;> first | rfl | omega | (exfalso; simp_all; done) | (exfalso; simp_all; omega))]; (first | done | rfl)))
          · refine z_iload_n C 2 rfl dX5_still_111 rfl ?_
            refine z_goto C 116 dX5_still_112 (by decide) ?_
            exact zZ_iret C hR (Nat.le_refl _) (Nat.le_refl _) dX5_still_116 rfl (zEx_I (by rw [uR0 (show fStill w = 0 by (try simp only [decide_eq_true_eq, decide_eq_false_iff_not, bI] at *); unfold fStill; (repeat' split) <;> first | rfl | omega | (exfalso; simp_all; done) | (exfalso; simp_all; omega))]; rw [hsN, if_pos (by omega)]) dd (by rw [uI0 (show fStill w = 0 by (try simp only [decide_eq_true_eq, decide_eq_false_iff_not, bI] at *); unfold fStill; (repeat' split) <;> first | rfl | omega | (exfalso; simp_all; done) | (exfalso; simp_all; omega))]; (first | done | rfl)))
        · omega
    · refine z_aload_n C 0 rfl dX5_still_9 rfl ?_
      refine z_bipush C dX5_still_10 (by decide) ?_
      refine y_callV1 C oX5_refuse iX5_refuse eX5_refuse lkX5_59 (c_X5_refuse (by first | assumption | omega)) rfl (by decide) rfl rfl (by decide) (Nat.le_refl _) (Nat.le_refl _) (Nat.le_of_ble_eq_true rfl) dX5_still_12 ?_
      exact zZ_iret C hR (Nat.le_refl _) (Nat.le_refl _) dX5_still_15 rfl (zEx_I (uRc (show fStill w = -2 by (try simp only [decide_eq_true_eq, decide_eq_false_iff_not, bI] at *); unfold fStill; (repeat' split) <;> first | rfl | omega | (exfalso; simp_all; done) | (exfalso; simp_all; omega)) (by decide)).symm 0 (by rw [uIc (show fStill w = -2 by (try simp only [decide_eq_true_eq, decide_eq_false_iff_not, bI] at *); unfold fStill; (repeat' split) <;> first | rfl | omega | (exfalso; simp_all; done) | (exfalso; simp_all; omega)) (by decide)]))
