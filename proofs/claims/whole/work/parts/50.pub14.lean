set_option maxHeartbeats 4000000 in
set_option maxRecDepth 100000 in
theorem c_X5_most {g : zG} {I : Nat → Nat → Int} {J : Nat → Nat → Int64} {q : Nat × Nat} {m i : Int} (hg : gH I 1) (hq : gS I 4) (hl : gL I) (hm : -2147483648 ≤ m ∧ m ≤ 2147483647) (hi : -2147483648 ≤ i ∧ i ≤ 2147483647) : zRuns g mX5_most 15 0 0 [.ref 0, .int (iI m), .int (iI i)] (zst I J q) (zEx (some (.int (iI (uR (fMost m i) (mostN I J m i))))) (fun I2 : {I2 // frS I I2} => zst (uI I (fMost m i) (I2.1)) J q)) := by
  obtain ⟨g1, g2, g3, g4, g5, g6⟩ := id hg
  obtain ⟨k1, k2, k3⟩ := id hq
  have k3 : ∀ e, e < 5 → 0 ≤ I 5 e ∧ I 5 e ≤ 66 := k3
  refine zRuns_intro rfl (Nat.le_of_ble_eq_true rfl) (fun X C hR => ?_)
  show zZ g X 0 0 _ 0 [(0, .ref 0), (1, .int (iI m)), (2, .int (iI i))] []
  refine z_iload_n C 1 rfl dX5_most_0 rfl ?_
  refine z_if_lt C 19 dX5_most_1 (by decide) (by omega) (fun h1 => ?_) (fun h1 => ?_)
  · refine z_aload_n C 0 rfl dX5_most_19 rfl ?_
    refine z_bipush C dX5_most_20 (by decide) ?_
    refine y_callV1 C oX5_refuse iX5_refuse eX5_refuse lkX5_59 (c_X5_refuse (by first | assumption | omega)) rfl (by decide) rfl rfl (by decide) (Nat.le_refl _) (Nat.le_refl _) (Nat.le_of_ble_eq_true rfl) dX5_most_22 ?_
    exact zZ_iret C hR (Nat.le_refl _) (Nat.le_refl _) dX5_most_25 rfl (zEx_I (uRc (show fMost m i = -2 by (try simp only [decide_eq_true_eq, decide_eq_false_iff_not, bI] at *); unfold fMost; (repeat' split) <;> first | rfl | omega | (exfalso; simp_all; done) | (exfalso; simp_all; omega)) (by decide)).symm ⟨I, frS_rf⟩ (by rw [uIc (show fMost m i = -2 by (try simp only [decide_eq_true_eq, decide_eq_false_iff_not, bI] at *); unfold fMost; (repeat' split) <;> first | rfl | omega | (exfalso; simp_all; done) | (exfalso; simp_all; omega)) (by decide)]))
  · refine z_iload_n C 1 rfl dX5_most_4 rfl ?_
    refine z_iconst C dX5_most_5 ?_
    refine z_icmp_gt C 19 dX5_most_6 (by decide) (by omega) (by omega) (fun h6 => ?_) (fun h6 => ?_)
    · refine z_aload_n C 0 rfl dX5_most_19 rfl ?_
      refine z_bipush C dX5_most_20 (by decide) ?_
      refine y_callV1 C oX5_refuse iX5_refuse eX5_refuse lkX5_59 (c_X5_refuse (by first | assumption | omega)) rfl (by decide) rfl rfl (by decide) (Nat.le_refl _) (Nat.le_refl _) (Nat.le_of_ble_eq_true rfl) dX5_most_22 ?_
      exact zZ_iret C hR (Nat.le_refl _) (Nat.le_refl _) dX5_most_25 rfl (zEx_I (uRc (show fMost m i = -2 by (try simp only [decide_eq_true_eq, decide_eq_false_iff_not, bI] at *); unfold fMost; (repeat' split) <;> first | rfl | omega | (exfalso; simp_all; done) | (exfalso; simp_all; omega)) (by decide)).symm ⟨I, frS_rf⟩ (by rw [uIc (show fMost m i = -2 by (try simp only [decide_eq_true_eq, decide_eq_false_iff_not, bI] at *); unfold fMost; (repeat' split) <;> first | rfl | omega | (exfalso; simp_all; done) | (exfalso; simp_all; omega)) (by decide)]))
    · refine z_iload_n C 2 rfl dX5_most_9 rfl ?_
      refine z_iconst C dX5_most_10 ?_
      refine z_icmp_lt C 19 dX5_most_11 (by decide) (by omega) (by omega) (fun h11 => ?_) (fun h11 => ?_)
      · refine z_aload_n C 0 rfl dX5_most_19 rfl ?_
        refine z_bipush C dX5_most_20 (by decide) ?_
        refine y_callV1 C oX5_refuse iX5_refuse eX5_refuse lkX5_59 (c_X5_refuse (by first | assumption | omega)) rfl (by decide) rfl rfl (by decide) (Nat.le_refl _) (Nat.le_refl _) (Nat.le_of_ble_eq_true rfl) dX5_most_22 ?_
        exact zZ_iret C hR (Nat.le_refl _) (Nat.le_refl _) dX5_most_25 rfl (zEx_I (uRc (show fMost m i = -2 by (try simp only [decide_eq_true_eq, decide_eq_false_iff_not, bI] at *); unfold fMost; (repeat' split) <;> first | rfl | omega | (exfalso; simp_all; done) | (exfalso; simp_all; omega)) (by decide)).symm ⟨I, frS_rf⟩ (by rw [uIc (show fMost m i = -2 by (try simp only [decide_eq_true_eq, decide_eq_false_iff_not, bI] at *); unfold fMost; (repeat' split) <;> first | rfl | omega | (exfalso; simp_all; done) | (exfalso; simp_all; omega)) (by decide)]))
      · refine z_iload_n C 2 rfl dX5_most_14 rfl ?_
        refine z_iload_n C 1 rfl dX5_most_15 rfl ?_
        refine z_icmp_lt C 26 dX5_most_16 (by decide) (by omega) (by omega) (fun h16 => ?_) (fun h16 => ?_)
        · refine z_aload_n C 0 rfl dX5_most_26 rfl ?_
          refine y_getR C zCl5 7 flX5_51 rfl rfl rfl dX5_most_27 ?_
          refine z_iconst C dX5_most_30 ?_
          refine y_putI C zCl1 3 flX5_201 rfl rfl rfl rfl dX5_most_31 ?_
          refine z_aload_n C 0 rfl dX5_most_34 rfl ?_
          refine y_getR C zCl5 7 flX5_51 rfl rfl rfl dX5_most_35 ?_
          refine y_getR C zCl1 0 flX5_187 rfl rfl rfl dX5_most_38 ?_
          refine z_iconst C dX5_most_41 ?_
          refine y_aald C 0 11 (by decide) rfl rfl (by decide) (by decide) rfl dX5_most_42 ?_
          refine z_aload_n C 0 rfl dX5_most_43 rfl ?_
          refine y_getR C zCl5 0 flX5_10 rfl rfl rfl dX5_most_44 ?_
          refine y_getR C zCl0 9 flX5_118 rfl rfl rfl dX5_most_47 ?_
          refine y_callV1 C oX3_setTo iX3_setTo eX3_setTo lkX5_191 (c_X3_setTo isS_40 isS_4) rfl (by decide) rfl rfl (by decide) (Nat.le_refl _) (Nat.le_refl _) (Nat.le_of_ble_eq_true rfl) dX5_most_50 ?_
          refine zZ_cast (σ' := zst (zSq (zu I 38 3 (-1)) 40 (spOf I 4)) J q) rfl rfl rfl ?_
          refine z_aload_n C 0 rfl dX5_most_53 rfl ?_
          refine y_getR C zCl5 7 flX5_51 rfl rfl rfl dX5_most_54 ?_
          refine z_aload_n C 0 rfl dX5_most_57 rfl ?_
          refine y_getR C zCl5 0 flX5_10 rfl rfl rfl dX5_most_58 ?_
          refine z_iconst C dX5_most_61 ?_
          refine z_iload_n C 1 rfl dX5_most_62 rfl ?_
          have hK := c_X1_seekMost (g := g) (J := J) (q := q) m.toNat 0 (zSq (zu I 38 3 (-1)) 40 (spOf I 4)) [] (-1, []) (by omega) (gH_sp isH_1 (by simp [isS]) hg) (gS_of (gP_of hq)) ⟨rfl, fun j hj => by omega⟩ ⟨rfl, by decide, fun j hj => by cases hj⟩
          rw [show ((0 + m.toNat : Nat) : Int) = m by omega] at hK
          refine zZ_callN (host := RX5) (as := [.ref 38, .ref 1, .int (iI 0), .int (iI m)]) C oX1_seekMost sX1_seekMost (List.mem_of_getElem? (i := 9) rfl) hK rfl (by omega) (Nat.le_refl _) (Nat.le_refl _) (Nat.le_of_ble_eq_true rfl) dX5_most_63 (fun r1 σ1 h => ?_)
          obtain ⟨I2, rfl, rfl, hfm, hsk⟩ := h
          have hlen := (skP_good (H := hv I J 1) m.toNat (spOf I 4) [] (-1, []) rfl).2
          have hr1 : I2 38 3 = (skP (hv I J 1) m.toNat (spOf I 4) [] (-1, [])).1 := hsk.1
          refine z_iload_n C 2 rfl dX5_most_66 rfl ?_
          refine z_iconst C dX5_most_67 ?_
          refine z_icmp_ne C 81 dX5_most_68 (by decide) (by omega) (by omega) (fun h68 => ?_) (fun h68 => ?_)
          · refine z_aload_n C 0 rfl dX5_most_81 rfl ?_
            refine y_getR C zCl5 7 flX5_51 rfl rfl rfl dX5_most_82 ?_
            refine y_getR C zCl1 2 flX5_208 rfl rfl rfl dX5_most_85 ?_
            refine z_iload_n C 2 rfl dX5_most_88 rfl ?_
            refine y_iald C i.toNat (by omega) rfl (by omega) (by decide) dX5_most_89 ?_
            exact zZ_iret C hR (Nat.le_refl _) (Nat.le_refl _) dX5_most_90 rfl (zEx_I (by rw [uR0 (show fMost m i = 0 by (try simp only [decide_eq_true_eq, decide_eq_false_iff_not, bI] at *); unfold fMost; (repeat' split) <;> first | rfl | omega | (exfalso; simp_all; done) | (exfalso; simp_all; omega))]; unfold mostN; rw [if_neg (by omega)]; exact hsk.2.2 i.toNat (by show i.toNat < (skP (hv I J 1) m.toNat (spOf I 4) [] (-1, [])).2.length; rw [hlen]; simp; omega)) ⟨I2, frS_most hfm⟩ (by rw [uI0 (show fMost m i = 0 by (try simp only [decide_eq_true_eq, decide_eq_false_iff_not, bI] at *); unfold fMost; (repeat' split) <;> first | rfl | omega | (exfalso; simp_all; done) | (exfalso; simp_all; omega))]; (first | done | rfl)))
          · refine z_aload_n C 0 rfl dX5_most_71 rfl ?_
            refine y_getR C zCl5 7 flX5_51 rfl rfl rfl dX5_most_72 ?_
            refine y_getI C zCl1 3 flX5_201 rfl rfl dX5_most_75 ?_
            refine z_goto C 90 dX5_most_78 (by decide) ?_
            exact zZ_iret C hR (Nat.le_refl _) (Nat.le_refl _) dX5_most_90 rfl (zEx_I (by rw [uR0 (show fMost m i = 0 by (try simp only [decide_eq_true_eq, decide_eq_false_iff_not, bI] at *); unfold fMost; (repeat' split) <;> first | rfl | omega | (exfalso; simp_all; done) | (exfalso; simp_all; omega))]; unfold mostN; rw [if_pos (by omega)]; exact hr1) ⟨I2, frS_most hfm⟩ (by rw [uI0 (show fMost m i = 0 by (try simp only [decide_eq_true_eq, decide_eq_false_iff_not, bI] at *); unfold fMost; (repeat' split) <;> first | rfl | omega | (exfalso; simp_all; done) | (exfalso; simp_all; omega))]; (first | done | rfl)))
        · refine z_aload_n C 0 rfl dX5_most_19 rfl ?_
          refine z_bipush C dX5_most_20 (by decide) ?_
          refine y_callV1 C oX5_refuse iX5_refuse eX5_refuse lkX5_59 (c_X5_refuse (by first | assumption | omega)) rfl (by decide) rfl rfl (by decide) (Nat.le_refl _) (Nat.le_refl _) (Nat.le_of_ble_eq_true rfl) dX5_most_22 ?_
          exact zZ_iret C hR (Nat.le_refl _) (Nat.le_refl _) dX5_most_25 rfl (zEx_I (uRc (show fMost m i = -2 by (try simp only [decide_eq_true_eq, decide_eq_false_iff_not, bI] at *); unfold fMost; (repeat' split) <;> first | rfl | omega | (exfalso; simp_all; done) | (exfalso; simp_all; omega)) (by decide)).symm ⟨I, frS_rf⟩ (by rw [uIc (show fMost m i = -2 by (try simp only [decide_eq_true_eq, decide_eq_false_iff_not, bI] at *); unfold fMost; (repeat' split) <;> first | rfl | omega | (exfalso; simp_all; done) | (exfalso; simp_all; omega)) (by decide)]))
