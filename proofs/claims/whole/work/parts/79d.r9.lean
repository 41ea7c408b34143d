set_option maxHeartbeats 4000000 in
set_option maxRecDepth 100000 in
theorem c_X6_most {g : zG} {I : Nat → Nat → Int} {J : Nat → Nat → Int64} {q : Nat × Nat} {m i : Int} (hgr : gR I) (hrs : gRS (spR I)) (hrl : gRL I) (hdo : openN (I 58 0) (maskW (I 59)) (I 58 3) = true) (hm : -2147483648 ≤ m ∧ m ≤ 2147483647) (hi : -2147483648 ≤ i ∧ i ≤ 2147483647) : zRuns g mX6_most 15 0 0 [.ref 58, .int (iI m), .int (iI i)] (zst I J q) (zEx (some (.int (iI (uR (fMost m i) (mostR I m i))))) (fun I2 : {I2 // frR I I2} => zst (uK I2.1 (fMost m i) (I2.1)) J q)) := by
  obtain ⟨b1, b2, b3, b4, b5, b6, b7⟩ := id hgr
  obtain ⟨k1, k2, k3⟩ := id hrs
  have k1 : gC7 (I 58 3) := k1
  have k2 : 0 ≤ I 58 4 ∧ I 58 4 ≤ 4 := k2
  have k3 : ∀ e, e < 5 → gC7 (I 62 e) := k3
  have k1' := k1.1
  have b2' := b2.1
  have v10 : VI I 1 0 = I 58 0 := congrArg (fun x => x) rfl
  have v11 : VI I 1 1 = I 58 2 := congrArg (fun x => x) rfl
  have v12 : VI I 1 2 = I 58 9 := congrArg (fun x => x) rfl
  have v16 : VI I 1 6 = I 58 5 := congrArg (fun x => x) rfl
  have v40 : VI I 4 0 = I 58 3 := congrArg (fun x => x) rfl
  have v41 : VI I 4 1 = I 58 4 := congrArg (fun x => x) rfl
  have v111 : VI I 11 1 = I 58 12 := congrArg (fun x => x) rfl
  have v13 : VI I 1 3 = I 58 10 := congrArg (fun x => x) rfl
  have v14 : VI I 1 4 = I 58 11 := congrArg (fun x => x) rfl
  refine zRuns_intro rfl (Nat.le_of_ble_eq_true rfl) (fun X C hR => ?_)
  show zZ g X 0 0 _ 0 [(0, .ref 58), (1, .int (iI m)), (2, .int (iI i))] []
  refine z_iload_n C 1 rfl dX6_most_0 rfl ?_
  refine z_iconst C dX6_most_1 ?_
  refine z_iconst C dX6_most_2 ?_
  refine y_callS3 C oX6_within sX6_within lkX6_75 (c_X6_within (by first | assumption | omega) (by first | assumption | omega) (by first | assumption | omega)) (by decide) (Nat.le_refl _) (Nat.le_refl _) (Nat.le_of_ble_eq_true rfl) dX6_most_3 ?_
  refine y_if_eqB C 20 dX6_most_6 (by decide) (fun h6 => ?_) (fun h6 => ?_)
  · have h7b : ¬ (0 ≤ m ∧ m ≤ 5) := of_decide_eq_false h6
    refine z_aload_n C 0 rfl dX6_most_20 rfl ?_
    refine z_bipush C dX6_most_21 (by decide) ?_
    refine y_callV1 C oX6_no iX6_no eX6_no lkX6_83 (c_X6_no (by first | assumption | omega)) rfl (by decide) rfl rfl (by decide) (Nat.le_refl _) (Nat.le_refl _) (Nat.le_of_ble_eq_true rfl) dX6_most_23 ?_
    exact zZ_iret C hR (Nat.le_refl _) (Nat.le_refl _) dX6_most_26 rfl (zEx_I (uRc (show fMost m i = -2 by (try simp only [decide_eq_true_eq, decide_eq_false_iff_not, bI] at *); (unfold fMost; (try simp only [v10, v11, v12, v16, v40, v41, v111]); (try simp only [v10]); (repeat' split) <;> first | rfl | omega | (exfalso; simp_all; done) | (exfalso; simp_all; omega))) (by decide)).symm ⟨I, frR_rf⟩ (by rw [uKc (show fMost m i = -2 by (try simp only [decide_eq_true_eq, decide_eq_false_iff_not, bI] at *); (unfold fMost; (try simp only [v10, v11, v12, v16, v40, v41, v111]); (try simp only [v10]); (repeat' split) <;> first | rfl | omega | (exfalso; simp_all; done) | (exfalso; simp_all; omega))) (by decide)]))
  · have h7b : 0 ≤ m ∧ m ≤ 5 := of_decide_eq_true h6
    refine z_iload_n C 2 rfl dX6_most_9 rfl ?_
    refine z_iconst C dX6_most_10 ?_
    refine z_iload_n C 1 rfl dX6_most_11 rfl ?_
    refine z_iconst C dX6_most_12 ?_
    refine z_isub C dX6_most_13 ?_
    refine y_callS3 C oX6_within sX6_within lkX6_75 (c_X6_within (by first | assumption | omega) (by first | assumption | omega) (by first | assumption | omega)) (by decide) (Nat.le_refl _) (Nat.le_refl _) (Nat.le_of_ble_eq_true rfl) dX6_most_14 ?_
    refine y_if_neB C 27 dX6_most_17 (by decide) (fun h17 => ?_) (fun h17 => ?_)
    · have h7c : -1 ≤ i ∧ i ≤ m - 1 := of_decide_eq_true h17
      refine z_aload_n C 0 rfl dX6_most_27 rfl ?_
      refine z_iconst C dX6_most_28 ?_
      refine y_putI C zCl6 28 flX6_244 rfl rfl rfl rfl dX6_most_29 ?_
      refine z_aload_n C 0 rfl dX6_most_32 rfl ?_
      refine z_iconst C dX6_most_33 ?_
      refine z_iload_n C 1 rfl dX6_most_34 rfl ?_
      have hK := c_X6_seeks (g := g) (J := J) (q := q) m.toNat 0 (zu I 58 28 (-1)) [] (-1, []) (by omega) hgr hrs hdo ⟨rfl, fun j hj => by omega⟩ ⟨zu_s, by decide, fun j hj => by cases hj⟩
      rw [show ((0 + m.toNat : Nat) : Int) = m by omega] at hK
      refine zZ_callV (as := [.int (iI 0), .int (iI m)]) C oX6_seeks iX6_seeks eX6_seeks lkX6_247 rfl (by decide) rfl rfl hK rfl (by omega) (Nat.le_refl _) (Nat.le_refl _) (Nat.le_of_ble_eq_true rfl) dX6_most_35 (fun r1 σ1 h => ?_)
      obtain ⟨I2, rfl, rfl, hfm, hsk⟩ := h
      have hlen := (skR_good (H := hvR I) m.toNat (spR I) [] (-1, []) rfl).2
      have hsk2 : skAR I2 (skR (hvR I) m.toNat (spR I) [] (-1, [])) := hsk
      have hr1 : I2 58 28 = (skR (hvR I) m.toNat (spR I) [] (-1, [])).1 := hsk2.1
      refine z_iload_n C 2 rfl dX6_most_38 rfl ?_
      refine z_iconst C dX6_most_39 ?_
      refine z_icmp_ne C 50 dX6_most_40 (by decide) (by omega) (by omega) (fun h40 => ?_) (fun h40 => ?_)
      · refine z_aload_n C 0 rfl dX6_most_50 rfl ?_
        refine y_getR C zCl6 27 flX6_51 rfl rfl rfl dX6_most_51 ?_
        refine z_iload_n C 2 rfl dX6_most_54 rfl ?_
        refine y_iald C i.toNat (by omega) rfl (by omega) (by decide) dX6_most_55 ?_
        exact zZ_iret C hR (Nat.le_refl _) (Nat.le_refl _) dX6_most_56 rfl (zEx_I (by rw [uR0 (show fMost m i = 0 by (try simp only [decide_eq_true_eq, decide_eq_false_iff_not, bI] at *); (unfold fMost; (try simp only [v10, v11, v12, v16, v40, v41, v111]); (try simp only [v10]); (repeat' split) <;> first | rfl | omega | (exfalso; simp_all; done) | (exfalso; simp_all; omega)))]; unfold mostR; rw [if_neg (by omega)]; exact hsk2.2.2 i.toNat (by rw [hlen]; simp; omega)) ⟨I2, frR_tr frR_u (frK_R hfm)⟩ (by rw [uK0 (show fMost m i = 0 by (try simp only [decide_eq_true_eq, decide_eq_false_iff_not, bI] at *); (unfold fMost; (try simp only [v10, v11, v12, v16, v40, v41, v111]); (try simp only [v10]); (repeat' split) <;> first | rfl | omega | (exfalso; simp_all; done) | (exfalso; simp_all; omega)))]; (first | done | rfl)))
      · refine z_aload_n C 0 rfl dX6_most_43 rfl ?_
        refine y_getI C zCl6 28 flX6_244 rfl rfl dX6_most_44 ?_
        refine z_goto C 56 dX6_most_47 (by decide) ?_
        exact zZ_iret C hR (Nat.le_refl _) (Nat.le_refl _) dX6_most_56 rfl (zEx_I (by rw [uR0 (show fMost m i = 0 by (try simp only [decide_eq_true_eq, decide_eq_false_iff_not, bI] at *); (unfold fMost; (try simp only [v10, v11, v12, v16, v40, v41, v111]); (try simp only [v10]); (repeat' split) <;> first | rfl | omega | (exfalso; simp_all; done) | (exfalso; simp_all; omega)))]; unfold mostR; rw [if_pos (by omega)]; exact hr1) ⟨I2, frR_tr frR_u (frK_R hfm)⟩ (by rw [uK0 (show fMost m i = 0 by (try simp only [decide_eq_true_eq, decide_eq_false_iff_not, bI] at *); (unfold fMost; (try simp only [v10, v11, v12, v16, v40, v41, v111]); (try simp only [v10]); (repeat' split) <;> first | rfl | omega | (exfalso; simp_all; done) | (exfalso; simp_all; omega)))]; (first | done | rfl)))
    · have h7c : ¬ (-1 ≤ i ∧ i ≤ m - 1) := of_decide_eq_false h17
      refine z_aload_n C 0 rfl dX6_most_20 rfl ?_
      refine z_bipush C dX6_most_21 (by decide) ?_
      refine y_callV1 C oX6_no iX6_no eX6_no lkX6_83 (c_X6_no (by first | assumption | omega)) rfl (by decide) rfl rfl (by decide) (Nat.le_refl _) (Nat.le_refl _) (Nat.le_of_ble_eq_true rfl) dX6_most_23 ?_
      exact zZ_iret C hR (Nat.le_refl _) (Nat.le_refl _) dX6_most_26 rfl (zEx_I (uRc (show fMost m i = -2 by (try simp only [decide_eq_true_eq, decide_eq_false_iff_not, bI] at *); (unfold fMost; (try simp only [v10, v11, v12, v16, v40, v41, v111]); (try simp only [v10]); (repeat' split) <;> first | rfl | omega | (exfalso; simp_all; done) | (exfalso; simp_all; omega))) (by decide)).symm ⟨I, frR_rf⟩ (by rw [uKc (show fMost m i = -2 by (try simp only [decide_eq_true_eq, decide_eq_false_iff_not, bI] at *); (unfold fMost; (try simp only [v10, v11, v12, v16, v40, v41, v111]); (try simp only [v10]); (repeat' split) <;> first | rfl | omega | (exfalso; simp_all; done) | (exfalso; simp_all; omega))) (by decide)]))
