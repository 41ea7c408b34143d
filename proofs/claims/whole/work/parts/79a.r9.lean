set_option maxHeartbeats 4000000 in
set_option maxRecDepth 100000 in
theorem c_X6_ways {g : zG} {I : Nat → Nat → Int} {J : Nat → Nat → Int64} {q : Nat × Nat} {m : Int} (hgr : gR I) (hrs : gRS (spR I)) (hrl : gRL I) (hdo : openN (I 58 0) (maskW (I 59)) (I 58 3) = true) (hm : -2147483648 ≤ m ∧ m ≤ 2147483647) : zRun g mX6_ways 11 [.ref 58, .int (iI m)] (zst I J q) (some (.int (iI (uR (fWays m) (sgP (I 58 0) (maskW (I 59)) (I 58 2) m.toNat (I 58 3).toNat))))) (zst (uK I (fWays m) (I)) J q) := by
  obtain ⟨b1, b2, b3, b4, b5, b6, b7⟩ := id hgr
  obtain ⟨k1, k2, k3⟩ := id hrs
  have k1 : gC7 (I 58 3) := k1
  have k2 : 0 ≤ I 58 4 ∧ I 58 4 ≤ 4 := k2
  have k3 : ∀ e, e < 5 → gC7 (I 62 e) := k3
  have k1' := k1.1
  have b2' := b2.1
  have v10 : VI I 1 0 = I 58 0 := congrArg (fun x => x) rfl
  have v11 : VI I 1 1 = I 58 2 := congrArg (fun x => x) rfl
  have v12 : VI I 1 2 = I 58 9 := congrArg (fun x => x) rfl
  have v16 : VI I 1 6 = I 58 5 := congrArg (fun x => x) rfl
  have v40 : VI I 4 0 = I 58 3 := congrArg (fun x => x) rfl
  have v41 : VI I 4 1 = I 58 4 := congrArg (fun x => x) rfl
  have v111 : VI I 11 1 = I 58 12 := congrArg (fun x => x) rfl
  have v13 : VI I 1 3 = I 58 10 := congrArg (fun x => x) rfl
  have v14 : VI I 1 4 = I 58 11 := congrArg (fun x => x) rfl
  refine zRuns_intro rfl (Nat.le_of_ble_eq_true rfl) (fun X C hR => ?_)
  show zZ g X 0 0 _ 0 [(0, .ref 58), (1, .int (iI m))] []
  refine z_iload_n C 1 rfl dX6_ways_0 rfl ?_
  refine z_iconst C dX6_ways_1 ?_
  refine z_bipush C dX6_ways_2 (by decide) ?_
  refine y_callS3 C oX6_within sX6_within lkX6_75 (c_X6_within (by first | assumption | omega) (by first | assumption | omega) (by first | assumption | omega)) (by decide) (Nat.le_refl _) (Nat.le_refl _) (Nat.le_of_ble_eq_true rfl) dX6_ways_4 ?_
  refine y_if_eqB C 18 dX6_ways_7 (by decide) (fun h7 => ?_) (fun h7 => ?_)
  · have h7b : ¬ (0 ≤ m ∧ m ≤ 6) := of_decide_eq_false h7
    refine z_aload_n C 0 rfl dX6_ways_18 rfl ?_
    refine z_bipush C dX6_ways_19 (by decide) ?_
    refine y_callV1 C oX6_no iX6_no eX6_no lkX6_83 (c_X6_no (by first | assumption | omega)) rfl (by decide) rfl rfl (by decide) (Nat.le_refl _) (Nat.le_refl _) (Nat.le_of_ble_eq_true rfl) dX6_ways_21 ?_
    exact zZ_iret C hR (Nat.le_refl _) (Nat.le_refl _) dX6_ways_24 rfl (zIs_I (uRc (show fWays m = -2 by (try simp only [decide_eq_true_eq, decide_eq_false_iff_not, bI] at *); (unfold fWays; (try simp only [v10, v11, v12, v16, v40, v41, v111]); (try simp only [v10]); (repeat' split) <;> first | rfl | omega | (exfalso; simp_all; done) | (exfalso; simp_all; omega))) (by decide)).symm (by rw [uKc (show fWays m = -2 by (try simp only [decide_eq_true_eq, decide_eq_false_iff_not, bI] at *); (unfold fWays; (try simp only [v10, v11, v12, v16, v40, v41, v111]); (try simp only [v10]); (repeat' split) <;> first | rfl | omega | (exfalso; simp_all; done) | (exfalso; simp_all; omega))) (by decide)]))
  · have h7b : 0 ≤ m ∧ m ≤ 6 := of_decide_eq_true h7
    obtain ⟨mn, hmn⟩ : ∃ n : Nat, m = n := ⟨m.toNat, by omega⟩
    have hmt : m.toNat = mn := by omega
    rw [hmn]
    refine z_aload_n C 0 rfl dX6_ways_10 rfl ?_
    refine z_iload_n C 1 rfl dX6_ways_11 rfl ?_
    have hK := c_X6_rows (g := g) (J := J) (q := q) mn I (by omega) hgr hrs hdo
    refine zZ_callV (as := [.int (iI (mn : Int))]) C oX6_rows iX6_rows eX6_rows lkX6_284 rfl (by decide) rfl rfl hK rfl (by omega) (Nat.le_refl _) (Nat.le_refl _) (Nat.le_of_ble_eq_true rfl) dX6_ways_12 (fun r1 σ1 h => ?_)
    obtain ⟨rfl, rfl⟩ := h
    refine z_goto C 24 dX6_ways_15 (by decide) ?_
    exact zZ_iret C hR (Nat.le_refl _) (Nat.le_refl _) dX6_ways_24 rfl (zIs_I (by rw [uR0 (show fWays m = 0 by (try simp only [decide_eq_true_eq, decide_eq_false_iff_not, bI] at *); (unfold fWays; (try simp only [v10, v11, v12, v16, v40, v41, v111]); (try simp only [v10]); (repeat' split) <;> first | rfl | omega | (exfalso; simp_all; done) | (exfalso; simp_all; omega)))]; rw [hmt]) (by rw [uK0 (show fWays m = 0 by (try simp only [decide_eq_true_eq, decide_eq_false_iff_not, bI] at *); (unfold fWays; (try simp only [v10, v11, v12, v16, v40, v41, v111]); (try simp only [v10]); (repeat' split) <;> first | rfl | omega | (exfalso; simp_all; done) | (exfalso; simp_all; omega)))]))
