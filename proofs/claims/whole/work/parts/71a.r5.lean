set_option maxHeartbeats 4000000 in
set_option maxRecDepth 100000 in
theorem c_X6_grazing {g : zG} {I : Nat → Nat → Int} {J : Nat → Nat → Int64} {q : Nat × Nat}  (hgr : gR I) (hrs : gRS (spR I)) (hrl : gRL I) : zRun g mX6_grazing 2 [.ref 58] (zst I J q) (some (.int (iI ((grazN (VI I) : Nat))))) (zst I J q) := by
  obtain ⟨b1, b2, b3, b4, b5, b6, b7⟩ := id hgr
  obtain ⟨k1, k2, k3⟩ := id hrs
  have k1 : gC7 (I 58 3) := k1
  have k2 : 0 ≤ I 58 4 ∧ I 58 4 ≤ 4 := k2
  have k3 : ∀ e, e < 5 → gC7 (I 62 e) := k3
  have k1' := k1.1
  have b2' := b2.1
  obtain ⟨n, hn⟩ : ∃ n : Nat, I 58 5 = n := ⟨(I 58 5).toNat, by omega⟩
  have hn2 : (I 58 5).toNat = n := by omega
  obtain ⟨P, hP⟩ : ∃ P : Nat → Bool, P = fun e => !decide (I 62 e = I 58 2) && decide (3 < stp (I 62 e) (I 58 3)) := ⟨_, rfl⟩
  have hG : grazN (VI I) = bitsN P n := by rw [hP, ← hn2]; rfl
  rw [hG]
  refine zRuns_intro rfl (Nat.le_of_ble_eq_true rfl) (fun X C hR => ?_)
  show zZ g X 0 0 _ 0 [(0, .ref 58)] []
  refine z_iconst C dX6_grazing_0 ?_
  refine z_istore_n C [(1, .int (iI 0)), (0, .ref 58)] dX6_grazing_1 rfl (by decide) rfl ?_
  refine z_iconst C dX6_grazing_2 ?_
  refine z_istore_n C [(2, .int (iI 0)), (1, .int (iI 0)), (0, .ref 58)] dX6_grazing_3 rfl (by decide) rfl ?_
  refine zZ_sub [2, 1, 0] rfl ?_
  refine zZ_cast (σ' := (fun _ : Nat => zst I J q) 0) (L' := (fun e : Nat => [(0, .ref 58), (1, .int (iI (bitsN P e : Nat))), (2, .int (iI (e : Int)))]) 0) rfl rfl rfl ?_
  refine zfor (n) (fun _ => True) (fun _ : Nat => zst I J q) (fun e : Nat => [(0, .ref 58), (1, .int (iI (bitsN P e : Nat))), (2, .int (iI (e : Int)))]) trivial ?_ ?_
  · intro e hee hpe kke
    have q3 := (k3 e (by omega)).1
    have qs := stp_r (c := I 62 e) (d := I 58 3) (by omega) (by omega)
    refine z_iload_n C 2 rfl dX6_grazing_4 rfl ?_
    refine z_aload_n C 0 rfl dX6_grazing_5 rfl ?_
    refine y_getI C zCl6 5 flX6_72 rfl rfl dX6_grazing_6 ?_
    refine z_icmp_ge C 49 dX6_grazing_9 (by decide) (by omega) (by omega) (fun h9 => ?_) (fun h9 => ?_)
    · omega
    · refine z_aload_n C 0 rfl dX6_grazing_12 rfl ?_
      refine z_iload_n C 2 rfl dX6_grazing_13 rfl ?_
      refine y_callV1 C oX6_isIn iX6_isIn eX6_isIn lkX6_122 (c_X6_isIn hgr hrs (by first | assumption | omega)) rfl (by decide) rfl rfl (by decide) (Nat.le_refl _) (Nat.le_refl _) (Nat.le_of_ble_eq_true rfl) dX6_grazing_14 ?_
      refine y_if_neB C 43 dX6_grazing_17 (by decide) (fun h17 => ?_) (fun h17 => ?_)
      · obtain ⟨v1, ev1⟩ : ∃ y : Int, y = (e : Int) + 1 := ⟨_, rfl⟩
        refine z_iinc C 2 v1 [(2, .int (iI v1)), (0, .ref 58), (1, .int (iI ((bitsN P e : Nat))))] dX6_grazing_43 rfl ev1.symm (by decide) rfl ?_
        refine z_goto C 4 dX6_grazing_46 (by decide) ?_
        refine zZ_sub [1, 2, 0] rfl ?_
        refine zZ_cast rfl (zLk (zLc (by rw [bitsN_no (by rw [hP]; simp [show I 62 e = I 58 2 by simpa using h17])]) (zLc (by omega) rfl))) rfl (kke trivial)
      · refine z_aload_n C 0 rfl dX6_grazing_20 rfl ?_
        refine y_getR C zCl6 8 flX6_20 rfl rfl rfl dX6_grazing_21 ?_
        refine z_iload_n C 2 rfl dX6_grazing_24 rfl ?_
        refine y_iald C e (by omega) rfl (by omega) (by decide) dX6_grazing_25 ?_
        refine z_aload_n C 0 rfl dX6_grazing_26 rfl ?_
        refine y_getI C zCl6 3 flX6_61 rfl rfl dX6_grazing_27 ?_
        refine y_callS2 C oX6_steps sX6_steps lkX6_215 (c_X6_steps (by first | assumption | omega) (by first | assumption | omega)) (by decide) (Nat.le_refl _) (Nat.le_refl _) (Nat.le_of_ble_eq_true rfl) dX6_grazing_30 ?_
        refine z_iconst C dX6_grazing_33 ?_
        refine z_icmp_le C 43 dX6_grazing_34 (by decide) (by omega) (by omega) (fun h34 => ?_) (fun h34 => ?_)
        · obtain ⟨v2, ev2⟩ : ∃ y : Int, y = (e : Int) + 1 := ⟨_, rfl⟩
          refine z_iinc C 2 v2 [(2, .int (iI v2)), (0, .ref 58), (1, .int (iI ((bitsN P e : Nat))))] dX6_grazing_43 rfl ev2.symm (by decide) rfl ?_
          refine z_goto C 4 dX6_grazing_46 (by decide) ?_
          refine zZ_sub [1, 2, 0] rfl ?_
          refine zZ_cast rfl (zLk (zLc (by rw [bitsN_no (by rw [hP]; simp; intro; omega)]) (zLc (by omega) rfl))) rfl (kke trivial)
        · refine z_iload_n C 1 rfl dX6_grazing_37 rfl ?_
          refine z_iconst C dX6_grazing_38 ?_
          refine z_iload_n C 2 rfl dX6_grazing_39 rfl ?_
          refine z_ishl C ((2 ^ e : Nat) : Int) dX6_grazing_40 (iI_sh1 (by omega)) ?_
          refine z_ior C (bitsN P (e + 1) : Nat) dX6_grazing_41 (bitsN_step (by omega) (by rw [hP]; simp [show ¬ I 62 e = I 58 2 by simpa using h17]; omega)) ?_
          refine z_istore_n C [(1, .int (iI ((bitsN P (e + 1) : Nat)))), (0, .ref 58), (2, .int (iI ((e : Int))))] dX6_grazing_42 rfl (by decide) rfl ?_
          obtain ⟨v3, ev3⟩ : ∃ y : Int, y = (e : Int) + 1 := ⟨_, rfl⟩
          refine z_iinc C 2 v3 [(2, .int (iI v3)), (1, .int (iI ((bitsN P (e + 1) : Nat)))), (0, .ref 58)] dX6_grazing_43 rfl ev3.symm (by decide) rfl ?_
          refine z_goto C 4 dX6_grazing_46 (by decide) ?_
          refine zZ_sub [2, 1, 0] rfl ?_
          refine zZ_cast rfl (zLk (zLc rfl (zLc (by omega) rfl))) rfl (kke trivial)
  · intro hpe
    refine z_iload_n C 2 rfl dX6_grazing_4 rfl ?_
    refine z_aload_n C 0 rfl dX6_grazing_5 rfl ?_
    refine y_getI C zCl6 5 flX6_72 rfl rfl dX6_grazing_6 ?_
    refine z_icmp_ge C 49 dX6_grazing_9 (by decide) (by omega) (by omega) (fun h9 => ?_) (fun h9 => ?_)
    · refine z_iload_n C 1 rfl dX6_grazing_49 rfl ?_
      exact zZ_iret C hR (Nat.le_refl _) (Nat.le_refl _) dX6_grazing_50 rfl (zIs_I rfl rfl)
    · omega
set_option maxHeartbeats 4000000 in
set_option maxRecDepth 100000 in
theorem c_X6_last {g : zG} {I : Nat → Nat → Int} {J : Nat → Nat → Int64} {q : Nat × Nat}  (hgr : gR I) (hrs : gRS (spR I)) (hrl : gRL I) : zRun g mX6_last 2 [.ref 58] (zst I J q) (some (.int (iI ((lastF (VI I 5) (VI I 1 1) (VI I 1 6).toNat).1)))) (zst I J q) := by
  obtain ⟨b1, b2, b3, b4, b5, b6, b7⟩ := id hgr
  obtain ⟨k1, k2, k3⟩ := id hrs
  have k1 : gC7 (I 58 3) := k1
  have k2 : 0 ≤ I 58 4 ∧ I 58 4 ≤ 4 := k2
  have k3 : ∀ e, e < 5 → gC7 (I 62 e) := k3
  have k1' := k1.1
  have b2' := b2.1
  obtain ⟨n, hn⟩ : ∃ n : Nat, I 58 5 = n := ⟨(I 58 5).toNat, by omega⟩
  have hn2 : (I 58 5).toNat = n := by omega
  have hL : (lastF (VI I 5) (VI I 1 1) (VI I 1 6).toNat).1 = (lastF (I 62) (I 58 2) n).1 := by rw [← hn2]; rfl
  rw [hL]
  have hC := fun e (he : e < 5) => (k3 e he).1
  refine zRuns_intro rfl (Nat.le_of_ble_eq_true rfl) (fun X C hR => ?_)
  show zZ g X 0 0 _ 0 [(0, .ref 58)] []
  refine z_iconst C dX6_last_0 ?_
  refine z_istore_n C [(1, .int (iI ((-1)))), (0, .ref 58)] dX6_last_1 rfl (by decide) rfl ?_
  refine z_iconst C dX6_last_2 ?_
  refine z_istore_n C [(2, .int (iI 0)), (1, .int (iI ((-1)))), (0, .ref 58)] dX6_last_3 rfl (by decide) rfl ?_
  refine zZ_sub [2, 1, 0] rfl ?_
  refine zZ_cast (σ' := (fun _ : Nat => zst I J q) 0) (L' := (fun e : Nat => [(0, .ref 58), (1, .int (iI (lastF (I 62) (I 58 2) e).1)), (2, .int (iI (e : Int)))]) 0) rfl rfl rfl ?_
  refine zfor (n) (fun _ => True) (fun _ : Nat => zst I J q) (fun e : Nat => [(0, .ref 58), (1, .int (iI (lastF (I 62) (I 58 2) e).1)), (2, .int (iI (e : Int)))]) trivial ?_ ?_
  · intro e hee hpe kke
    have qe := hC e (by omega)
    have hst := stp_r (c := I 62 e) (d := I 58 2) (by omega) (by omega)
    have hli := lastF_i b2.1 hC e (by omega)
    obtain ⟨nr, ls, hnl⟩ : ∃ nr ls, lastF (I 62) (I 58 2) e = (nr, ls) := ⟨_, _, rfl⟩
    rw [hnl] at hli ⊢
    dsimp only at hli
    have hnr : -1 ≤ nr ∧ nr ≤ 5 := by rcases hli with ⟨_, h⟩ | h; cases h; omega; omega
    refine z_iload_n C 2 rfl dX6_last_4 rfl ?_
    refine z_aload_n C 0 rfl dX6_last_5 rfl ?_
    refine y_getI C zCl6 5 flX6_72 rfl rfl dX6_last_6 ?_
    refine z_icmp_ge C 54 dX6_last_9 (by decide) (by omega) (by omega) (fun h9 => ?_) (fun h9 => ?_)
    · omega
    · refine z_iload_n C 1 rfl dX6_last_12 rfl ?_
      refine z_iconst C dX6_last_13 ?_
      refine z_icmp_eq C 46 dX6_last_14 (by decide) (by omega) (by omega) (fun h14 => ?_) (fun h14 => ?_)
      · refine z_iload_n C 2 rfl dX6_last_46 rfl ?_
        refine z_istore_n C [(1, .int (iI ((e : Int)))), (0, .ref 58), (2, .int (iI ((e : Int))))] dX6_last_47 rfl (by decide) rfl ?_
        obtain ⟨v1, ev1⟩ : ∃ y : Int, y = (e : Int) + 1 := ⟨_, rfl⟩
        refine z_iinc C 2 v1 [(2, .int (iI v1)), (1, .int (iI ((e : Int)))), (0, .ref 58)] dX6_last_48 rfl ev1.symm (by decide) rfl ?_
        refine z_goto C 4 dX6_last_51 (by decide) ?_
        refine zZ_sub [2, 1, 0] rfl ?_
        refine zZ_cast rfl (zLk (zLc (by simp only [lastF, hnl]; rcases hli with ⟨_, h⟩ | h; (cases h; rw [if_pos (by omega)]); exact absurd h14 (by omega)) (zLc (by omega) rfl))) rfl (kke trivial)
      · have hl2 : 0 ≤ nr ∧ nr < e ∧ ls = stp (I 62 nr.toNat) (I 58 2) := by rcases hli with ⟨_, h⟩ | h; (cases h; exact absurd rfl h14); exact h.2
        have qn := hC nr.toNat (by omega)
        have hst2 := stp_r (c := I 62 nr.toNat) (d := I 58 2) (by omega) (by omega)
        refine z_aload_n C 0 rfl dX6_last_17 rfl ?_
        refine y_getR C zCl6 8 flX6_20 rfl rfl rfl dX6_last_18 ?_
        refine z_iload_n C 2 rfl dX6_last_21 rfl ?_
        refine y_iald C e (by omega) rfl (by omega) (by decide) dX6_last_22 ?_
        refine z_aload_n C 0 rfl dX6_last_23 rfl ?_
        refine y_getI C zCl6 2 flX6_119 rfl rfl dX6_last_24 ?_
        refine y_callS2 C oX6_steps sX6_steps lkX6_215 (c_X6_steps (by first | assumption | omega) (by first | assumption | omega)) (by decide) (Nat.le_refl _) (Nat.le_refl _) (Nat.le_of_ble_eq_true rfl) dX6_last_27 ?_
        refine z_aload_n C 0 rfl dX6_last_30 rfl ?_
        refine y_getR C zCl6 8 flX6_20 rfl rfl rfl dX6_last_31 ?_
        refine z_iload_n C 1 rfl dX6_last_34 rfl ?_
        refine y_iald C nr.toNat (by omega) rfl (by omega) (by decide) dX6_last_35 ?_
        refine z_aload_n C 0 rfl dX6_last_36 rfl ?_
        refine y_getI C zCl6 2 flX6_119 rfl rfl dX6_last_37 ?_
        refine y_callS2 C oX6_steps sX6_steps lkX6_215 (c_X6_steps (by first | assumption | omega) (by first | assumption | omega)) (by decide) (Nat.le_refl _) (Nat.le_refl _) (Nat.le_of_ble_eq_true rfl) dX6_last_40 ?_
        refine z_icmp_le C 48 dX6_last_43 (by decide) (by omega) (by omega) (fun h43 => ?_) (fun h43 => ?_)
        · obtain ⟨v2, ev2⟩ : ∃ y : Int, y = (e : Int) + 1 := ⟨_, rfl⟩
          refine z_iinc C 2 v2 [(2, .int (iI v2)), (0, .ref 58), (1, .int (iI nr))] dX6_last_48 rfl ev2.symm (by decide) rfl ?_
          refine z_goto C 4 dX6_last_51 (by decide) ?_
          refine zZ_sub [1, 2, 0] rfl ?_
          refine zZ_cast rfl (zLk (zLc (by simp only [lastF, hnl]; rw [if_neg (by omega)]) (zLc (by omega) rfl))) rfl (kke trivial)
        · refine z_iload_n C 2 rfl dX6_last_46 rfl ?_
          refine z_istore_n C [(1, .int (iI ((e : Int)))), (0, .ref 58), (2, .int (iI ((e : Int))))] dX6_last_47 rfl (by decide) rfl ?_
          obtain ⟨v3, ev3⟩ : ∃ y : Int, y = (e : Int) + 1 := ⟨_, rfl⟩
          refine z_iinc C 2 v3 [(2, .int (iI v3)), (1, .int (iI ((e : Int)))), (0, .ref 58)] dX6_last_48 rfl ev3.symm (by decide) rfl ?_
          refine z_goto C 4 dX6_last_51 (by decide) ?_
          refine zZ_sub [2, 1, 0] rfl ?_
          refine zZ_cast rfl (zLk (zLc (by simp only [lastF, hnl]; rw [if_pos (by omega)]) (zLc (by omega) rfl))) rfl (kke trivial)
  · intro hpe
    refine z_iload_n C 2 rfl dX6_last_4 rfl ?_
    refine z_aload_n C 0 rfl dX6_last_5 rfl ?_
    refine y_getI C zCl6 5 flX6_72 rfl rfl dX6_last_6 ?_
    refine z_icmp_ge C 54 dX6_last_9 (by decide) (by omega) (by omega) (fun h9 => ?_) (fun h9 => ?_)
    · refine z_iload_n C 1 rfl dX6_last_54 rfl ?_
      exact zZ_iret C hR (Nat.le_refl _) (Nat.le_refl _) dX6_last_55 rfl (zIs_I rfl rfl)
    · omega
set_option maxHeartbeats 4000000 in
set_option maxRecDepth 100000 in
theorem c_X6_nearest {g : zG} {I : Nat → Nat → Int} {J : Nat → Nat → Int64} {q : Nat × Nat}  (hgr : gR I) (hrs : gRS (spR I)) : zRun g mX6_nearest 2 [.ref 58] (zst I J q) (some (.int (iI ((nearF (I 62) (I 58 2) (I 58 3) (I 58 5).toNat).1)))) (zst I J q) := by
  obtain ⟨b1, b2, b3, b4, b5, b6, b7⟩ := id hgr
  obtain ⟨k1, k2, k3⟩ := id hrs
  have k1 : gC7 (I 58 3) := k1
  have k2 : 0 ≤ I 58 4 ∧ I 58 4 ≤ 4 := k2
  have k3 : ∀ e, e < 5 → gC7 (I 62 e) := k3
  have k1' := k1.1
  have b2' := b2.1
  obtain ⟨n, hn⟩ : ∃ n : Nat, I 58 5 = n := ⟨(I 58 5).toNat, by omega⟩
  have hn2 : (I 58 5).toNat = n := by omega
  rw [hn2]
  have hC := fun e (he : e < 5) => (k3 e he).1
  refine zRuns_intro rfl (Nat.le_of_ble_eq_true rfl) (fun X C hR => ?_)
  show zZ g X 0 0 _ 0 [(0, .ref 58)] []
  refine z_iconst C dX6_nearest_0 ?_
  refine z_istore_n C [(1, .int (iI ((-1)))), (0, .ref 58)] dX6_nearest_1 rfl (by decide) rfl ?_
  refine z_iconst C dX6_nearest_2 ?_
  refine z_istore_n C [(2, .int (iI 0)), (1, .int (iI ((-1)))), (0, .ref 58)] dX6_nearest_3 rfl (by decide) rfl ?_
  refine zZ_sub [2, 1, 0] rfl ?_
  refine zZ_cast (σ' := (fun _ : Nat => zst I J q) 0) (L' := (fun e : Nat => [(0, .ref 58), (1, .int (iI (nearF (I 62) (I 58 2) (I 58 3) e).1)), (2, .int (iI (e : Int)))]) 0) rfl rfl rfl ?_
  refine zfor (n) (fun _ => True) (fun _ : Nat => zst I J q) (fun e : Nat => [(0, .ref 58), (1, .int (iI (nearF (I 62) (I 58 2) (I 58 3) e).1)), (2, .int (iI (e : Int)))]) trivial ?_ ?_
  · intro e hee hpe kke
    have qe := hC e (by omega)
    have hst := stp_r (c := I 62 e) (d := I 58 3) (by omega) (by omega)
    have hli := nearF_i (C := I 62) (pen := I 58 2) (dog := I 58 3) e
    obtain ⟨nr, ls, hnl⟩ : ∃ nr ls, nearF (I 62) (I 58 2) (I 58 3) e = (nr, ls) := ⟨_, _, rfl⟩
    rw [hnl] at hli ⊢
    dsimp only at hli
    have hnr : -1 ≤ nr ∧ nr ≤ 5 := by omega
    refine z_iload_n C 2 rfl dX6_nearest_4 rfl ?_
    refine z_aload_n C 0 rfl dX6_nearest_5 rfl ?_
    refine y_getI C zCl6 5 flX6_72 rfl rfl dX6_nearest_6 ?_
    refine z_icmp_ge C 62 dX6_nearest_9 (by decide) (by omega) (by omega) (fun h9 => ?_) (fun h9 => ?_)
    · omega
    · refine z_aload_n C 0 rfl dX6_nearest_12 rfl ?_
      refine z_iload_n C 2 rfl dX6_nearest_13 rfl ?_
      refine y_callV1 C oX6_isIn iX6_isIn eX6_isIn lkX6_122 (c_X6_isIn hgr hrs (by first | assumption | omega)) rfl (by decide) rfl rfl (by decide) (Nat.le_refl _) (Nat.le_refl _) (Nat.le_of_ble_eq_true rfl) dX6_nearest_14 ?_
      refine y_if_neB C 56 dX6_nearest_17 (by decide) (fun h17 => ?_) (fun h17 => ?_)
      · obtain ⟨v1, ev1⟩ : ∃ y : Int, y = (e : Int) + 1 := ⟨_, rfl⟩
        refine z_iinc C 2 v1 [(2, .int (iI v1)), (0, .ref 58), (1, .int (iI nr))] dX6_nearest_56 rfl ev1.symm (by decide) rfl ?_
        refine z_goto C 4 dX6_nearest_59 (by decide) ?_
        refine zZ_sub [1, 2, 0] rfl ?_
        refine zZ_cast rfl (zLk (zLc (by simp only [nearF, hnl]; rw [if_neg (fun z => z.1 (by simpa using h17))]) (zLc (by omega) rfl))) rfl (kke trivial)
      · refine z_iload_n C 1 rfl dX6_nearest_20 rfl ?_
        refine z_iconst C dX6_nearest_21 ?_
        refine z_icmp_eq C 54 dX6_nearest_22 (by decide) (by omega) (by omega) (fun h22 => ?_) (fun h22 => ?_)
        · refine z_iload_n C 2 rfl dX6_nearest_54 rfl ?_
          refine z_istore_n C [(1, .int (iI ((e : Int)))), (0, .ref 58), (2, .int (iI ((e : Int))))] dX6_nearest_55 rfl (by decide) rfl ?_
          obtain ⟨v2, ev2⟩ : ∃ y : Int, y = (e : Int) + 1 := ⟨_, rfl⟩
          refine z_iinc C 2 v2 [(2, .int (iI v2)), (1, .int (iI ((e : Int)))), (0, .ref 58)] dX6_nearest_56 rfl ev2.symm (by decide) rfl ?_
          refine z_goto C 4 dX6_nearest_59 (by decide) ?_
          refine zZ_sub [2, 1, 0] rfl ?_
          refine zZ_cast rfl (zLk (zLc (by simp only [nearF, hnl]; rw [if_pos ⟨by simpa using h17, .inl (by omega)⟩]) (zLc (by omega) rfl))) rfl (kke trivial)
        · have hl2 : 0 ≤ nr ∧ nr < e ∧ ls = stp (I 62 nr.toNat) (I 58 3) := by rcases hli with h | h; exact absurd h h22; exact h
          have qn := hC nr.toNat (by omega)
          have hst2 := stp_r (c := I 62 nr.toNat) (d := I 58 3) (by omega) (by omega)
          refine z_aload_n C 0 rfl dX6_nearest_25 rfl ?_
          refine y_getR C zCl6 8 flX6_20 rfl rfl rfl dX6_nearest_26 ?_
          refine z_iload_n C 2 rfl dX6_nearest_29 rfl ?_
          refine y_iald C e (by omega) rfl (by omega) (by decide) dX6_nearest_30 ?_
          refine z_aload_n C 0 rfl dX6_nearest_31 rfl ?_
          refine y_getI C zCl6 3 flX6_61 rfl rfl dX6_nearest_32 ?_
          refine y_callS2 C oX6_steps sX6_steps lkX6_215 (c_X6_steps (by first | assumption | omega) (by first | assumption | omega)) (by decide) (Nat.le_refl _) (Nat.le_refl _) (Nat.le_of_ble_eq_true rfl) dX6_nearest_35 ?_
          refine z_aload_n C 0 rfl dX6_nearest_38 rfl ?_
          refine y_getR C zCl6 8 flX6_20 rfl rfl rfl dX6_nearest_39 ?_
          refine z_iload_n C 1 rfl dX6_nearest_42 rfl ?_
          refine y_iald C nr.toNat (by omega) rfl (by omega) (by decide) dX6_nearest_43 ?_
          refine z_aload_n C 0 rfl dX6_nearest_44 rfl ?_
          refine y_getI C zCl6 3 flX6_61 rfl rfl dX6_nearest_45 ?_
          refine y_callS2 C oX6_steps sX6_steps lkX6_215 (c_X6_steps (by first | assumption | omega) (by first | assumption | omega)) (by decide) (Nat.le_refl _) (Nat.le_refl _) (Nat.le_of_ble_eq_true rfl) dX6_nearest_48 ?_
          refine z_icmp_ge C 56 dX6_nearest_51 (by decide) (by omega) (by omega) (fun h51 => ?_) (fun h51 => ?_)
          · obtain ⟨v3, ev3⟩ : ∃ y : Int, y = (e : Int) + 1 := ⟨_, rfl⟩
            refine z_iinc C 2 v3 [(2, .int (iI v3)), (0, .ref 58), (1, .int (iI nr))] dX6_nearest_56 rfl ev3.symm (by decide) rfl ?_
            refine z_goto C 4 dX6_nearest_59 (by decide) ?_
            refine zZ_sub [1, 2, 0] rfl ?_
            refine zZ_cast rfl (zLk (zLc (by simp only [nearF, hnl]; rw [if_neg (fun z => by have := z.2; omega)]) (zLc (by omega) rfl))) rfl (kke trivial)
          · refine z_iload_n C 2 rfl dX6_nearest_54 rfl ?_
            refine z_istore_n C [(1, .int (iI ((e : Int)))), (0, .ref 58), (2, .int (iI ((e : Int))))] dX6_nearest_55 rfl (by decide) rfl ?_
            obtain ⟨v4, ev4⟩ : ∃ y : Int, y = (e : Int) + 1 := ⟨_, rfl⟩
            refine z_iinc C 2 v4 [(2, .int (iI v4)), (1, .int (iI ((e : Int)))), (0, .ref 58)] dX6_nearest_56 rfl ev4.symm (by decide) rfl ?_
            refine z_goto C 4 dX6_nearest_59 (by decide) ?_
            refine zZ_sub [2, 1, 0] rfl ?_
            refine zZ_cast rfl (zLk (zLc (by simp only [nearF, hnl]; rw [if_pos ⟨by simpa using h17, .inr (by omega)⟩]) (zLc (by omega) rfl))) rfl (kke trivial)
  · intro hpe
    refine z_iload_n C 2 rfl dX6_nearest_4 rfl ?_
    refine z_aload_n C 0 rfl dX6_nearest_5 rfl ?_
    refine y_getI C zCl6 5 flX6_72 rfl rfl dX6_nearest_6 ?_
    refine z_icmp_ge C 62 dX6_nearest_9 (by decide) (by omega) (by omega) (fun h9 => ?_) (fun h9 => ?_)
    · refine z_iload_n C 1 rfl dX6_nearest_62 rfl ?_
      exact zZ_iret C hR (Nat.le_refl _) (Nat.le_refl _) dX6_nearest_63 rfl (zIs_I rfl rfl)
    · omega
