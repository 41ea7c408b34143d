set_option maxHeartbeats 4000000 in
set_option maxRecDepth 100000 in
theorem c_X0_takeTurn {g : zG} {I : Nat → Nat → Int} {J : Nat → Nat → Int64} {q : Nat × Nat} {h s : Nat} {c : Int} (hh : isH h) (iss : isS s) (hg : gH I h) (hs : gS I s) (hc : 0 ≤ c ∧ c ≤ 4) : zRun g mX0_takeTurn 5 [.ref h, .ref s, .int (iI c)] (zst I J q) (none) (zst (zSp I s (dogN (hv I J h) (I s 0) c) c (goneC (hv I J h) (I s 0) c (I (s + 1)))) J q) := by
  obtain ⟨g1, g2, g3, g4, g5, g6⟩ := id hg
  obtain ⟨k1, k2, k3⟩ := id hs
  obtain ⟨n, hn⟩ : ∃ n : Nat, I h 6 = n := ⟨(I h 6).toNat, by omega⟩
  have hn2 : (I h 6).toNat = n := by omega
  have hsh := shN_r c.toNat
  have hDr := dogN_r (J := J) (c := c) hg k1
  unfold goneC
  obtain ⟨D, hD⟩ : ∃ D, D = dogN (hv I J h) (I s 0) c := ⟨_, rfl⟩
  rw [← hD] at hDr ⊢
  rw [show (hv I J h).2.2.2.1.toNat = n from hn2]
  have hTr := turnC_r (J := J) (dog := D) hg k3
  refine zRuns_intro rfl (Nat.le_of_ble_eq_true rfl) (fun X C hR => ?_)
  show zZ g X 0 0 _ 0 [(0, .ref h), (1, .ref s), (2, .int (iI c))] []
  refine z_aload_n C 0 rfl dX0_takeTurn_0 rfl ?_
  refine z_aload_n C 1 rfl dX0_takeTurn_1 rfl ?_
  refine y_getI C zCl3 0 flX0_71 rfl (lay_s iss) dX0_takeTurn_2 ?_
  refine z_iload_n C 2 rfl dX0_takeTurn_5 rfl ?_
  refine y_callV2 C oX0_canDo iX0_canDo eX0_canDo lkX0_97 (c_X0_canDo hh hg (by first | assumption | omega) (by first | assumption | omega)) (lay_h hh) (by decide) rfl rfl (by decide) (Nat.le_refl _) (Nat.le_refl _) (Nat.le_of_ble_eq_true rfl) dX0_takeTurn_6 ?_
  refine y_if_eqB C 26 dX0_takeTurn_9 (by decide) (fun h9 => ?_) (fun h9 => ?_)
  · refine z_aload_n C 1 rfl dX0_takeTurn_26 rfl ?_
    refine z_iload_n C 2 rfl dX0_takeTurn_27 rfl ?_
    refine y_putI C zCl3 1 flX0_101 rfl rfl rfl (lay_s iss) dX0_takeTurn_28 ?_
    refine z_iconst C dX0_takeTurn_31 ?_
    refine z_istore_n C [(3, .int (iI 0)), (0, .ref h), (1, .ref s), (2, .int (iI c))] dX0_takeTurn_32 rfl (by decide) rfl ?_
    have hD2 : D = I s 0 := by rw [hD]; simp [dogN, hv, h9]
    refine zZ_sub [1, 2, 3, 0] rfl ?_
    refine zZ_cast (σ' := (fun e : Nat => zst (zSp I s D c (turnC (hv I J h) D (I (s + 1)) e)) J q) 0) (L' := (fun e : Nat => [(0, .ref h), (1, .ref s), (2, .int (iI c)), (3, .int (iI (e : Int)))]) 0) (by rw [zSp_put1]; simp only [turnC, ← hD2]) rfl rfl ?_
    refine zfor (n) (fun _ => True) (fun e : Nat => zst (zSp I s D c (turnC (hv I J h) D (I (s + 1)) e)) J q) (fun e : Nat => [(0, .ref h), (1, .ref s), (2, .int (iI c)), (3, .int (iI (e : Int)))]) trivial ?_ ?_
    · intro e hee hpe kke
      have hc6 : zSp I s D c (turnC (hv I J h) D (I (s + 1)) e) h 6 = I h 6 := by rw [zSp_n (sep hh iss).1.symm (sep hh iss).2.2.2.1.symm]
      have hk1 : zSp I s D c (turnC (hv I J h) D (I (s + 1)) e) (h + 1) e = I (h + 1) e := by rw [zSp_n (sep hh iss).2.1.symm (sep hh iss).2.2.2.2.1.symm]
      have q5 := g5 e (by omega)
      have hgs := gS_sp (I := I) (s := s) (di := c) hDr hc (hTr e (by omega))
      have hkd : 0 ≤ I (h + 1) e ∧ I (h + 1) e ≤ 5 := q5
      refine z_iload_n C 3 rfl dX0_takeTurn_33 rfl ?_
      refine z_aload_n C 0 rfl dX0_takeTurn_34 rfl ?_
      refine y_getI C zCl0 6 flX0_31 rfl (lay_h hh) dX0_takeTurn_35 ?_
      rw [hc6]
      refine z_icmp_ge C 65 dX0_takeTurn_38 (by decide) (by omega) (by omega) (fun h38 => ?_) (fun h38 => ?_)
      · omega
      · refine z_aload_n C 1 rfl dX0_takeTurn_41 rfl ?_
        refine y_getR C zCl3 2 flX0_77 rfl (lay_s iss) (rt_s iss) dX0_takeTurn_42 ?_
        refine z_iload_n C 3 rfl dX0_takeTurn_45 rfl ?_
        refine z_aload_n C 0 rfl dX0_takeTurn_46 rfl ?_
        refine z_aload_n C 1 rfl dX0_takeTurn_47 rfl ?_
        refine z_iload_n C 3 rfl dX0_takeTurn_48 rfl ?_
        refine z_aload_n C 0 rfl dX0_takeTurn_49 rfl ?_
        refine y_getR C zCl0 7 flX0_34 rfl (lay_h hh) (rt_h7 hh) dX0_takeTurn_50 ?_
        refine z_iload_n C 3 rfl dX0_takeTurn_53 rfl ?_
        refine y_iald C e (by omega) (lay_h1 hh) (by omega) (by decide) dX0_takeTurn_54 ?_
        rw [hk1]
        refine y_callV3 C oX0_goalOf iX0_goalOf eX0_goalOf lkX0_104 (c_X0_goalOf hh iss (gH_sp hh iss hg) hgs (by first | assumption | omega) hkd) (lay_h hh) (by decide) rfl rfl (by decide) (Nat.le_refl _) (Nat.le_refl _) (Nat.le_of_ble_eq_true rfl) dX0_takeTurn_55 ?_
        rw [hv_sp hh iss, zSp_0, zSp_c]
        refine y_iast C e (by omega) (lay_s1 iss) (by omega) (by decide) dX0_takeTurn_58 ?_
        obtain ⟨v1, ev1⟩ : ∃ y : Int, y = (e : Int) + 1 := ⟨_, rfl⟩
        refine z_iinc C 3 v1 [(3, .int (iI v1)), (0, .ref h), (1, .ref s), (2, .int (iI c))] dX0_takeTurn_59 rfl ev1.symm (by decide) rfl ?_
        refine z_goto C 33 dX0_takeTurn_62 (by decide) ?_
        refine zZ_sub [1, 2, 3, 0] rfl ?_
        refine zZ_cast (by rw [zSp_putc]; rfl) (zLk (zLk (zLk (zLc (by omega) rfl)))) rfl (kke trivial)
    · intro hpe
      have hc6 : zSp I s D c (turnC (hv I J h) D (I (s + 1)) n) h 6 = I h 6 := by rw [zSp_n (sep hh iss).1.symm (sep hh iss).2.2.2.1.symm]
      refine z_iload_n C 3 rfl dX0_takeTurn_33 rfl ?_
      refine z_aload_n C 0 rfl dX0_takeTurn_34 rfl ?_
      refine y_getI C zCl0 6 flX0_31 rfl (lay_h hh) dX0_takeTurn_35 ?_
      rw [hc6]
      refine z_icmp_ge C 65 dX0_takeTurn_38 (by decide) (by omega) (by omega) (fun h38 => ?_) (fun h38 => ?_)
      · exact zZ_vret C hR (Nat.le_refl _) (Nat.le_refl _) dX0_takeTurn_65 rfl (zIs_V rfl)
      · omega
  · refine z_aload_n C 1 rfl dX0_takeTurn_12 rfl ?_
    refine z_dup C dX0_takeTurn_13 rfl ?_
    refine y_getI C zCl3 0 flX0_71 rfl (lay_s iss) dX0_takeTurn_14 ?_
    refine z_getsN C (k := 0) rfl (List.mem_of_getElem? (i := 3) rfl) rfl dX0_takeTurn_17 ?_
    refine z_iload_n C 2 rfl dX0_takeTurn_20 rfl ?_
    refine z_ialdS C (k := 0) rfl c.toNat (by omega) (show _ < 5 by omega) (by decide) dX0_takeTurn_21 ?_
    show zZ g X 0 0 (zst I J q) _ _ (.int (iI (shN c.toNat)) :: _)
    refine z_iadd C dX0_takeTurn_22 ?_
    refine y_putI C zCl3 0 flX0_71 rfl rfl rfl (lay_s iss) dX0_takeTurn_23 ?_
    refine z_aload_n C 1 rfl dX0_takeTurn_26 rfl ?_
    refine z_iload_n C 2 rfl dX0_takeTurn_27 rfl ?_
    refine y_putI C zCl3 1 flX0_101 rfl rfl rfl (lay_s iss) dX0_takeTurn_28 ?_
    refine z_iconst C dX0_takeTurn_31 ?_
    refine z_istore_n C [(3, .int (iI 0)), (0, .ref h), (1, .ref s), (2, .int (iI c))] dX0_takeTurn_32 rfl (by decide) rfl ?_
    have hD2 : D = I s 0 + shN c.toNat := by rw [hD]; simp [dogN, hv, h9]
    refine zZ_sub [1, 2, 3, 0] rfl ?_
    refine zZ_cast (σ' := (fun e : Nat => zst (zSp I s D c (turnC (hv I J h) D (I (s + 1)) e)) J q) 0) (L' := (fun e : Nat => [(0, .ref h), (1, .ref s), (2, .int (iI c)), (3, .int (iI (e : Int)))]) 0) (by rw [zSp_put0, zSp_put1]; simp only [zSp_0, zSp_1, zSp_c, zSp_zSp, turnC, ← hD2]) rfl rfl ?_
    refine zfor (n) (fun _ => True) (fun e : Nat => zst (zSp I s D c (turnC (hv I J h) D (I (s + 1)) e)) J q) (fun e : Nat => [(0, .ref h), (1, .ref s), (2, .int (iI c)), (3, .int (iI (e : Int)))]) trivial ?_ ?_
    · intro e hee hpe kke
      have hc6 : zSp I s D c (turnC (hv I J h) D (I (s + 1)) e) h 6 = I h 6 := by rw [zSp_n (sep hh iss).1.symm (sep hh iss).2.2.2.1.symm]
      have hk1 : zSp I s D c (turnC (hv I J h) D (I (s + 1)) e) (h + 1) e = I (h + 1) e := by rw [zSp_n (sep hh iss).2.1.symm (sep hh iss).2.2.2.2.1.symm]
      have q5 := g5 e (by omega)
      have hgs := gS_sp (I := I) (s := s) (di := c) hDr hc (hTr e (by omega))
      have hkd : 0 ≤ I (h + 1) e ∧ I (h + 1) e ≤ 5 := q5
      refine z_iload_n C 3 rfl dX0_takeTurn_33 rfl ?_
      refine z_aload_n C 0 rfl dX0_takeTurn_34 rfl ?_
      refine y_getI C zCl0 6 flX0_31 rfl (lay_h hh) dX0_takeTurn_35 ?_
      rw [hc6]
      refine z_icmp_ge C 65 dX0_takeTurn_38 (by decide) (by omega) (by omega) (fun h38 => ?_) (fun h38 => ?_)
      · omega
      · refine z_aload_n C 1 rfl dX0_takeTurn_41 rfl ?_
        refine y_getR C zCl3 2 flX0_77 rfl (lay_s iss) (rt_s iss) dX0_takeTurn_42 ?_
        refine z_iload_n C 3 rfl dX0_takeTurn_45 rfl ?_
        refine z_aload_n C 0 rfl dX0_takeTurn_46 rfl ?_
        refine z_aload_n C 1 rfl dX0_takeTurn_47 rfl ?_
        refine z_iload_n C 3 rfl dX0_takeTurn_48 rfl ?_
        refine z_aload_n C 0 rfl dX0_takeTurn_49 rfl ?_
        refine y_getR C zCl0 7 flX0_34 rfl (lay_h hh) (rt_h7 hh) dX0_takeTurn_50 ?_
        refine z_iload_n C 3 rfl dX0_takeTurn_53 rfl ?_
        refine y_iald C e (by omega) (lay_h1 hh) (by omega) (by decide) dX0_takeTurn_54 ?_
        rw [hk1]
        refine y_callV3 C oX0_goalOf iX0_goalOf eX0_goalOf lkX0_104 (c_X0_goalOf hh iss (gH_sp hh iss hg) hgs (by first | assumption | omega) hkd) (lay_h hh) (by decide) rfl rfl (by decide) (Nat.le_refl _) (Nat.le_refl _) (Nat.le_of_ble_eq_true rfl) dX0_takeTurn_55 ?_
        rw [hv_sp hh iss, zSp_0, zSp_c]
        refine y_iast C e (by omega) (lay_s1 iss) (by omega) (by decide) dX0_takeTurn_58 ?_
        obtain ⟨v2, ev2⟩ : ∃ y : Int, y = (e : Int) + 1 := ⟨_, rfl⟩
        refine z_iinc C 3 v2 [(3, .int (iI v2)), (0, .ref h), (1, .ref s), (2, .int (iI c))] dX0_takeTurn_59 rfl ev2.symm (by decide) rfl ?_
        refine z_goto C 33 dX0_takeTurn_62 (by decide) ?_
        refine zZ_sub [1, 2, 3, 0] rfl ?_
        refine zZ_cast (by rw [zSp_putc]; rfl) (zLk (zLk (zLk (zLc (by omega) rfl)))) rfl (kke trivial)
    · intro hpe
      have hc6 : zSp I s D c (turnC (hv I J h) D (I (s + 1)) n) h 6 = I h 6 := by rw [zSp_n (sep hh iss).1.symm (sep hh iss).2.2.2.1.symm]
      refine z_iload_n C 3 rfl dX0_takeTurn_33 rfl ?_
      refine z_aload_n C 0 rfl dX0_takeTurn_34 rfl ?_
      refine y_getI C zCl0 6 flX0_31 rfl (lay_h hh) dX0_takeTurn_35 ?_
      rw [hc6]
      refine z_icmp_ge C 65 dX0_takeTurn_38 (by decide) (by omega) (by omega) (fun h38 => ?_) (fun h38 => ?_)
      · exact zZ_vret C hR (Nat.le_refl _) (Nat.le_refl _) dX0_takeTurn_65 rfl (zIs_V rfl)
      · omega
set_option maxHeartbeats 4000000 in
set_option maxRecDepth 100000 in
theorem c_X0_mayBeWall {g : zG} {I : Nat → Nat → Int} {J : Nat → Nat → Int64} {q : Nat × Nat} {h : Nat} {c : Int} (hh : isH h) (hg : gH I h) (hs : gS I (h + 3)) (hc : -2147483648 ≤ c ∧ c ≤ 2147483647) : zRun g mX0_mayBeWall 1 [.ref h, .int (iI c)] (zst I J q) (some (.int (iI (bI (mayWN I h c))))) (zst I J q) := by
  obtain ⟨g1, g2, g3, g4, g5, g6⟩ := id hg
  obtain ⟨k1, k2, k3⟩ := id hs
  refine zRuns_intro rfl (Nat.le_of_ble_eq_true rfl) (fun X C hR => ?_)
  show zZ g X 0 0 _ 0 [(0, .ref h), (1, .int (iI c))] []
  refine z_aload_n C 0 rfl dX0_mayBeWall_0 rfl ?_
  refine z_iload_n C 1 rfl dX0_mayBeWall_1 rfl ?_
  refine y_callV1 C oX0_isCell iX0_isCell eX0_isCell lkX0_64 (c_X0_isCell hh hg (by first | assumption | omega)) (lay_h hh) (by decide) rfl rfl (by decide) (Nat.le_refl _) (Nat.le_refl _) (Nat.le_of_ble_eq_true rfl) dX0_mayBeWall_2 ?_
  refine y_if_eqB C 39 dX0_mayBeWall_5 (by decide) (fun h5 => ?_) (fun h5 => ?_)
  · refine z_iconst C dX0_mayBeWall_39 ?_
    exact zZ_zret C hR (Nat.le_refl _) (Nat.le_refl _) dX0_mayBeWall_40 rfl (Or.inl rfl) (zIs_I (by simp [bI, mayWN, *]) rfl)
  · refine z_iload_n C 1 rfl dX0_mayBeWall_8 rfl ?_
    refine z_aload_n C 0 rfl dX0_mayBeWall_9 rfl ?_
    refine y_getI C zCl0 1 flX0_15 rfl (lay_h hh) dX0_mayBeWall_10 ?_
    refine z_icmp_eq C 39 dX0_mayBeWall_13 (by decide) (by omega) (by omega) (fun h13 => ?_) (fun h13 => ?_)
    · refine z_iconst C dX0_mayBeWall_39 ?_
      exact zZ_zret C hR (Nat.le_refl _) (Nat.le_refl _) dX0_mayBeWall_40 rfl (Or.inl rfl) (zIs_I (by simp [bI, mayWN, *]) rfl)
    · refine z_iload_n C 1 rfl dX0_mayBeWall_16 rfl ?_
      refine z_aload_n C 0 rfl dX0_mayBeWall_17 rfl ?_
      refine y_getR C zCl0 9 flX0_44 rfl (lay_h hh) (rt_h9 hh) dX0_mayBeWall_18 ?_
      refine y_getI C zCl3 0 flX0_71 rfl (lay_h3 hh) dX0_mayBeWall_21 ?_
      refine z_icmp_eq C 39 dX0_mayBeWall_24 (by decide) (by omega) (by omega) (fun h24 => ?_) (fun h24 => ?_)
      · refine z_iconst C dX0_mayBeWall_39 ?_
        exact zZ_zret C hR (Nat.le_refl _) (Nat.le_refl _) dX0_mayBeWall_40 rfl (Or.inl rfl) (zIs_I (by simp [bI, mayWN, *]) rfl)
      · refine z_aload_n C 0 rfl dX0_mayBeWall_27 rfl ?_
        refine z_iload_n C 1 rfl dX0_mayBeWall_28 rfl ?_
        refine y_callV1 C oX0_hasEweAt iX0_hasEweAt eX0_hasEweAt lkX0_74 (c_X0_hasEweAt hh hg hs hc) (lay_h hh) (by decide) rfl rfl (by decide) (Nat.le_refl _) (Nat.le_refl _) (Nat.le_of_ble_eq_true rfl) dX0_mayBeWall_29 ?_
        refine y_if_neB C 39 dX0_mayBeWall_32 (by decide) (fun h32 => ?_) (fun h32 => ?_)
        · refine z_iconst C dX0_mayBeWall_39 ?_
          exact zZ_zret C hR (Nat.le_refl _) (Nat.le_refl _) dX0_mayBeWall_40 rfl (Or.inl rfl) (zIs_I (by simp [bI, mayWN, *]) rfl)
        · refine z_iconst C dX0_mayBeWall_35 ?_
          refine z_goto C 40 dX0_mayBeWall_36 (by decide) ?_
          exact zZ_zret C hR (Nat.le_refl _) (Nat.le_refl _) dX0_mayBeWall_40 rfl (Or.inr rfl) (zIs_I (by simp [bI, mayWN, *]) rfl)
set_option maxHeartbeats 4000000 in
set_option maxRecDepth 100000 in
theorem c_X0_mayBePen {g : zG} {I : Nat → Nat → Int} {J : Nat → Nat → Int64} {q : Nat × Nat} {h : Nat} {c : Int} (hh : isH h) (hg : gH I h) (hs : gS I (h + 3)) (hc : -100 ≤ c ∧ c ≤ 99) : zRun g mX0_mayBePen 2 [.ref h, .int (iI c)] (zst I J q) (some (.int (iI (bI (mayPN I (J h 5) h c))))) (zst I J q) := by
  obtain ⟨g1, g2, g3, g4, g5, g6⟩ := id hg
  obtain ⟨k1, k2, k3⟩ := id hs
  refine zRuns_intro rfl (Nat.le_of_ble_eq_true rfl) (fun X C hR => ?_)
  show zZ g X 0 0 _ 0 [(0, .ref h), (1, .int (iI c))] []
  refine z_aload_n C 0 rfl dX0_mayBePen_0 rfl ?_
  refine z_iload_n C 1 rfl dX0_mayBePen_1 rfl ?_
  refine y_callV1 C oX0_isOpen iX0_isOpen eX0_isOpen lkX0_68 (c_X0_isOpen hh hg (by first | assumption | omega)) (lay_h hh) (by decide) rfl rfl (by decide) (Nat.le_refl _) (Nat.le_refl _) (Nat.le_of_ble_eq_true rfl) dX0_mayBePen_2 ?_
  refine y_if_eqB C 42 dX0_mayBePen_5 (by decide) (fun h5 => ?_) (fun h5 => ?_)
  · refine z_iconst C dX0_mayBePen_42 ?_
    exact zZ_zret C hR (Nat.le_refl _) (Nat.le_refl _) dX0_mayBePen_43 rfl (Or.inl rfl) (zIs_I (by simp [bI, mayPN, *]) rfl)
  · refine z_iload_n C 1 rfl dX0_mayBePen_8 rfl ?_
    refine z_aload_n C 0 rfl dX0_mayBePen_9 rfl ?_
    refine y_getR C zCl0 9 flX0_44 rfl (lay_h hh) (rt_h9 hh) dX0_mayBePen_10 ?_
    refine y_getI C zCl3 0 flX0_71 rfl (lay_h3 hh) dX0_mayBePen_13 ?_
    refine z_icmp_eq C 42 dX0_mayBePen_16 (by decide) (by omega) (by omega) (fun h16 => ?_) (fun h16 => ?_)
    · refine z_iconst C dX0_mayBePen_42 ?_
      exact zZ_zret C hR (Nat.le_refl _) (Nat.le_refl _) dX0_mayBePen_43 rfl (Or.inl rfl) (zIs_I (by simp [bI, mayPN, *]) rfl)
    · refine z_aload_n C 0 rfl dX0_mayBePen_19 rfl ?_
      refine z_iload_n C 1 rfl dX0_mayBePen_20 rfl ?_
      refine y_callV1 C oX0_hasEweAt iX0_hasEweAt eX0_hasEweAt lkX0_74 (c_X0_hasEweAt hh hg hs (by first | assumption | omega)) (lay_h hh) (by decide) rfl rfl (by decide) (Nat.le_refl _) (Nat.le_refl _) (Nat.le_of_ble_eq_true rfl) dX0_mayBePen_21 ?_
      refine y_if_neB C 42 dX0_mayBePen_24 (by decide) (fun h24 => ?_) (fun h24 => ?_)
      · refine z_iconst C dX0_mayBePen_42 ?_
        exact zZ_zret C hR (Nat.le_refl _) (Nat.le_refl _) dX0_mayBePen_43 rfl (Or.inl rfl) (zIs_I (by simp [bI, mayPN, *]) rfl)
      · refine z_aload_n C 0 rfl dX0_mayBePen_27 rfl ?_
        refine z_aload_n C 0 rfl dX0_mayBePen_28 rfl ?_
        refine y_getI C zCl0 1 flX0_15 rfl (lay_h hh) dX0_mayBePen_29 ?_
        refine y_callV1 C oX0_hasEweAt iX0_hasEweAt eX0_hasEweAt lkX0_74 (c_X0_hasEweAt hh hg hs (by first | assumption | omega)) (lay_h hh) (by decide) rfl rfl (by decide) (Nat.le_refl _) (Nat.le_refl _) (Nat.le_of_ble_eq_true rfl) dX0_mayBePen_32 ?_
        refine y_if_neB C 42 dX0_mayBePen_35 (by decide) (fun h35 => ?_) (fun h35 => ?_)
        · refine z_iconst C dX0_mayBePen_42 ?_
          exact zZ_zret C hR (Nat.le_refl _) (Nat.le_refl _) dX0_mayBePen_43 rfl (Or.inl rfl) (zIs_I (by simp [bI, mayPN, *]) rfl)
        · refine z_iconst C dX0_mayBePen_38 ?_
          refine z_goto C 43 dX0_mayBePen_39 (by decide) ?_
          exact zZ_zret C hR (Nat.le_refl _) (Nat.le_refl _) dX0_mayBePen_43 rfl (Or.inr rfl) (zIs_I (by simp [bI, mayPN, *]) rfl)
set_option maxHeartbeats 4000000 in
set_option maxRecDepth 100000 in
theorem c_X0_setWall {g : zG} {I : Nat → Nat → Int} {J : Nat → Nat → Int64} {q : Nat × Nat} {h : Nat} {c : Int} {b : Bool} (hh : isH h) (hc : 0 ≤ c ∧ c ≤ 99) : zRun g mX0_setWall 1 [.ref h, .int (iI c), .int (iI (bI b))] (zst I J q) (none) (zst I (zu J h 5 (if b then J h 5 ||| bitL c else J h 5 &&& (bitL c ^^^ (-1)))) q) := by
  refine zRuns_intro rfl (Nat.le_of_ble_eq_true rfl) (fun X C hR => ?_)
  show zZ g X 0 0 _ 0 [(0, .ref h), (1, .int (iI c)), (2, .int (iI (bI b)))] []
  refine z_aload_n C 0 rfl dX0_setWall_0 rfl ?_
  refine z_iload_n C 2 rfl dX0_setWall_1 rfl ?_
  refine y_if_eqB C 17 dX0_setWall_2 (by decide) (fun h2 => ?_) (fun h2 => ?_)
  · refine z_aload_n C 0 rfl dX0_setWall_17 rfl ?_
    refine y_getJ C zCl0 5 flX0_27 rfl (lay_h hh) dX0_setWall_18 ?_
    refine z_iload_n C 1 rfl dX0_setWall_21 rfl ?_
    refine y_callN1 C (host := RX5) oX5_bitOf sX5_bitOf (List.mem_of_getElem? (i := 6) rfl) (c_X5_bitOf (by first | assumption | omega)) (by decide) (Nat.le_refl _) (Nat.le_refl _) (Nat.le_of_ble_eq_true rfl) dX0_setWall_22 ?_
    refine z_ldc2 C (-1) dX0_setWall_25 kcX0_62 ?_
    refine z_lxor C dX0_setWall_28 ?_
    refine z_land C dX0_setWall_29 ?_
    refine y_putJ C zCl0 5 flX0_27 rfl rfl rfl (lay_h hh) dX0_setWall_30 ?_
    exact zZ_vret C hR (Nat.le_refl _) (Nat.le_refl _) dX0_setWall_33 rfl (zIs_V (by rw [h2]; rfl))
  · refine z_aload_n C 0 rfl dX0_setWall_5 rfl ?_
    refine y_getJ C zCl0 5 flX0_27 rfl (lay_h hh) dX0_setWall_6 ?_
    refine z_iload_n C 1 rfl dX0_setWall_9 rfl ?_
    refine y_callN1 C (host := RX5) oX5_bitOf sX5_bitOf (List.mem_of_getElem? (i := 6) rfl) (c_X5_bitOf (by first | assumption | omega)) (by decide) (Nat.le_refl _) (Nat.le_refl _) (Nat.le_of_ble_eq_true rfl) dX0_setWall_10 ?_
    refine z_lor C dX0_setWall_13 ?_
    refine z_goto C 30 dX0_setWall_14 (by decide) ?_
    refine y_putJ C zCl0 5 flX0_27 rfl rfl rfl (lay_h hh) dX0_setWall_30 ?_
    exact zZ_vret C hR (Nat.le_refl _) (Nat.le_refl _) dX0_setWall_33 rfl (zIs_V (by rw [h2]; rfl))
set_option maxHeartbeats 4000000 in
set_option maxRecDepth 100000 in
theorem c_X0_addEwe {g : zG} {I : Nat → Nat → Int} {J : Nat → Nat → Int64} {q : Nat × Nat} {h : Nat} {kd a c : Int} (hh : isH h) (hn6 : 0 ≤ I h 6 ∧ I h 6 < 5) : zRun g mX0_addEwe 0 [.ref h, .int (iI kd), .int (iI a), .int (iI c)] (zst I J q) (some (.int (iI (I h 6)))) (zst (zu (zu (zu (zu I (h + 1) (I h 6).toNat kd) (h + 2) (I h 6).toNat a) (h + 3 + 1) (I h 6).toNat c) h 6 (I h 6 + 1)) J q) := by
  refine zRuns_intro rfl (Nat.le_of_ble_eq_true rfl) (fun X C hR => ?_)
  show zZ g X 0 0 _ 0 [(0, .ref h), (1, .int (iI kd)), (2, .int (iI a)), (3, .int (iI c))] []
  refine z_aload_n C 0 rfl dX0_addEwe_0 rfl ?_
  refine y_getI C zCl0 6 flX0_31 rfl (lay_h hh) dX0_addEwe_1 ?_
  refine z_topI C (fun w ew => ?_)
  refine z_istore C [(4, .int (iI w)), (0, .ref h), (1, .int (iI kd)), (2, .int (iI a)), (3, .int (iI c))] dX0_addEwe_4 (by decide) rfl ?_
  refine z_aload_n C 1 rfl dX0_addEwe_6 rfl ?_
  refine y_getR C zCl0 7 flX0_34 rfl (lay_h hh) (rt_h7 hh) dX0_addEwe_7 ?_
  refine z_iload C 0 rfl dX0_addEwe_10 ?_
  refine z_iload_n C 2 rfl dX0_addEwe_12 rfl ?_
  refine y_iast C (I h 6).toNat (by omega) (lay_h1 hh) (by omega) (by decide) dX0_addEwe_13 ?_
  refine z_aload_n C 1 rfl dX0_addEwe_14 rfl ?_
  refine y_getR C zCl0 8 flX0_38 rfl (lay_h hh) (rt_h8 hh) dX0_addEwe_15 ?_
  refine z_iload C 0 rfl dX0_addEwe_18 ?_
  refine z_iload_n C 3 rfl dX0_addEwe_20 rfl ?_
  refine y_iast C (I h 6).toNat (by omega) (lay_h2 hh) (by omega) (by decide) dX0_addEwe_21 ?_
  refine z_aload_n C 1 rfl dX0_addEwe_22 rfl ?_
  refine y_getR C zCl0 9 flX0_44 rfl (lay_h hh) (rt_h9 hh) dX0_addEwe_23 ?_
  refine y_getR C zCl3 2 flX0_77 rfl (lay_h3 hh) (rt_s (isS_h hh)) dX0_addEwe_26 ?_
  refine z_iload C 0 rfl dX0_addEwe_29 ?_
  refine z_iload_n C 4 rfl dX0_addEwe_31 rfl ?_
  refine y_iast C (I h 6).toNat (by omega) (lay_s1 (isS_h hh)) (by omega) (by decide) dX0_addEwe_32 ?_
  refine z_aload_n C 1 rfl dX0_addEwe_33 rfl ?_
  refine z_dup C dX0_addEwe_34 rfl ?_
  refine y_getI C zCl0 6 flX0_31 rfl (lay_h hh) dX0_addEwe_35 ?_
  rw [show zu (zu (zu I (h + 1) (I h 6).toNat kd) (h + 2) (I h 6).toNat a) (h + 3 + 1) (I h 6).toNat c h 6 = I h 6 by simp [zu]; omega]
  refine z_iconst C dX0_addEwe_38 ?_
  refine z_iadd C dX0_addEwe_39 ?_
  refine y_putI C zCl0 6 flX0_31 rfl rfl rfl (lay_h hh) dX0_addEwe_40 ?_
  refine z_iload C 0 rfl dX0_addEwe_43 ?_
  exact zZ_iret C hR (Nat.le_refl _) (Nat.le_refl _) dX0_addEwe_45 rfl (zIs_I ew rfl)
set_option maxHeartbeats 4000000 in
set_option maxRecDepth 100000 in
theorem c_X0_notIn {g : zG} {I : Nat → Nat → Int} {J : Nat → Nat → Int64} {q : Nat × Nat} {h : Nat} (hh : isH h) (hg : gH I h) (hs : gS I (h + 3)) : zRun g mX0_notIn 1 [.ref h] (zst I J q) (some (.int (iI ((bitsN (fun e => !decide (I (h + 3 + 1) e = I h 1)) (I h 6).toNat : Nat))))) (zst I J q) := by
  obtain ⟨g1, g2, g3, g4, g5, g6⟩ := id hg
  obtain ⟨k1, k2, k3⟩ := id hs
  obtain ⟨n, hn⟩ : ∃ n : Nat, I h 6 = n := ⟨(I h 6).toNat, by omega⟩
  have hn2 : (I h 6).toNat = n := by omega
  obtain ⟨P, hP⟩ : ∃ P, P = fun e => !decide (I (h + 3 + 1) e = I h 1) := ⟨_, rfl⟩
  rw [← hP]
  refine zRuns_intro rfl (Nat.le_of_ble_eq_true rfl) (fun X C hR => ?_)
  show zZ g X 0 0 _ 0 [(0, .ref h)] []
  refine z_iconst C dX0_notIn_0 ?_
  refine z_istore_n C [(1, .int (iI 0)), (0, .ref h)] dX0_notIn_1 rfl (by decide) rfl ?_
  refine z_iconst C dX0_notIn_2 ?_
  refine z_istore_n C [(2, .int (iI 0)), (1, .int (iI 0)), (0, .ref h)] dX0_notIn_3 rfl (by decide) rfl ?_
  refine zZ_sub [2, 1, 0] rfl ?_
  refine zZ_cast (σ' := (fun _ : Nat => zst I J q) 0) (L' := (fun e : Nat => [(0, .ref h), (1, .int (iI (bitsN P e : Nat))), (2, .int (iI (e : Int)))]) 0) rfl rfl rfl ?_
  refine zfor (n) (fun _ => True) (fun _ : Nat => zst I J q) (fun e : Nat => [(0, .ref h), (1, .int (iI (bitsN P e : Nat))), (2, .int (iI (e : Int)))]) trivial ?_ ?_
  · intro e hee hpe kke
    refine z_iload_n C 2 rfl dX0_notIn_4 rfl ?_
    refine z_aload_n C 0 rfl dX0_notIn_5 rfl ?_
    refine y_getI C zCl0 6 flX0_31 rfl (lay_h hh) dX0_notIn_6 ?_
    refine z_icmp_ge C 36 dX0_notIn_9 (by decide) (by omega) (by omega) (fun h9 => ?_) (fun h9 => ?_)
    · omega
    · refine z_aload_n C 0 rfl dX0_notIn_12 rfl ?_
      refine z_aload_n C 0 rfl dX0_notIn_13 rfl ?_
      refine y_getR C zCl0 9 flX0_44 rfl (lay_h hh) (rt_h9 hh) dX0_notIn_14 ?_
      refine z_iload_n C 2 rfl dX0_notIn_17 rfl ?_
      refine y_callV2 C oX0_isIn iX0_isIn eX0_isIn lkX0_125 (c_X0_isIn hh (isS_h hh) hg hs (by first | assumption | omega)) (lay_h hh) (by decide) rfl rfl (by decide) (Nat.le_refl _) (Nat.le_refl _) (Nat.le_of_ble_eq_true rfl) dX0_notIn_18 ?_
      refine y_if_neB C 30 dX0_notIn_21 (by decide) (fun h21 => ?_) (fun h21 => ?_)
      · obtain ⟨v1, ev1⟩ : ∃ y : Int, y = (e : Int) + 1 := ⟨_, rfl⟩
        refine z_iinc C 2 v1 [(2, .int (iI v1)), (0, .ref h), (1, .int (iI ((bitsN P e : Nat))))] dX0_notIn_30 rfl ev1.symm (by decide) rfl ?_
        refine z_goto C 4 dX0_notIn_33 (by decide) ?_
        refine zZ_sub [1, 2, 0] rfl ?_
        refine zZ_cast rfl (zLk (zLc (by rw [bitsN_no (by rw [hP]; simpa using h21)]) (zLc (by omega) rfl))) rfl (kke trivial)
      · refine z_iload_n C 1 rfl dX0_notIn_24 rfl ?_
        refine z_iconst C dX0_notIn_25 ?_
        refine z_iload_n C 2 rfl dX0_notIn_26 rfl ?_
        refine z_ishl C ((2 ^ e : Nat) : Int) dX0_notIn_27 (iI_sh1 (by omega)) ?_
        refine z_ior C (bitsN P (e + 1) : Nat) dX0_notIn_28 (bitsN_step (by omega) (by rw [hP]; simpa using h21)) ?_
        refine z_istore_n C [(1, .int (iI ((bitsN P (e + 1) : Nat)))), (0, .ref h), (2, .int (iI ((e : Int))))] dX0_notIn_29 rfl (by decide) rfl ?_
        obtain ⟨v2, ev2⟩ : ∃ y : Int, y = (e : Int) + 1 := ⟨_, rfl⟩
        refine z_iinc C 2 v2 [(2, .int (iI v2)), (1, .int (iI ((bitsN P (e + 1) : Nat)))), (0, .ref h)] dX0_notIn_30 rfl ev2.symm (by decide) rfl ?_
        refine z_goto C 4 dX0_notIn_33 (by decide) ?_
        refine zZ_sub [2, 1, 0] rfl ?_
        refine zZ_cast rfl (zLk (zLc rfl (zLc (by omega) rfl))) rfl (kke trivial)
  · intro hpe
    refine z_iload_n C 2 rfl dX0_notIn_4 rfl ?_
    refine z_aload_n C 0 rfl dX0_notIn_5 rfl ?_
    refine y_getI C zCl0 6 flX0_31 rfl (lay_h hh) dX0_notIn_6 ?_
    refine z_icmp_ge C 36 dX0_notIn_9 (by decide) (by omega) (by omega) (fun h9 => ?_) (fun h9 => ?_)
    · refine z_iload_n C 1 rfl dX0_notIn_36 rfl ?_
      exact zZ_iret C hR (Nat.le_refl _) (Nat.le_refl _) dX0_notIn_37 rfl (zIs_I (by rw [hn2]) rfl)
    · omega
set_option maxHeartbeats 4000000 in
set_option maxRecDepth 100000 in
theorem c_X0_farthestFrom {g : zG} {I : Nat → Nat → Int} {J : Nat → Nat → Int64} {q : Nat × Nat} {h s w : Nat} (hh : isH h) (iss : isS s) (hg : gH I h) (hs : gS I s) (hw : w < 5) : zRun g mX0_farthestFrom 2 [.ref h, .ref s, .int (iI ((w : Int)))] (zst I J q) (some (.int (iI (farF (I (s + 1)) (I h 1) w (I h 6).toNat)))) (zst I J q) := by
  obtain ⟨g1, g2, g3, g4, g5, g6⟩ := id hg
  obtain ⟨k1, k2, k3⟩ := id hs
  obtain ⟨n, hn⟩ : ∃ n : Nat, I h 6 = n := ⟨(I h 6).toNat, by omega⟩
  have hn2 : (I h 6).toNat = n := by omega
  have qw := k3 w hw
  refine zRuns_intro rfl (Nat.le_of_ble_eq_true rfl) (fun X C hR => ?_)
  show zZ g X 0 0 _ 0 [(0, .ref h), (1, .ref s), (2, .int (iI ((w : Int))))] []
  refine z_iconst C dX0_farthestFrom_0 ?_
  refine z_istore_n C [(3, .int (iI 0)), (0, .ref h), (1, .ref s), (2, .int (iI ((w : Int))))] dX0_farthestFrom_1 rfl (by decide) rfl ?_
  refine z_iconst C dX0_farthestFrom_2 ?_
  refine z_istore C [(4, .int (iI 0)), (3, .int (iI 0)), (0, .ref h), (1, .ref s), (2, .int (iI ((w : Int))))] dX0_farthestFrom_3 (by decide) rfl ?_
  refine zZ_sub [2, 3, 4, 1, 0] rfl ?_
  refine zZ_cast (σ' := (fun _ : Nat => zst I J q) 0) (L' := (fun e : Nat => [(0, .ref h), (1, .ref s), (2, .int (iI ((w : Int)))), (3, .int (iI (farF (I (s + 1)) (I h 1) w e))), (4, .int (iI (e : Int)))]) 0) rfl rfl rfl ?_
  refine zfor (n) (fun _ => True) (fun _ : Nat => zst I J q) (fun e : Nat => [(0, .ref h), (1, .ref s), (2, .int (iI ((w : Int)))), (3, .int (iI (farF (I (s + 1)) (I h 1) w e))), (4, .int (iI (e : Int)))]) trivial ?_ ?_
  · intro e hee hpe kke
    have qe := k3 e (by omega)
    have hfr := farF_r (pen := I h 1) (w := w) (k := e) (by omega) hw k3
    have hst := stp_r (c := I (s + 1) e) (d := I (s + 1) w) (by omega) (by omega)
    refine z_iload C 4 rfl dX0_farthestFrom_5 ?_
    refine z_aload_n C 0 rfl dX0_farthestFrom_7 rfl ?_
    refine y_getI C zCl0 6 flX0_31 rfl (lay_h hh) dX0_farthestFrom_8 ?_
    refine z_icmp_ge C 51 dX0_farthestFrom_11 (by decide) (by omega) (by omega) (fun h11 => ?_) (fun h11 => ?_)
    · omega
    · refine z_aload_n C 0 rfl dX0_farthestFrom_14 rfl ?_
      refine z_aload_n C 1 rfl dX0_farthestFrom_15 rfl ?_
      refine z_iload C 4 rfl dX0_farthestFrom_16 ?_
      refine y_callV2 C oX0_isIn iX0_isIn eX0_isIn lkX0_125 (c_X0_isIn hh iss hg hs (by first | assumption | omega)) (lay_h hh) (by decide) rfl rfl (by decide) (Nat.le_refl _) (Nat.le_refl _) (Nat.le_of_ble_eq_true rfl) dX0_farthestFrom_18 ?_
      refine y_if_neB C 45 dX0_farthestFrom_21 (by decide) (fun h21 => ?_) (fun h21 => ?_)
      · obtain ⟨v1, ev1⟩ : ∃ y : Int, y = (e : Int) + 1 := ⟨_, rfl⟩
        refine z_iinc C 4 v1 [(4, .int (iI v1)), (0, .ref h), (1, .ref s), (2, .int (iI ((w : Int)))), (3, .int (iI ((farF (I (s + 1)) (I h 1) w e))))] dX0_farthestFrom_45 rfl ev1.symm (by decide) rfl ?_
        refine z_goto C 5 dX0_farthestFrom_48 (by decide) ?_
        refine zZ_sub [1, 2, 3, 4, 0] rfl ?_
        refine zZ_cast rfl (zLk (zLk (zLk (zLc (by simp only [farF]; rw [if_pos (by simpa using h21)]) (zLc (by omega) rfl))))) rfl (kke trivial)
      · refine z_iload_n C 3 rfl dX0_farthestFrom_24 rfl ?_
        refine z_aload_n C 1 rfl dX0_farthestFrom_25 rfl ?_
        refine y_getR C zCl3 2 flX0_77 rfl (lay_s iss) (rt_s iss) dX0_farthestFrom_26 ?_
        refine z_iload C 4 rfl dX0_farthestFrom_29 ?_
        refine y_iald C e (by omega) (lay_s1 iss) (by omega) (by decide) dX0_farthestFrom_31 ?_
        refine z_aload_n C 1 rfl dX0_farthestFrom_32 rfl ?_
        refine y_getR C zCl3 2 flX0_77 rfl (lay_s iss) (rt_s iss) dX0_farthestFrom_33 ?_
        refine z_iload_n C 2 rfl dX0_farthestFrom_36 rfl ?_
        refine y_iald C w (by omega) (lay_s1 iss) (by omega) (by decide) dX0_farthestFrom_37 ?_
        refine y_callN2 C (host := RX5) oX5_stepsBetween sX5_stepsBetween (List.mem_of_getElem? (i := 5) rfl) (c_X5_stepsBetween (by first | assumption | omega) (by first | assumption | omega)) (by decide) (Nat.le_refl _) (Nat.le_refl _) (Nat.le_of_ble_eq_true rfl) dX0_farthestFrom_38 ?_
        refine z_mmax C lkX0_128 (by omega) (by omega) (by decide) (Nat.le_refl _) (Nat.le_refl _) (Nat.le_of_ble_eq_true rfl) dX0_farthestFrom_41 ?_
        refine z_topI C (fun v2 ev2 => ?_)
        refine z_istore_n C [(3, .int (iI v2)), (0, .ref h), (1, .ref s), (2, .int (iI ((w : Int)))), (4, .int (iI ((e : Int))))] dX0_farthestFrom_44 rfl (by decide) rfl ?_
        obtain ⟨v3, ev3⟩ : ∃ y : Int, y = (e : Int) + 1 := ⟨_, rfl⟩
        refine z_iinc C 4 v3 [(4, .int (iI v3)), (3, .int (iI v2)), (0, .ref h), (1, .ref s), (2, .int (iI ((w : Int))))] dX0_farthestFrom_45 rfl ev3.symm (by decide) rfl ?_
        refine z_goto C 5 dX0_farthestFrom_48 (by decide) ?_
        refine zZ_sub [2, 3, 4, 1, 0] rfl ?_
        refine zZ_cast rfl (zLk (zLk (zLk (zLc (by simp only [farF]; rw [if_neg (by simpa using h21)]; omega) (zLc (by omega) rfl))))) rfl (kke trivial)
  · intro hpe
    refine z_iload C 4 rfl dX0_farthestFrom_5 ?_
    refine z_aload_n C 0 rfl dX0_farthestFrom_7 rfl ?_
    refine y_getI C zCl0 6 flX0_31 rfl (lay_h hh) dX0_farthestFrom_8 ?_
    refine z_icmp_ge C 51 dX0_farthestFrom_11 (by decide) (by omega) (by omega) (fun h11 => ?_) (fun h11 => ?_)
    · refine z_iload_n C 3 rfl dX0_farthestFrom_51 rfl ?_
      exact zZ_iret C hR (Nat.le_refl _) (Nat.le_refl _) dX0_farthestFrom_52 rfl (zIs_I (by rw [hn2]) rfl)
    · omega
set_option maxHeartbeats 4000000 in
set_option maxRecDepth 100000 in
theorem c_X0_apart {g : zG} {I : Nat → Nat → Int} {J : Nat → Nat → Int64} {q : Nat × Nat} {h s : Nat} (hh : isH h) (iss : isS s) (hg : gH I h) (hs : gS I s) : zRun g mX0_apart 3 [.ref h, .ref s] (zst I J q) (some (.int (iI (apF (I (s + 1)) (I h 1) (I h 6).toNat (I h 6).toNat)))) (zst I J q) := by
  obtain ⟨g1, g2, g3, g4, g5, g6⟩ := id hg
  obtain ⟨k1, k2, k3⟩ := id hs
  obtain ⟨n, hn⟩ : ∃ n : Nat, I h 6 = n := ⟨(I h 6).toNat, by omega⟩
  have hn2 : (I h 6).toNat = n := by omega
  refine zRuns_intro rfl (Nat.le_of_ble_eq_true rfl) (fun X C hR => ?_)
  show zZ g X 0 0 _ 0 [(0, .ref h), (1, .ref s)] []
  refine z_iconst C dX0_apart_0 ?_
  refine z_istore_n C [(2, .int (iI 0)), (0, .ref h), (1, .ref s)] dX0_apart_1 rfl (by decide) rfl ?_
  refine z_iconst C dX0_apart_2 ?_
  refine z_istore_n C [(3, .int (iI 0)), (2, .int (iI 0)), (0, .ref h), (1, .ref s)] dX0_apart_3 rfl (by decide) rfl ?_
  refine zZ_sub [2, 3, 1, 0] rfl ?_
  refine zZ_cast (σ' := (fun _ : Nat => zst I J q) 0) (L' := (fun e : Nat => [(0, .ref h), (1, .ref s), (2, .int (iI (apF (I (s + 1)) (I h 1) n e))), (3, .int (iI (e : Int)))]) 0) rfl rfl rfl ?_
  refine zfor (n) (fun _ => True) (fun _ : Nat => zst I J q) (fun e : Nat => [(0, .ref h), (1, .ref s), (2, .int (iI (apF (I (s + 1)) (I h 1) n e))), (3, .int (iI (e : Int)))]) trivial ?_ ?_
  · intro e hee hpe kke
    have hfr := farF_r (pen := I h 1) (w := e) (k := n) (by omega) (by omega) k3
    have har := apF_r (pen := I h 1) (n := n) (k := e) (by omega) (by omega) k3
    refine z_iload_n C 3 rfl dX0_apart_4 rfl ?_
    refine z_aload_n C 0 rfl dX0_apart_5 rfl ?_
    refine y_getI C zCl0 6 flX0_31 rfl (lay_h hh) dX0_apart_6 ?_
    refine z_icmp_ge C 38 dX0_apart_9 (by decide) (by omega) (by omega) (fun h9 => ?_) (fun h9 => ?_)
    · omega
    · refine z_aload_n C 0 rfl dX0_apart_12 rfl ?_
      refine z_aload_n C 1 rfl dX0_apart_13 rfl ?_
      refine z_iload_n C 3 rfl dX0_apart_14 rfl ?_
      refine y_callV2 C oX0_isIn iX0_isIn eX0_isIn lkX0_125 (c_X0_isIn hh iss hg hs (by first | assumption | omega)) (lay_h hh) (by decide) rfl rfl (by decide) (Nat.le_refl _) (Nat.le_refl _) (Nat.le_of_ble_eq_true rfl) dX0_apart_15 ?_
      refine y_if_neB C 32 dX0_apart_18 (by decide) (fun h18 => ?_) (fun h18 => ?_)
      · obtain ⟨v1, ev1⟩ : ∃ y : Int, y = (e : Int) + 1 := ⟨_, rfl⟩
        refine z_iinc C 3 v1 [(3, .int (iI v1)), (0, .ref h), (1, .ref s), (2, .int (iI ((apF (I (s + 1)) (I h 1) n e))))] dX0_apart_32 rfl ev1.symm (by decide) rfl ?_
        refine z_goto C 4 dX0_apart_35 (by decide) ?_
        refine zZ_sub [1, 2, 3, 0] rfl ?_
        refine zZ_cast rfl (zLk (zLk (zLc (by simp only [apF]; rw [if_pos (by simpa using h18)]) (zLc (by omega) rfl)))) rfl (kke trivial)
      · refine z_iload_n C 2 rfl dX0_apart_21 rfl ?_
        refine z_aload_n C 0 rfl dX0_apart_22 rfl ?_
        refine z_aload_n C 1 rfl dX0_apart_23 rfl ?_
        refine z_iload_n C 3 rfl dX0_apart_24 rfl ?_
        refine y_callV2 C oX0_farthestFrom iX0_farthestFrom eX0_farthestFrom lkX0_133 (c_X0_farthestFrom hh iss hg hs (by first | assumption | omega)) (lay_h hh) (by decide) rfl rfl (by decide) (Nat.le_refl _) (Nat.le_refl _) (Nat.le_of_ble_eq_true rfl) dX0_apart_25 ?_
        rw [hn2]
        refine z_mmax C lkX0_128 (by omega) (by omega) (by decide) (Nat.le_refl _) (Nat.le_refl _) (Nat.le_of_ble_eq_true rfl) dX0_apart_28 ?_
        refine z_topI C (fun v2 ev2 => ?_)
        refine z_istore_n C [(2, .int (iI v2)), (0, .ref h), (1, .ref s), (3, .int (iI ((e : Int))))] dX0_apart_31 rfl (by decide) rfl ?_
        obtain ⟨v3, ev3⟩ : ∃ y : Int, y = (e : Int) + 1 := ⟨_, rfl⟩
        refine z_iinc C 3 v3 [(3, .int (iI v3)), (2, .int (iI v2)), (0, .ref h), (1, .ref s)] dX0_apart_32 rfl ev3.symm (by decide) rfl ?_
        refine z_goto C 4 dX0_apart_35 (by decide) ?_
        refine zZ_sub [2, 3, 1, 0] rfl ?_
        refine zZ_cast rfl (zLk (zLk (zLc (by simp only [apF]; rw [if_neg (by simpa using h18)]; omega) (zLc (by omega) rfl)))) rfl (kke trivial)
  · intro hpe
    refine z_iload_n C 3 rfl dX0_apart_4 rfl ?_
    refine z_aload_n C 0 rfl dX0_apart_5 rfl ?_
    refine y_getI C zCl0 6 flX0_31 rfl (lay_h hh) dX0_apart_6 ?_
    refine z_icmp_ge C 38 dX0_apart_9 (by decide) (by omega) (by omega) (fun h9 => ?_) (fun h9 => ?_)
    · refine z_iload_n C 2 rfl dX0_apart_38 rfl ?_
      exact zZ_iret C hR (Nat.le_refl _) (Nat.le_refl _) dX0_apart_39 rfl (zIs_I (by rw [hn2]) rfl)
    · omega
set_option maxHeartbeats 4000000 in
set_option maxRecDepth 100000 in
theorem c_X0_flock {g : zG} {I : Nat → Nat → Int} {J : Nat → Nat → Int64} {q : Nat × Nat} {h : Nat} (hh : isH h) (hg : gH I h) (hs : gS I (h + 3)) : zRun g mX0_flock 3 [.ref h] (zst I J q) (some (.int (iI ((bitsN (fun e => !decide (I (h + 3 + 1) e = I h 1) && decide (2 < farF (I (h + 3 + 1)) (I h 1) e (I h 6).toNat)) (I h 6).toNat : Nat))))) (zst I J q) := by
  obtain ⟨g1, g2, g3, g4, g5, g6⟩ := id hg
  obtain ⟨k1, k2, k3⟩ := id hs
  obtain ⟨n, hn⟩ : ∃ n : Nat, I h 6 = n := ⟨(I h 6).toNat, by omega⟩
  have hn2 : (I h 6).toNat = n := by omega
  obtain ⟨P, hP⟩ : ∃ P, P = fun e => !decide (I (h + 3 + 1) e = I h 1) && decide (2 < farF (I (h + 3 + 1)) (I h 1) e (I h 6).toNat) := ⟨_, rfl⟩
  rw [← hP]
  refine zRuns_intro rfl (Nat.le_of_ble_eq_true rfl) (fun X C hR => ?_)
  show zZ g X 0 0 _ 0 [(0, .ref h)] []
  refine z_iconst C dX0_flock_0 ?_
  refine z_istore_n C [(1, .int (iI 0)), (0, .ref h)] dX0_flock_1 rfl (by decide) rfl ?_
  refine z_iconst C dX0_flock_2 ?_
  refine z_istore_n C [(2, .int (iI 0)), (1, .int (iI 0)), (0, .ref h)] dX0_flock_3 rfl (by decide) rfl ?_
  refine zZ_sub [2, 1, 0] rfl ?_
  refine zZ_cast (σ' := (fun _ : Nat => zst I J q) 0) (L' := (fun e : Nat => [(0, .ref h), (1, .int (iI (bitsN P e : Nat))), (2, .int (iI (e : Int)))]) 0) rfl rfl rfl ?_
  refine zfor (n) (fun _ => True) (fun _ : Nat => zst I J q) (fun e : Nat => [(0, .ref h), (1, .int (iI (bitsN P e : Nat))), (2, .int (iI (e : Int)))]) trivial ?_ ?_
  · intro e hee hpe kke
    have hfr := farF_r (pen := I h 1) (w := e) (k := (I h 6).toNat) (by omega) (by omega) k3
    refine z_iload_n C 2 rfl dX0_flock_4 rfl ?_
    refine z_aload_n C 0 rfl dX0_flock_5 rfl ?_
    refine y_getI C zCl0 6 flX0_31 rfl (lay_h hh) dX0_flock_6 ?_
    refine z_icmp_ge C 49 dX0_flock_9 (by decide) (by omega) (by omega) (fun h9 => ?_) (fun h9 => ?_)
    · omega
    · refine z_aload_n C 0 rfl dX0_flock_12 rfl ?_
      refine z_aload_n C 0 rfl dX0_flock_13 rfl ?_
      refine y_getR C zCl0 9 flX0_44 rfl (lay_h hh) (rt_h9 hh) dX0_flock_14 ?_
      refine z_iload_n C 2 rfl dX0_flock_17 rfl ?_
      refine y_callV2 C oX0_isIn iX0_isIn eX0_isIn lkX0_125 (c_X0_isIn hh (isS_h hh) hg hs (by first | assumption | omega)) (lay_h hh) (by decide) rfl rfl (by decide) (Nat.le_refl _) (Nat.le_refl _) (Nat.le_of_ble_eq_true rfl) dX0_flock_18 ?_
      refine y_if_neB C 43 dX0_flock_21 (by decide) (fun h21 => ?_) (fun h21 => ?_)
      · obtain ⟨v1, ev1⟩ : ∃ y : Int, y = (e : Int) + 1 := ⟨_, rfl⟩
        refine z_iinc C 2 v1 [(2, .int (iI v1)), (0, .ref h), (1, .int (iI ((bitsN P e : Nat))))] dX0_flock_43 rfl ev1.symm (by decide) rfl ?_
        refine z_goto C 4 dX0_flock_46 (by decide) ?_
        refine zZ_sub [1, 2, 0] rfl ?_
        refine zZ_cast rfl (zLk (zLc (by rw [bitsN_no (by rw [hP]; simp [show I (h + 3 + 1) e = I h 1 by simpa using h21])]) (zLc (by omega) rfl))) rfl (kke trivial)
      · refine z_aload_n C 0 rfl dX0_flock_24 rfl ?_
        refine z_aload_n C 0 rfl dX0_flock_25 rfl ?_
        refine y_getR C zCl0 9 flX0_44 rfl (lay_h hh) (rt_h9 hh) dX0_flock_26 ?_
        refine z_iload_n C 2 rfl dX0_flock_29 rfl ?_
        refine y_callV2 C oX0_farthestFrom iX0_farthestFrom eX0_farthestFrom lkX0_133 (c_X0_farthestFrom hh (isS_h hh) hg hs (by first | assumption | omega)) (lay_h hh) (by decide) rfl rfl (by decide) (Nat.le_refl _) (Nat.le_refl _) (Nat.le_of_ble_eq_true rfl) dX0_flock_30 ?_
        refine z_iconst C dX0_flock_33 ?_
        refine z_icmp_le C 43 dX0_flock_34 (by decide) (by omega) (by omega) (fun h34 => ?_) (fun h34 => ?_)
        · obtain ⟨v2, ev2⟩ : ∃ y : Int, y = (e : Int) + 1 := ⟨_, rfl⟩
          refine z_iinc C 2 v2 [(2, .int (iI v2)), (0, .ref h), (1, .int (iI ((bitsN P e : Nat))))] dX0_flock_43 rfl ev2.symm (by decide) rfl ?_
          refine z_goto C 4 dX0_flock_46 (by decide) ?_
          refine zZ_sub [1, 2, 0] rfl ?_
          refine zZ_cast rfl (zLk (zLc (by rw [bitsN_no (by rw [hP]; simp; intro; omega)]) (zLc (by omega) rfl))) rfl (kke trivial)
        · refine z_iload_n C 1 rfl dX0_flock_37 rfl ?_
          refine z_iconst C dX0_flock_38 ?_
          refine z_iload_n C 2 rfl dX0_flock_39 rfl ?_
          refine z_ishl C ((2 ^ e : Nat) : Int) dX0_flock_40 (iI_sh1 (by omega)) ?_
          refine z_ior C (bitsN P (e + 1) : Nat) dX0_flock_41 (bitsN_step (by omega) (by rw [hP]; simp [show ¬ I (h + 3 + 1) e = I h 1 by simpa using h21]; omega)) ?_
          refine z_istore_n C [(1, .int (iI ((bitsN P (e + 1) : Nat)))), (0, .ref h), (2, .int (iI ((e : Int))))] dX0_flock_42 rfl (by decide) rfl ?_
          obtain ⟨v3, ev3⟩ : ∃ y : Int, y = (e : Int) + 1 := ⟨_, rfl⟩
          refine z_iinc C 2 v3 [(2, .int (iI v3)), (1, .int (iI ((bitsN P (e + 1) : Nat)))), (0, .ref h)] dX0_flock_43 rfl ev3.symm (by decide) rfl ?_
          refine z_goto C 4 dX0_flock_46 (by decide) ?_
          refine zZ_sub [2, 1, 0] rfl ?_
          refine zZ_cast rfl (zLk (zLc rfl (zLc (by omega) rfl))) rfl (kke trivial)
  · intro hpe
    refine z_iload_n C 2 rfl dX0_flock_4 rfl ?_
    refine z_aload_n C 0 rfl dX0_flock_5 rfl ?_
    refine y_getI C zCl0 6 flX0_31 rfl (lay_h hh) dX0_flock_6 ?_
    refine z_icmp_ge C 49 dX0_flock_9 (by decide) (by omega) (by omega) (fun h9 => ?_) (fun h9 => ?_)
    · refine z_iload_n C 1 rfl dX0_flock_49 rfl ?_
      exact zZ_iret C hR (Nat.le_refl _) (Nat.le_refl _) dX0_flock_50 rfl (zIs_I (by rw [hn2]) rfl)
    · omega
set_option maxHeartbeats 4000000 in
set_option maxRecDepth 100000 in
theorem c_X0_nearest {g : zG} {I : Nat → Nat → Int} {J : Nat → Nat → Int64} {q : Nat × Nat} {h : Nat} (hh : isH h) (hg : gH I h) (hs : gS I (h + 3)) : zRun g mX0_nearest 2 [.ref h] (zst I J q) (some (.int (iI ((nearF (I (h + 3 + 1)) (I h 1) (I (h + 3) 0) (I h 6).toNat).1)))) (zst I J q) := by
  obtain ⟨g1, g2, g3, g4, g5, g6⟩ := id hg
  obtain ⟨k1, k2, k3⟩ := id hs
  obtain ⟨n, hn⟩ : ∃ n : Nat, I h 6 = n := ⟨(I h 6).toNat, by omega⟩
  have hn2 : (I h 6).toNat = n := by omega
  refine zRuns_intro rfl (Nat.le_of_ble_eq_true rfl) (fun X C hR => ?_)
  show zZ g X 0 0 _ 0 [(0, .ref h)] []
  refine z_iconst C dX0_nearest_0 ?_
  refine z_istore_n C [(1, .int (iI ((-1)))), (0, .ref h)] dX0_nearest_1 rfl (by decide) rfl ?_
  refine z_iconst C dX0_nearest_2 ?_
  refine z_istore_n C [(2, .int (iI 0)), (1, .int (iI ((-1)))), (0, .ref h)] dX0_nearest_3 rfl (by decide) rfl ?_
  refine z_iconst C dX0_nearest_4 ?_
  refine z_istore_n C [(3, .int (iI 0)), (2, .int (iI 0)), (1, .int (iI ((-1)))), (0, .ref h)] dX0_nearest_5 rfl (by decide) rfl ?_
  refine zZ_sub [3, 2, 1, 0] rfl ?_
  refine zZ_cast (σ' := (fun _ : Nat => zst I J q) 0) (L' := (fun e : Nat => [(0, .ref h), (1, .int (iI (nearF (I (h + 3 + 1)) (I h 1) (I (h + 3) 0) e).1)), (2, .int (iI (nearF (I (h + 3 + 1)) (I h 1) (I (h + 3) 0) e).2)), (3, .int (iI (e : Int)))]) 0) rfl rfl rfl ?_
  refine zfor (n) (fun _ => True) (fun _ : Nat => zst I J q) (fun e : Nat => [(0, .ref h), (1, .int (iI (nearF (I (h + 3 + 1)) (I h 1) (I (h + 3) 0) e).1)), (2, .int (iI (nearF (I (h + 3 + 1)) (I h 1) (I (h + 3) 0) e).2)), (3, .int (iI (e : Int)))]) trivial ?_ ?_
  · intro e hee hpe kke
    have qe := k3 e (by omega)
    have hst := stp_r (c := I (h + 3 + 1) e) (d := I (h + 3) 0) (by omega) (by omega)
    have hr := nearF_r (pen := I h 1) (k := e) (by omega) k1 k3
    obtain ⟨nr, ls, hnl⟩ : ∃ nr ls, nearF (I (h + 3 + 1)) (I h 1) (I (h + 3) 0) e = (nr, ls) := ⟨_, _, rfl⟩
    rw [hnl] at hr ⊢
    simp only at hr
    refine z_iload_n C 3 rfl dX0_nearest_6 rfl ?_
    refine z_aload_n C 0 rfl dX0_nearest_7 rfl ?_
    refine y_getI C zCl0 6 flX0_31 rfl (lay_h hh) dX0_nearest_8 ?_
    refine z_icmp_ge C 69 dX0_nearest_11 (by decide) (by omega) (by omega) (fun h11 => ?_) (fun h11 => ?_)
    · omega
    · refine z_aload_n C 0 rfl dX0_nearest_14 rfl ?_
      refine y_getR C zCl0 9 flX0_44 rfl (lay_h hh) (rt_h9 hh) dX0_nearest_15 ?_
      refine y_getR C zCl3 2 flX0_77 rfl (lay_h3 hh) (rt_s (isS_h hh)) dX0_nearest_18 ?_
      refine z_iload_n C 3 rfl dX0_nearest_21 rfl ?_
      refine y_iald C e (by omega) (lay_s1 (isS_h hh)) (by omega) (by decide) dX0_nearest_22 ?_
      refine z_aload_n C 0 rfl dX0_nearest_23 rfl ?_
      refine y_getR C zCl0 9 flX0_44 rfl (lay_h hh) (rt_h9 hh) dX0_nearest_24 ?_
      refine y_getI C zCl3 0 flX0_71 rfl (lay_h3 hh) dX0_nearest_27 ?_
      refine y_callN2 C (host := RX5) oX5_stepsBetween sX5_stepsBetween (List.mem_of_getElem? (i := 5) rfl) (c_X5_stepsBetween (by first | assumption | omega) (by first | assumption | omega)) (by decide) (Nat.le_refl _) (Nat.le_refl _) (Nat.le_of_ble_eq_true rfl) dX0_nearest_30 ?_
      refine z_topI C (fun aw eaw => ?_)
      refine z_istore C [(4, .int (iI aw)), (0, .ref h), (1, .int (iI nr)), (2, .int (iI ls)), (3, .int (iI ((e : Int))))] dX0_nearest_33 (by decide) rfl ?_
      refine z_aload_n C 1 rfl dX0_nearest_35 rfl ?_
      refine z_aload_n C 1 rfl dX0_nearest_36 rfl ?_
      refine y_getR C zCl0 9 flX0_44 rfl (lay_h hh) (rt_h9 hh) dX0_nearest_37 ?_
      refine z_iload_n C 4 rfl dX0_nearest_40 rfl ?_
      refine y_callV2 C oX0_isIn iX0_isIn eX0_isIn lkX0_125 (c_X0_isIn hh (isS_h hh) hg hs (by first | assumption | omega)) (lay_h hh) (by decide) rfl rfl (by decide) (Nat.le_refl _) (Nat.le_refl _) (Nat.le_of_ble_eq_true rfl) dX0_nearest_41 ?_
      refine y_if_neB C 63 dX0_nearest_44 (by decide) (fun h44 => ?_) (fun h44 => ?_)
      · obtain ⟨v1, ev1⟩ : ∃ y : Int, y = (e : Int) + 1 := ⟨_, rfl⟩
        refine z_iinc C 4 v1 [(3, .int (iI v1)), (4, .int (iI aw)), (0, .ref h), (1, .int (iI nr)), (2, .int (iI ls))] dX0_nearest_63 rfl ev1.symm (by decide) rfl ?_
        refine z_goto C 6 dX0_nearest_66 (by decide) ?_
        refine zZ_sub [2, 3, 4, 0] rfl ?_
        refine zZ_cast rfl (zLk (zLc (by simp only [nearF, hnl]; rw [if_neg (by simp at h44; simp [h44])]) (zLc (by simp only [nearF, hnl]; rw [if_neg (by simp at h44; simp [h44])]) (zLc (by omega) rfl)))) rfl (kke trivial)
      · refine z_iload_n C 2 rfl dX0_nearest_47 rfl ?_
        refine z_iconst C dX0_nearest_48 ?_
        refine z_icmp_eq C 58 dX0_nearest_49 (by decide) (by omega) (by omega) (fun h49 => ?_) (fun h49 => ?_)
        · refine z_iload_n C 4 rfl dX0_nearest_58 rfl ?_
          refine z_istore_n C [(1, .int (iI ((e : Int)))), (4, .int (iI aw)), (0, .ref h), (2, .int (iI ls)), (3, .int (iI ((e : Int))))] dX0_nearest_59 rfl (by decide) rfl ?_
          refine z_iload C 1 rfl dX0_nearest_60 ?_
          refine z_istore_n C [(2, .int (iI aw)), (1, .int (iI ((e : Int)))), (4, .int (iI aw)), (0, .ref h), (3, .int (iI ((e : Int))))] dX0_nearest_62 rfl (by decide) rfl ?_
          obtain ⟨v2, ev2⟩ : ∃ y : Int, y = (e : Int) + 1 := ⟨_, rfl⟩
          refine z_iinc C 4 v2 [(3, .int (iI v2)), (2, .int (iI aw)), (1, .int (iI ((e : Int)))), (4, .int (iI aw)), (0, .ref h)] dX0_nearest_63 rfl ev2.symm (by decide) rfl ?_
          refine z_goto C 6 dX0_nearest_66 (by decide) ?_
          refine zZ_sub [4, 2, 1, 0] rfl ?_
          refine zZ_cast rfl (zLk (zLc (by simp only [nearF, hnl]; rw [if_pos ⟨by simpa using h44, by omega⟩] <;> (try simp only) <;> (try omega)) (zLc (by simp only [nearF, hnl]; rw [if_pos ⟨by simpa using h44, by omega⟩] <;> (try simp only) <;> (try omega)) (zLc (by omega) rfl)))) rfl (kke trivial)
        · refine z_iload C 0 rfl dX0_nearest_52 ?_
          refine z_iload_n C 3 rfl dX0_nearest_54 rfl ?_
          refine z_icmp_ge C 63 dX0_nearest_55 (by decide) (by omega) (by omega) (fun h55 => ?_) (fun h55 => ?_)
          · obtain ⟨v3, ev3⟩ : ∃ y : Int, y = (e : Int) + 1 := ⟨_, rfl⟩
            refine z_iinc C 4 v3 [(3, .int (iI v3)), (4, .int (iI aw)), (0, .ref h), (1, .int (iI nr)), (2, .int (iI ls))] dX0_nearest_63 rfl ev3.symm (by decide) rfl ?_
            refine z_goto C 6 dX0_nearest_66 (by decide) ?_
            refine zZ_sub [2, 3, 4, 0] rfl ?_
            refine zZ_cast rfl (zLk (zLc (by simp only [nearF, hnl]; rw [if_neg (by omega)]) (zLc (by simp only [nearF, hnl]; rw [if_neg (by omega)]) (zLc (by omega) rfl)))) rfl (kke trivial)
          · refine z_iload_n C 4 rfl dX0_nearest_58 rfl ?_
            refine z_istore_n C [(1, .int (iI ((e : Int)))), (4, .int (iI aw)), (0, .ref h), (2, .int (iI ls)), (3, .int (iI ((e : Int))))] dX0_nearest_59 rfl (by decide) rfl ?_
            refine z_iload C 1 rfl dX0_nearest_60 ?_
            refine z_istore_n C [(2, .int (iI aw)), (1, .int (iI ((e : Int)))), (4, .int (iI aw)), (0, .ref h), (3, .int (iI ((e : Int))))] dX0_nearest_62 rfl (by decide) rfl ?_
            obtain ⟨v4, ev4⟩ : ∃ y : Int, y = (e : Int) + 1 := ⟨_, rfl⟩
            refine z_iinc C 4 v4 [(3, .int (iI v4)), (2, .int (iI aw)), (1, .int (iI ((e : Int)))), (4, .int (iI aw)), (0, .ref h)] dX0_nearest_63 rfl ev4.symm (by decide) rfl ?_
            refine z_goto C 6 dX0_nearest_66 (by decide) ?_
            refine zZ_sub [4, 2, 1, 0] rfl ?_
            refine zZ_cast rfl (zLk (zLc (by simp only [nearF, hnl]; rw [if_pos ⟨by simpa using h44, by omega⟩] <;> (try simp only) <;> (try omega)) (zLc (by simp only [nearF, hnl]; rw [if_pos ⟨by simpa using h44, by omega⟩] <;> (try simp only) <;> (try omega)) (zLc (by omega) rfl)))) rfl (kke trivial)
  · intro hpe
    refine z_iload_n C 3 rfl dX0_nearest_6 rfl ?_
    refine z_aload_n C 0 rfl dX0_nearest_7 rfl ?_
    refine y_getI C zCl0 6 flX0_31 rfl (lay_h hh) dX0_nearest_8 ?_
    refine z_icmp_ge C 69 dX0_nearest_11 (by decide) (by omega) (by omega) (fun h11 => ?_) (fun h11 => ?_)
    · refine z_iload_n C 1 rfl dX0_nearest_69 rfl ?_
      exact zZ_iret C hR (Nat.le_refl _) (Nat.le_refl _) dX0_nearest_70 rfl (zIs_I (by rw [hn2]) rfl)
    · omega
set_option maxHeartbeats 4000000 in
set_option maxRecDepth 100000 in
theorem c_X0_draw {g : zG} {I : Nat → Nat → Int} {J : Nat → Nat → Int64} {q : Nat × Nat} {h : Nat} {m : Int} (hh : isH h) (hm : 1 ≤ m ∧ m ≤ 100) : zRun g mX0_draw 0 [.ref h, .int (iI m)] (zst I J q) (some (.int (iI (ush16 (seedN (I h 4)) % m)))) (zst (zu I h 4 (seedN (I h 4))) J q) := by
  have hur := ush16_r (seedN (I h 4))
  refine zRuns_intro rfl (Nat.le_of_ble_eq_true rfl) (fun X C hR => ?_)
  show zZ g X 0 0 _ 0 [(0, .ref h), (1, .int (iI m))] []
  refine z_aload_n C 0 rfl dX0_draw_0 rfl ?_
  refine z_aload_n C 0 rfl dX0_draw_1 rfl ?_
  refine y_getI C zCl0 4 flX0_24 rfl (lay_h hh) dX0_draw_2 ?_
  refine z_ldc C 1103515245 dX0_draw_5 kcX0_136 ?_
  refine z_imul C dX0_draw_7 ?_
  refine z_sipush C dX0_draw_8 (by decide) ?_
  refine z_iadd C dX0_draw_11 ?_
  refine y_putI C zCl0 4 flX0_24 rfl rfl rfl (lay_h hh) dX0_draw_12 ?_
  refine z_iload_n C 1 rfl dX0_draw_15 rfl ?_
  refine z_iconst C dX0_draw_16 ?_
  refine z_icmp_ge C 24 dX0_draw_17 (by decide) (by omega) (by omega) (fun h17 => ?_) (fun h17 => ?_)
  · refine z_aload_n C 0 rfl dX0_draw_24 rfl ?_
    refine y_getI C zCl0 4 flX0_24 rfl (lay_h hh) dX0_draw_25 ?_
    rw [show zu I h 4 (I h 4 * 1103515245 + 12345) h 4 = seedN (I h 4) by simp [zu, seedN]]
    refine z_bipush C dX0_draw_28 (by decide) ?_
    refine z_iushr C (ush16 (seedN (I h 4))) dX0_draw_30 (ush16_eq _) ?_
    refine z_iload_n C 1 rfl dX0_draw_31 rfl ?_
    refine z_irem C dX0_draw_32 (by omega) (by omega) ?_
    exact zZ_iret C hR (Nat.le_refl _) (Nat.le_refl _) dX0_draw_33 rfl (zIs_I rfl rfl)
  · omega
set_option maxHeartbeats 4000000 in
set_option maxRecDepth 100000 in
theorem c_X0_eweBits {g : zG} {I : Nat → Nat → Int} {J : Nat → Nat → Int64} {q : Nat × Nat} {h : Nat} (hh : isH h) (hg : gH I h) (hs : gS I (h + 3)) : zRun g mX0_eweBits 1 [.ref h] (zst I J q) (some (.long (eweB (I (h + 3 + 1)) (I h 6).toNat))) (zst I J q) := by
  obtain ⟨g1, g2, g3, g4, g5, g6⟩ := id hg
  obtain ⟨k1, k2, k3⟩ := id hs
  obtain ⟨n, hn⟩ : ∃ n : Nat, I h 6 = n := ⟨(I h 6).toNat, by omega⟩
  have hn2 : (I h 6).toNat = n := by omega
  refine zRuns_intro rfl (Nat.le_of_ble_eq_true rfl) (fun X C hR => ?_)
  show zZ g X 0 0 _ 0 [(0, .ref h)] []
  refine z_lconst C 0 dX0_eweBits_0 rfl ?_
  refine z_lstore_n C [(1, .long 0), (0, .ref h)] dX0_eweBits_1 rfl (by decide) rfl ?_
  refine z_iconst C dX0_eweBits_2 ?_
  refine z_istore_n C [(3, .int (iI 0)), (1, .long 0), (0, .ref h)] dX0_eweBits_3 rfl (by decide) rfl ?_
  refine zZ_sub [2, 1, 0] rfl ?_
  refine zZ_cast (σ' := (fun _ : Nat => zst I J q) 0) (L' := (fun e : Nat => [(0, .ref h), (1, .long (eweB (I (h + 3 + 1)) e)), (3, .int (iI (e : Int)))]) 0) rfl rfl rfl ?_
  refine zfor (n) (fun _ => True) (fun _ : Nat => zst I J q) (fun e : Nat => [(0, .ref h), (1, .long (eweB (I (h + 3 + 1)) e)), (3, .int (iI (e : Int)))]) trivial ?_ ?_
  · intro e hee hpe kke
    have qe := k3 e (by omega)
    refine z_iload_n C 2 rfl dX0_eweBits_4 rfl ?_
    refine z_aload_n C 0 rfl dX0_eweBits_5 rfl ?_
    refine y_getI C zCl0 6 flX0_31 rfl (lay_h hh) dX0_eweBits_6 ?_
    refine z_icmp_ge C 33 dX0_eweBits_9 (by decide) (by omega) (by omega) (fun h9 => ?_) (fun h9 => ?_)
    · omega
    · refine z_lload_n C 1 rfl dX0_eweBits_12 rfl ?_
      refine z_aload_n C 0 rfl dX0_eweBits_13 rfl ?_
      refine y_getR C zCl0 9 flX0_44 rfl (lay_h hh) (rt_h9 hh) dX0_eweBits_14 ?_
      refine y_getR C zCl3 2 flX0_77 rfl (lay_h3 hh) (rt_s (isS_h hh)) dX0_eweBits_17 ?_
      refine z_iload_n C 2 rfl dX0_eweBits_20 rfl ?_
      refine y_iald C e (by omega) (lay_s1 (isS_h hh)) (by omega) (by decide) dX0_eweBits_21 ?_
      refine y_callN1 C (host := RX5) oX5_bitOf sX5_bitOf (List.mem_of_getElem? (i := 6) rfl) (c_X5_bitOf (by first | assumption | omega)) (by decide) (Nat.le_refl _) (Nat.le_refl _) (Nat.le_of_ble_eq_true rfl) dX0_eweBits_22 ?_
      refine z_lor C dX0_eweBits_25 ?_
      refine z_topL C (fun v1 ev1 => ?_)
      refine z_lstore_n C [(1, .long v1), (0, .ref h), (3, .int (iI ((e : Int))))] dX0_eweBits_26 rfl (by decide) rfl ?_
      obtain ⟨v2, ev2⟩ : ∃ y : Int, y = (e : Int) + 1 := ⟨_, rfl⟩
      refine z_iinc C 2 v2 [(3, .int (iI v2)), (1, .long v1), (0, .ref h)] dX0_eweBits_27 rfl ev2.symm (by decide) rfl ?_
      refine z_goto C 4 dX0_eweBits_30 (by decide) ?_
      refine zZ_sub [2, 1, 0] rfl ?_
      refine zZ_cast rfl (zLk (zLj (by rw [ev1]; rfl) (zLc (by omega) rfl))) rfl (kke trivial)
  · intro hpe
    refine z_iload_n C 2 rfl dX0_eweBits_4 rfl ?_
    refine z_aload_n C 0 rfl dX0_eweBits_5 rfl ?_
    refine y_getI C zCl0 6 flX0_31 rfl (lay_h hh) dX0_eweBits_6 ?_
    refine z_icmp_ge C 33 dX0_eweBits_9 (by decide) (by omega) (by omega) (fun h9 => ?_) (fun h9 => ?_)
    · refine z_lload_n C 1 rfl dX0_eweBits_33 rfl ?_
      exact zZ_lret C hR (Nat.le_refl _) (Nat.le_refl _) dX0_eweBits_34 rfl (zIs_J (by rw [hn2]) rfl)
    · omega
set_option maxHeartbeats 4000000 in
set_option maxRecDepth 100000 in
theorem c_X0_dogsGround {g : zG} {I : Nat → Nat → Int} {J : Nat → Nat → Int64} {q : Nat × Nat} {h : Nat} (hh : isH h) (hg : gH I h) : zRun g mX0_dogsGround 3 [.ref h] (zst I J q) (some (.long (groundB (I h 0) (J h 5) (I h 1) 67))) (zst I J q) := by
  obtain ⟨g1, g2, g3, g4, g5, g6⟩ := id hg
  refine zRuns_intro rfl (Nat.le_of_ble_eq_true rfl) (fun X C hR => ?_)
  show zZ g X 0 0 _ 0 [(0, .ref h)] []
  refine z_lconst C 0 dX0_dogsGround_0 rfl ?_
  refine z_lstore_n C [(1, .long 0), (0, .ref h)] dX0_dogsGround_1 rfl (by decide) rfl ?_
  refine z_iconst C dX0_dogsGround_2 ?_
  refine z_istore_n C [(3, .int (iI 0)), (1, .long 0), (0, .ref h)] dX0_dogsGround_3 rfl (by decide) rfl ?_
  refine zZ_sub [2, 1, 0] rfl ?_
  refine zZ_cast (σ' := (fun _ : Nat => zst I J q) 0) (L' := (fun e : Nat => [(0, .ref h), (1, .long (groundB (I h 0) (J h 5) (I h 1) e)), (3, .int (iI (e : Int)))]) 0) rfl rfl rfl ?_
  refine zfor (67) (fun _ => True) (fun _ : Nat => zst I J q) (fun e : Nat => [(0, .ref h), (1, .long (groundB (I h 0) (J h 5) (I h 1) e)), (3, .int (iI (e : Int)))]) trivial ?_ ?_
  · intro e hee hpe kke
    refine z_iload_n C 2 rfl dX0_dogsGround_4 rfl ?_
    refine z_bipush C dX0_dogsGround_5 (by decide) ?_
    refine z_icmp_ge C 31 dX0_dogsGround_7 (by decide) (by omega) (by omega) (fun h7 => ?_) (fun h7 => ?_)
    · omega
    · refine z_aload_n C 0 rfl dX0_dogsGround_10 rfl ?_
      refine z_iload_n C 2 rfl dX0_dogsGround_11 rfl ?_
      refine y_callV1 C oX0_mayBeDogs iX0_mayBeDogs eX0_mayBeDogs lkX0_94 (c_X0_mayBeDogs hh hg (by first | assumption | omega)) (lay_h hh) (by decide) rfl rfl (by decide) (Nat.le_refl _) (Nat.le_refl _) (Nat.le_of_ble_eq_true rfl) dX0_dogsGround_12 ?_
      refine y_if_eqB C 25 dX0_dogsGround_15 (by decide) (fun h15 => ?_) (fun h15 => ?_)
      · obtain ⟨v1, ev1⟩ : ∃ y : Int, y = (e : Int) + 1 := ⟨_, rfl⟩
        refine z_iinc C 2 v1 [(3, .int (iI v1)), (0, .ref h), (1, .long ((groundB (I h 0) (J h 5) (I h 1) e)))] dX0_dogsGround_25 rfl ev1.symm (by decide) rfl ?_
        refine z_goto C 4 dX0_dogsGround_28 (by decide) ?_
        refine zZ_sub [1, 2, 0] rfl ?_
        refine zZ_cast rfl (zLk (zLj (by simp [groundB, h15, *]) (zLc (by omega) rfl))) rfl (kke trivial)
      · refine z_lload_n C 1 rfl dX0_dogsGround_18 rfl ?_
        refine z_iload_n C 2 rfl dX0_dogsGround_19 rfl ?_
        refine y_callN1 C (host := RX5) oX5_bitOf sX5_bitOf (List.mem_of_getElem? (i := 6) rfl) (c_X5_bitOf (by first | assumption | omega)) (by decide) (Nat.le_refl _) (Nat.le_refl _) (Nat.le_of_ble_eq_true rfl) dX0_dogsGround_20 ?_
        refine z_lor C dX0_dogsGround_23 ?_
        refine z_topL C (fun v2 ev2 => ?_)
        refine z_lstore_n C [(1, .long v2), (0, .ref h), (3, .int (iI ((e : Int))))] dX0_dogsGround_24 rfl (by decide) rfl ?_
        obtain ⟨v3, ev3⟩ : ∃ y : Int, y = (e : Int) + 1 := ⟨_, rfl⟩
        refine z_iinc C 2 v3 [(3, .int (iI v3)), (1, .long v2), (0, .ref h)] dX0_dogsGround_25 rfl ev3.symm (by decide) rfl ?_
        refine z_goto C 4 dX0_dogsGround_28 (by decide) ?_
        refine zZ_sub [2, 1, 0] rfl ?_
        refine zZ_cast rfl (zLk (zLj (by simp [groundB, h15, *]) (zLc (by omega) rfl))) rfl (kke trivial)
  · intro hpe
    refine z_iload_n C 2 rfl dX0_dogsGround_4 rfl ?_
    refine z_bipush C dX0_dogsGround_5 (by decide) ?_
    refine z_icmp_ge C 31 dX0_dogsGround_7 (by decide) (by omega) (by omega) (fun h7 => ?_) (fun h7 => ?_)
    · refine z_lload_n C 1 rfl dX0_dogsGround_31 rfl ?_
      exact zZ_lret C hR (Nat.le_refl _) (Nat.le_refl _) dX0_dogsGround_32 rfl (zIs_J rfl rfl)
    · omega
set_option maxHeartbeats 4000000 in
set_option maxRecDepth 100000 in
theorem c_X0_rowBits {g : zG} {I : Nat → Nat → Int} {J : Nat → Nat → Int64} {q : Nat × Nat} {i : Int}  : zRun g mX0_rowBits 0 [.int (iI i)] (zst I J q) (some (.long (lsh 255 (8 * i)))) (zst I J q) := by
  refine zRuns_intro rfl (Nat.le_of_ble_eq_true rfl) (fun X C hR => ?_)
  show zZ g X 0 0 _ 0 [(0, .int (iI i))] []
  refine z_ldc2 C 255 dX0_rowBits_0 kcX0_137 ?_
  refine z_bipush C dX0_rowBits_3 (by decide) ?_
  refine z_iload_n C 0 rfl dX0_rowBits_5 rfl ?_
  refine z_imul C dX0_rowBits_6 ?_
  refine z_lshl C dX0_rowBits_7 ?_
  exact zZ_lret C hR (Nat.le_refl _) (Nat.le_refl _) dX0_rowBits_8 rfl (zIs_J rfl rfl)
set_option maxHeartbeats 4000000 in
set_option maxRecDepth 100000 in
theorem c_X0_columnBits {g : zG} {I : Nat → Nat → Int} {J : Nat → Nat → Int64} {q : Nat × Nat} {i : Int}  : zRun g mX0_columnBits 0 [.int (iI i)] (zst I J q) (some (.long (lsh 72340172838076673 i))) (zst I J q) := by
  refine zRuns_intro rfl (Nat.le_of_ble_eq_true rfl) (fun X C hR => ?_)
  show zZ g X 0 0 _ 0 [(0, .int (iI i))] []
  refine z_ldc2 C 72340172838076673 dX0_columnBits_0 kcX0_139 ?_
  refine z_iload_n C 0 rfl dX0_columnBits_3 rfl ?_
  refine z_lshl C dX0_columnBits_4 ?_
  exact zZ_lret C hR (Nat.le_refl _) (Nat.le_refl _) dX0_columnBits_5 rfl (zIs_J rfl rfl)
set_option maxHeartbeats 4000000 in
set_option maxRecDepth 100000 in
theorem c_X0_spread {g : zG} {I : Nat → Nat → Int} {J : Nat → Nat → Int64} {q : Nat × Nat} {r gr : Int64}  : zRun g mX0_spread 0 [.long r, .long gr] (zst I J q) (some (.long (spreadN r gr))) (zst I J q) := by
  refine zRuns_intro rfl (Nat.le_of_ble_eq_true rfl) (fun X C hR => ?_)
  show zZ g X 0 0 _ 0 [(0, .long r), (2, .long gr)] []
  refine z_lload_n C 0 rfl dX0_spread_0 rfl ?_
  refine z_bipush C dX0_spread_1 (by decide) ?_
  refine z_lshl C dX0_spread_3 ?_
  refine z_lload_n C 0 rfl dX0_spread_4 rfl ?_
  refine z_bipush C dX0_spread_5 (by decide) ?_
  refine z_lushr C dX0_spread_7 ?_
  refine z_lor C dX0_spread_8 ?_
  refine z_lload_n C 0 rfl dX0_spread_9 rfl ?_
  refine z_iconst C dX0_spread_10 ?_
  refine z_lshl C dX0_spread_11 ?_
  refine z_lor C dX0_spread_12 ?_
  refine z_lload_n C 0 rfl dX0_spread_13 rfl ?_
  refine z_iconst C dX0_spread_14 ?_
  refine z_lushr C dX0_spread_15 ?_
  refine z_lor C dX0_spread_16 ?_
  refine z_topL C (fun bs ebs => ?_)
  refine z_lstore C [(4, .long bs), (0, .long r), (2, .long gr)] dX0_spread_17 (by decide) rfl ?_
  refine z_lload_n C 1 rfl dX0_spread_19 rfl ?_
  refine z_lload C 0 rfl dX0_spread_20 ?_
  refine z_lload_n C 2 rfl dX0_spread_22 rfl ?_
  refine z_land C dX0_spread_23 ?_
  refine z_lor C dX0_spread_24 ?_
  exact zZ_lret C hR (Nat.le_refl _) (Nat.le_refl _) dX0_spread_25 rfl (zIs_J (by subst ebs; rfl) rfl)
