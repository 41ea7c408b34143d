set_option maxHeartbeats 4000000 in
set_option maxRecDepth 100000 in
theorem c_X1_addRowsFrom {g : zG} {I : Nat → Nat → Int} {J : Nat → Nat → Int64} {q : Nat × Nat} {c : Nat} {A B : Nat → Int} (hqq : isQ q) (hg : gH I 1) (hc : c < 67) : zRun g mX1_addRowsFrom 4 [.ref 38, .ref 1, .int (iI ((c : Int)))] (zst (zR2 I q.1 q.2 A B) J q) (none) (zst (zR2 I q.1 q.2 A (arC (I 1 0) (J 1 5) (I 1 1) A c B 5)) J q) := by
  have hq1 := isQ_56 hqq
  have hne := isQ_ne hqq
  have z1 := fun B => zR2_n (I := I) (a := q.1) (b := q.2) (i := 1) (A := A) (B := B) (by omega) (by omega)
  have z2 := fun B => zR2_n (I := I) (a := q.1) (b := q.2) (i := 2) (A := A) (B := B) (by omega) (by omega)
  have z3 := fun B => zR2_n (I := I) (a := q.1) (b := q.2) (i := 3) (A := A) (B := B) (by omega) (by omega)
  refine zRuns_intro rfl (Nat.le_of_ble_eq_true rfl) (fun X C hR => ?_)
  show zZ g X 0 0 _ 0 [(0, .ref 38), (1, .ref 1), (2, .int (iI ((c : Int))))] []
  refine z_iconst C dX1_addRowsFrom_0 ?_
  refine z_istore_n C [(3, .int (iI 0)), (0, .ref 38), (1, .ref 1), (2, .int (iI ((c : Int))))] dX1_addRowsFrom_1 rfl (by decide) rfl ?_
  refine zZ_sub [1, 2, 3, 0] rfl ?_
  refine zZ_cast (σ' := (fun e : Nat => zst (zR2 I q.1 q.2 A (arC (I 1 0) (J 1 5) (I 1 1) A c B e)) J q) 0) (L' := (fun e : Nat => [(0, .ref 38), (1, .ref 1), (2, .int (iI ((c : Int)))), (3, .int (iI (e : Int)))]) 0) rfl rfl rfl ?_
  refine zfor (5) (fun _ => True) (fun e : Nat => zst (zR2 I q.1 q.2 A (arC (I 1 0) (J 1 5) (I 1 1) A c B e)) J q) (fun e : Nat => [(0, .ref 38), (1, .ref 1), (2, .int (iI ((c : Int)))), (3, .int (iI (e : Int)))]) trivial ?_ ?_
  · intro e hee hpe kke
    have hsh := shN_r e
    obtain ⟨Bk, hBk⟩ : ∃ Bk, Bk = arC (I 1 0) (J 1 5) (I 1 1) A c B e := ⟨_, rfl⟩
    rw [← hBk]
    have hgz : gH (zR2 I q.1 q.2 A Bk) 1 := gH_cong (z1 Bk) (z2 Bk) (z3 Bk) hg
    refine z_iload_n C 3 rfl dX1_addRowsFrom_2 rfl ?_
    refine z_iconst C dX1_addRowsFrom_3 ?_
    refine z_icmp_ge C 59 dX1_addRowsFrom_4 (by decide) (by omega) (by omega) (fun h4 => ?_) (fun h4 => ?_)
    · omega
    · refine z_iload_n C 2 rfl dX1_addRowsFrom_7 rfl ?_
      refine z_getsN C (k := 0) rfl (List.mem_of_getElem? (i := 4) rfl) rfl dX1_addRowsFrom_8 ?_
      refine z_iload_n C 3 rfl dX1_addRowsFrom_11 rfl ?_
      refine z_ialdS C (k := 0) rfl e (by omega) (show _ < 5 by omega) (by decide) dX1_addRowsFrom_12 ?_
      refine z_iadd C dX1_addRowsFrom_13 ?_
      refine z_topI C (fun nx enx => ?_)
      have enx : nx = (c : Int) + shN e := enx
      refine z_istore C [(4, .int (iI nx)), (0, .ref 38), (1, .ref 1), (2, .int (iI ((c : Int)))), (3, .int (iI ((e : Int))))] dX1_addRowsFrom_14 (by decide) rfl ?_
      refine z_iload C 0 rfl dX1_addRowsFrom_16 ?_
      refine z_if_lt C 53 dX1_addRowsFrom_18 (by decide) (by omega) (fun h18 => ?_) (fun h18 => ?_)
      · obtain ⟨v1, ev1⟩ : ∃ y : Int, y = (e : Int) + 1 := ⟨_, rfl⟩
        refine z_iinc C 4 v1 [(3, .int (iI v1)), (4, .int (iI nx)), (0, .ref 38), (1, .ref 1), (2, .int (iI ((c : Int))))] dX1_addRowsFrom_53 rfl ev1.symm (by decide) rfl ?_
        refine z_goto C 2 dX1_addRowsFrom_56 (by decide) ?_
        refine zZ_sub [2, 3, 4, 0] rfl ?_
        refine zZ_cast (by refine congrArg (fun I' => zst I' J q) ?_; simp only [arC]; rw [← hBk, ← enx, if_neg (by omega)]) (zLk (zLk (zLk (zLc (by omega) rfl)))) rfl (kke trivial)
      · refine z_iload C 0 rfl dX1_addRowsFrom_21 ?_
        refine z_bipush C dX1_addRowsFrom_23 (by decide) ?_
        refine z_icmp_ge C 53 dX1_addRowsFrom_25 (by decide) (by omega) (by omega) (fun h25 => ?_) (fun h25 => ?_)
        · obtain ⟨v2, ev2⟩ : ∃ y : Int, y = (e : Int) + 1 := ⟨_, rfl⟩
          refine z_iinc C 4 v2 [(3, .int (iI v2)), (4, .int (iI nx)), (0, .ref 38), (1, .ref 1), (2, .int (iI ((c : Int))))] dX1_addRowsFrom_53 rfl ev2.symm (by decide) rfl ?_
          refine z_goto C 2 dX1_addRowsFrom_56 (by decide) ?_
          refine zZ_sub [2, 3, 4, 0] rfl ?_
          refine zZ_cast (by refine congrArg (fun I' => zst I' J q) ?_; simp only [arC]; rw [← hBk, ← enx, if_neg (by omega)]) (zLk (zLk (zLk (zLc (by omega) rfl)))) rfl (kke trivial)
        · refine z_aload_n C 2 rfl dX1_addRowsFrom_28 rfl ?_
          refine z_iload_n C 3 rfl dX1_addRowsFrom_29 rfl ?_
          refine z_iload_n C 4 rfl dX1_addRowsFrom_30 rfl ?_
          refine y_callV2 C oX0_canDo iX0_canDo eX0_canDo lkX1_38 (c_X0_canDo isH_1 hgz (by first | assumption | omega) (by first | assumption | omega)) rfl (by decide) rfl rfl (by decide) (Nat.le_refl _) (Nat.le_refl _) (Nat.le_of_ble_eq_true rfl) dX1_addRowsFrom_31 ?_
          refine y_if_eqB C 53 dX1_addRowsFrom_34 (by decide) (fun h34 => ?_) (fun h34 => ?_)
          · obtain ⟨v3, ev3⟩ : ∃ y : Int, y = (e : Int) + 1 := ⟨_, rfl⟩
            refine z_iinc C 4 v3 [(3, .int (iI v3)), (4, .int (iI nx)), (0, .ref 38), (1, .ref 1), (2, .int (iI ((c : Int))))] dX1_addRowsFrom_53 rfl ev3.symm (by decide) rfl ?_
            refine z_goto C 2 dX1_addRowsFrom_56 (by decide) ?_
            refine zZ_sub [2, 3, 4, 0] rfl ?_
            refine zZ_cast (by refine congrArg (fun I' => zst I' J q) ?_; simp only [arC]; rw [← hBk, ← enx, if_neg (fun z => by rw [z1] at h34; rw [h34] at z; exact absurd z.2 (by decide))]) (zLk (zLk (zLk (zLc (by omega) rfl)))) rfl (kke trivial)
          · refine z_aload_n C 1 rfl dX1_addRowsFrom_37 rfl ?_
            refine y_getR C zCl1 5 flX1_32 rfl rfl rfl dX1_addRowsFrom_38 ?_
            refine z_iload C 0 rfl dX1_addRowsFrom_41 ?_
            refine z_dup2 C dX1_addRowsFrom_43 rfl rfl ?_
            refine y_iald C nx.toNat (by omega) (lay_q2 hqq) (by omega) (by decide) dX1_addRowsFrom_44 ?_
            refine z_aload_n C 1 rfl dX1_addRowsFrom_45 rfl ?_
            refine y_getR C zCl1 4 flX1_29 rfl rfl rfl dX1_addRowsFrom_46 ?_
            refine z_iload_n C 3 rfl dX1_addRowsFrom_49 rfl ?_
            refine y_iald C c rfl (lay_q1 hqq) (by omega) (by decide) dX1_addRowsFrom_50 ?_
            refine z_iadd C dX1_addRowsFrom_51 ?_
            refine y_iast C nx.toNat (by omega) (lay_q2 hqq) (by omega) (by decide) dX1_addRowsFrom_52 ?_
            obtain ⟨v4, ev4⟩ : ∃ y : Int, y = (e : Int) + 1 := ⟨_, rfl⟩
            refine z_iinc C 4 v4 [(3, .int (iI v4)), (4, .int (iI nx)), (0, .ref 38), (1, .ref 1), (2, .int (iI ((c : Int))))] dX1_addRowsFrom_53 rfl ev4.symm (by decide) rfl ?_
            refine z_goto C 2 dX1_addRowsFrom_56 (by decide) ?_
            refine zZ_sub [2, 3, 4, 0] rfl ?_
            refine zZ_cast (by refine congrArg (fun I' => zst I' J q) ?_; rw [zR2_pb hne, zR2_a, zR2_b hne]; rw [z1] at h34; simp only [arC]; rw [← hBk, ← enx, if_pos ⟨⟨by omega, by omega⟩, h34⟩]) (zLk (zLk (zLk (zLc (by omega) rfl)))) rfl (kke trivial)
  · intro hpe
    refine z_iload_n C 3 rfl dX1_addRowsFrom_2 rfl ?_
    refine z_iconst C dX1_addRowsFrom_3 ?_
    refine z_icmp_ge C 59 dX1_addRowsFrom_4 (by decide) (by omega) (by omega) (fun h4 => ?_) (fun h4 => ?_)
    · exact zZ_vret C hR (Nat.le_refl _) (Nat.le_refl _) dX1_addRowsFrom_59 rfl (zIs_V rfl)
    · omega
set_option maxHeartbeats 4000000 in
set_option maxRecDepth 100000 in
theorem c_X1_countRows {g : zG} {I : Nat → Nat → Int} {J : Nat → Nat → Int64} {q : Nat × Nat} {m : Int} (hqq : isQ q) (hg : gH I 1) (hq4 : gS I 4) (hm : 0 ≤ m ∧ m ≤ 6) : zRun g mX1_countRows 5 [.ref 38, .ref 1, .int (iI m)] (zst I J q) (some (.int (iI (waysN I J q m)))) (zst (zR2 I (swQ q m.toNat).1 (swQ q m.toNat).2 (waA (I 1 0) (J 1 5) (I 1 1) (I 4 0) (I q.1) (I q.2) m.toNat).1 (waA (I 1 0) (J 1 5) (I 1 1) (I 4 0) (I q.1) (I q.2) m.toNat).2) J (swQ q m.toNat)) := by
  obtain ⟨mn, hmn⟩ : ∃ n : Nat, m = n := ⟨m.toNat, by omega⟩
  have hmn2 : m.toNat = mn := by omega
  unfold waysN
  rw [hmn2]
  obtain ⟨k1, k2, k3⟩ := id hq4
  have k1 : 0 ≤ I 4 0 ∧ I 4 0 ≤ 66 := k1
  have hq1 := isQ_56 hqq
  have hne := isQ_ne hqq
  refine zRuns_intro rfl (Nat.le_of_ble_eq_true rfl) (fun X C hR => ?_)
  show zZ g X 0 0 _ 0 [(0, .ref 38), (1, .ref 1), (2, .int (iI m))] []
  refine z_iconst C dX1_countRows_0 ?_
  refine z_istore_n C [(3, .int (iI 0)), (0, .ref 38), (1, .ref 1), (2, .int (iI m))] dX1_countRows_1 rfl (by decide) rfl ?_
  refine zZ_sub [1, 2, 3, 0] rfl ?_
  refine zZ_cast (σ' := (fun e : Nat => zst (zR2 I q.1 q.2 (stA (I 4 0) (I q.1) e) (I q.2)) J q) 0) (L' := (fun e : Nat => [(0, .ref 38), (1, .ref 1), (2, .int (iI m)), (3, .int (iI (e : Int)))]) 0) (by simp only [stA]; rw [zR2_self]) rfl rfl ?_
  refine zfor (67) (fun _ => True) (fun e : Nat => zst (zR2 I q.1 q.2 (stA (I 4 0) (I q.1) e) (I q.2)) J q) (fun e : Nat => [(0, .ref 38), (1, .ref 1), (2, .int (iI m)), (3, .int (iI (e : Int)))]) trivial ?_ ?_
  · intro e hee hpe kke
    obtain ⟨A0, hA0⟩ : ∃ A0, A0 = stA (I 4 0) (I q.1) e := ⟨_, rfl⟩
    rw [← hA0]
    have zd : zR2 I q.1 q.2 A0 (I q.2) (1 + 3) 0 = I 4 0 := by rw [zR2_n (by omega) (by omega)]
    refine z_iload_n C 3 rfl dX1_countRows_2 rfl ?_
    refine z_bipush C dX1_countRows_3 (by decide) ?_
    refine z_icmp_ge C 36 dX1_countRows_5 (by decide) (by omega) (by omega) (fun h5 => ?_) (fun h5 => ?_)
    · omega
    · refine z_aload_n C 0 rfl dX1_countRows_8 rfl ?_
      refine y_getR C zCl1 4 flX1_29 rfl rfl rfl dX1_countRows_9 ?_
      refine z_iload_n C 3 rfl dX1_countRows_12 rfl ?_
      refine z_iload_n C 3 rfl dX1_countRows_13 rfl ?_
      refine z_aload_n C 1 rfl dX1_countRows_14 rfl ?_
      refine y_getR C zCl0 9 flX1_81 rfl rfl rfl dX1_countRows_15 ?_
      refine y_getI C zCl3 0 flX1_35 rfl rfl dX1_countRows_18 ?_
      refine z_icmp_ne C 28 dX1_countRows_21 (by decide) (by omega) (by omega) (fun h21 => ?_) (fun h21 => ?_)
      · refine z_iconst C dX1_countRows_28 ?_
        refine y_iast C e (by omega) (lay_q1 hqq) (by omega) (by decide) dX1_countRows_29 ?_
        obtain ⟨v1, ev1⟩ : ∃ y : Int, y = (e : Int) + 1 := ⟨_, rfl⟩
        refine z_iinc C 3 v1 [(3, .int (iI v1)), (0, .ref 38), (1, .ref 1), (2, .int (iI m))] dX1_countRows_30 rfl ev1.symm (by decide) rfl ?_
        refine z_goto C 2 dX1_countRows_33 (by decide) ?_
        refine zZ_sub [1, 2, 3, 0] rfl ?_
        refine zZ_cast (by refine congrArg (fun I' => zst I' J q) ?_; rw [zR2_pa]; simp only [stA]; rw [← hA0, if_neg (by omega)]) (zLk (zLk (zLk (zLc (by omega) rfl)))) rfl (kke trivial)
      · refine z_iconst C dX1_countRows_24 ?_
        refine z_goto C 29 dX1_countRows_25 (by decide) ?_
        refine y_iast C e (by omega) (lay_q1 hqq) (by omega) (by decide) dX1_countRows_29 ?_
        obtain ⟨v2, ev2⟩ : ∃ y : Int, y = (e : Int) + 1 := ⟨_, rfl⟩
        refine z_iinc C 3 v2 [(3, .int (iI v2)), (0, .ref 38), (1, .ref 1), (2, .int (iI m))] dX1_countRows_30 rfl ev2.symm (by decide) rfl ?_
        refine z_goto C 2 dX1_countRows_33 (by decide) ?_
        refine zZ_sub [1, 2, 3, 0] rfl ?_
        refine zZ_cast (by refine congrArg (fun I' => zst I' J q) ?_; rw [zR2_pa]; simp only [stA]; rw [← hA0, if_pos (by omega)]) (zLk (zLk (zLk (zLc (by omega) rfl)))) rfl (kke trivial)
  · intro hpe
    refine z_iload_n C 3 rfl dX1_countRows_2 rfl ?_
    refine z_bipush C dX1_countRows_3 (by decide) ?_
    refine z_icmp_ge C 36 dX1_countRows_5 (by decide) (by omega) (by omega) (fun h5 => ?_) (fun h5 => ?_)
    · refine z_iconst C dX1_countRows_36 ?_
      refine z_istore_n C [(3, .int (iI 0)), (0, .ref 38), (1, .ref 1), (2, .int (iI m))] dX1_countRows_37 rfl (by decide) rfl ?_
      refine zZ_sub [1, 2, 3, 0] rfl ?_
      refine zZ_cast (σ' := (fun e : Nat => zst (zR2 I (swQ q e).1 (swQ q e).2 (waA (I 1 0) (J 1 5) (I 1 1) (I 4 0) (I q.1) (I q.2) e).1 (waA (I 1 0) (J 1 5) (I 1 1) (I 4 0) (I q.1) (I q.2) e).2) J (swQ q e)) 0) (L' := (fun e : Nat => [(0, .ref 38), (1, .ref 1), (2, .int (iI m)), (3, .int (iI (e : Int)))]) 0) rfl rfl rfl ?_
      refine zfor (mn) (fun _ => True) (fun e : Nat => zst (zR2 I (swQ q e).1 (swQ q e).2 (waA (I 1 0) (J 1 5) (I 1 1) (I 4 0) (I q.1) (I q.2) e).1 (waA (I 1 0) (J 1 5) (I 1 1) (I 4 0) (I q.1) (I q.2) e).2) J (swQ q e)) (fun e : Nat => [(0, .ref 38), (1, .ref 1), (2, .int (iI m)), (3, .int (iI (e : Int)))]) trivial ?_ ?_
      · intro e hee hpe kke
        have hwr := waA_r (n := I 1 0) (w := J 1 5) (pen := I 1 1) (A := I q.1) (B := I q.2) k1 e (by omega)
        have hQ := swQ_is hqq e
        obtain ⟨Q, eQ⟩ : ∃ Q, Q = swQ q e := ⟨_, rfl⟩
        obtain ⟨A1, eA1⟩ : ∃ A1, A1 = (waA (I 1 0) (J 1 5) (I 1 1) (I 4 0) (I q.1) (I q.2) e).1 := ⟨_, rfl⟩
        obtain ⟨B0, eB0⟩ : ∃ B0, B0 = (waA (I 1 0) (J 1 5) (I 1 1) (I 4 0) (I q.1) (I q.2) e).2 := ⟨_, rfl⟩
        rw [← eQ] at hQ ⊢
        rw [← eA1] at hwr ⊢
        rw [← eB0]
        have hQ1 := isQ_56 hQ
        have hQne := isQ_ne hQ
        refine z_iload_n C 3 rfl dX1_countRows_38 rfl ?_
        refine z_iload_n C 2 rfl dX1_countRows_39 rfl ?_
        refine z_icmp_ge C 110 dX1_countRows_40 (by decide) (by omega) (by omega) (fun h40 => ?_) (fun h40 => ?_)
        · omega
        · refine z_aload_n C 0 rfl dX1_countRows_43 rfl ?_
          refine y_getR C zCl1 5 flX1_32 rfl rfl rfl dX1_countRows_44 ?_
          refine z_iconst C dX1_countRows_47 ?_
          refine y_callS2 C oJ7_fill_53178 sJ7_fill_53178 lkX1_85 (c_J7_fill_53178 (lay_q2 hQ) (by decide)) (by decide) (Nat.le_refl _) (Nat.le_refl _) (Nat.le_of_ble_eq_true rfl) dX1_countRows_48 ?_
          refine z_iconst C dX1_countRows_51 ?_
          refine z_istore C [(4, .int (iI 0)), (0, .ref 38), (1, .ref 1), (2, .int (iI m)), (3, .int (iI ((e : Int))))] dX1_countRows_52 (by decide) rfl ?_
          obtain ⟨B1, eB1⟩ : ∃ B1, B1 = fun k => if k < 67 then 0 else B0 k := ⟨_, rfl⟩
          rw [zR2_fb hQne, ← eB1]
          refine zZ_sub [1, 2, 3, 4, 0] rfl ?_
          refine zZ_cast (σ' := (fun c : Nat => zst (zR2 I Q.1 Q.2 A1 (arA (I 1 0) (J 1 5) (I 1 1) A1 B1 c)) J Q) 0) (L' := (fun e : Nat => [(0, .ref 38), (1, .ref 1), (2, .int (iI m)), (3, .int (iI ((e : Int)))), (4, .int (iI (c : Int)))]) 0) rfl rfl rfl ?_
          refine zfor (67) (fun _ => True) (fun c : Nat => zst (zR2 I Q.1 Q.2 A1 (arA (I 1 0) (J 1 5) (I 1 1) A1 B1 c)) J Q) (fun e : Nat => [(0, .ref 38), (1, .ref 1), (2, .int (iI m)), (3, .int (iI ((e : Int)))), (4, .int (iI (c : Int)))]) trivial ?_ ?_
          · intro c hec hpc kkc
            have hwc := hwr c (by omega)
            have zA : zR2 I Q.1 Q.2 A1 (arA (I 1 0) (J 1 5) (I 1 1) A1 B1 c) Q.1 c = A1 c := by rw [zR2_a]
            refine z_iload C 4 rfl dX1_countRows_54 ?_
            refine z_bipush C dX1_countRows_56 (by decide) ?_
            refine z_icmp_ge C 84 dX1_countRows_58 (by decide) (by omega) (by omega) (fun h58 => ?_) (fun h58 => ?_)
            · omega
            · refine z_aload_n C 0 rfl dX1_countRows_61 rfl ?_
              refine y_getR C zCl1 4 flX1_29 rfl rfl rfl dX1_countRows_62 ?_
              refine z_iload C 4 rfl dX1_countRows_65 ?_
              refine y_iald C c (by omega) (lay_q1 hQ) (by omega) (by decide) dX1_countRows_67 ?_
              refine z_if_le C 78 dX1_countRows_68 (by decide) (by omega) (fun h68 => ?_) (fun h68 => ?_)
              · obtain ⟨v3, ev3⟩ : ∃ y : Int, y = (c : Int) + 1 := ⟨_, rfl⟩
                refine z_iinc C 4 v3 [(4, .int (iI v3)), (0, .ref 38), (1, .ref 1), (2, .int (iI m)), (3, .int (iI ((e : Int))))] dX1_countRows_78 rfl ev3.symm (by decide) rfl ?_
                refine z_goto C 54 dX1_countRows_81 (by decide) ?_
                refine zZ_sub [1, 2, 3, 4, 0] rfl ?_
                refine zZ_cast (by refine congrArg (fun I' => zst I' J Q) (congrArg (zR2 I Q.1 Q.2 A1) ?_); simp only [arA]; rw [if_neg (by omega)]) (zLk (zLk (zLk (zLk (zLc (by omega) rfl))))) rfl (kkc trivial)
              · refine z_aload_n C 0 rfl dX1_countRows_71 rfl ?_
                refine z_aload_n C 1 rfl dX1_countRows_72 rfl ?_
                refine z_iload C 4 rfl dX1_countRows_73 ?_
                refine y_callV2 C oX1_addRowsFrom iX1_addRowsFrom eX1_addRowsFrom lkX1_91 (c_X1_addRowsFrom hQ hg (by first | assumption | omega)) rfl (by decide) rfl rfl (by decide) (Nat.le_refl _) (Nat.le_refl _) (Nat.le_of_ble_eq_true rfl) dX1_countRows_75 ?_
                obtain ⟨v4, ev4⟩ : ∃ y : Int, y = (c : Int) + 1 := ⟨_, rfl⟩
                refine z_iinc C 4 v4 [(4, .int (iI v4)), (0, .ref 38), (1, .ref 1), (2, .int (iI m)), (3, .int (iI ((e : Int))))] dX1_countRows_78 rfl ev4.symm (by decide) rfl ?_
                refine z_goto C 54 dX1_countRows_81 (by decide) ?_
                refine zZ_sub [1, 2, 3, 4, 0] rfl ?_
                refine zZ_cast (by refine congrArg (fun I' => zst I' J Q) (congrArg (zR2 I Q.1 Q.2 A1) ?_); simp only [arA]; rw [if_pos (by omega)]) (zLk (zLk (zLk (zLk (zLc (by omega) rfl))))) rfl (kkc trivial)
          · intro hpc
            refine z_iload C 4 rfl dX1_countRows_54 ?_
            refine z_bipush C dX1_countRows_56 (by decide) ?_
            refine z_icmp_ge C 84 dX1_countRows_58 (by decide) (by omega) (by omega) (fun h58 => ?_) (fun h58 => ?_)
            · refine z_aload_n C 0 rfl dX1_countRows_84 rfl ?_
              refine y_getR C zCl1 4 flX1_29 rfl rfl rfl dX1_countRows_85 ?_
              refine z_astore C [(4, .ref (Q.1)), (0, .ref 38), (1, .ref 1), (2, .int (iI m)), (3, .int (iI ((e : Int))))] dX1_countRows_88 (by decide) rfl ?_
              refine z_aload_n C 1 rfl dX1_countRows_90 rfl ?_
              refine z_aload_n C 1 rfl dX1_countRows_91 rfl ?_
              refine y_getR C zCl1 5 flX1_32 rfl rfl rfl dX1_countRows_92 ?_
              refine y_putRows4 C flX1_29 dX1_countRows_95 ?_
              refine z_aload_n C 1 rfl dX1_countRows_98 rfl ?_
              refine z_aload C 0 rfl dX1_countRows_99 ?_
              refine y_putRows5 C flX1_32 dX1_countRows_101 ?_
              obtain ⟨v5, ev5⟩ : ∃ y : Int, y = (e : Int) + 1 := ⟨_, rfl⟩
              refine z_iinc C 4 v5 [(3, .int (iI v5)), (4, .ref (Q.1)), (0, .ref 38), (1, .ref 1), (2, .int (iI m))] dX1_countRows_104 rfl ev5.symm (by decide) rfl ?_
              refine z_goto C 38 dX1_countRows_107 (by decide) ?_
              refine zZ_sub [2, 3, 4, 0] rfl ?_
              refine zZ_cast (by refine congr (congrArg (fun I' => zst I' J) ?_) ?_ <;> simp only [swQ, waA, ← eQ, ← eA1, ← eB0] <;> first | rfl | exact zR2_sw hQne) (zLk (zLk (zLk (zLc (by omega) rfl)))) rfl (kke trivial)
            · omega
      · intro hpe
        have hQ := swQ_is hqq mn
        obtain ⟨Q, eQ⟩ : ∃ Q, Q = swQ q mn := ⟨_, rfl⟩
        obtain ⟨A1, eA1⟩ : ∃ A1, A1 = (waA (I 1 0) (J 1 5) (I 1 1) (I 4 0) (I q.1) (I q.2) mn).1 := ⟨_, rfl⟩
        obtain ⟨B0, eB0⟩ : ∃ B0, B0 = (waA (I 1 0) (J 1 5) (I 1 1) (I 4 0) (I q.1) (I q.2) mn).2 := ⟨_, rfl⟩
        rw [← eQ] at hQ ⊢
        rw [← eA1, ← eB0]
        refine z_iload_n C 3 rfl dX1_countRows_38 rfl ?_
        refine z_iload_n C 2 rfl dX1_countRows_39 rfl ?_
        refine z_icmp_ge C 110 dX1_countRows_40 (by decide) (by omega) (by omega) (fun h40 => ?_) (fun h40 => ?_)
        · refine z_iconst C dX1_countRows_110 ?_
          refine z_istore_n C [(3, .int (iI 0)), (0, .ref 38), (1, .ref 1), (2, .int (iI m))] dX1_countRows_111 rfl (by decide) rfl ?_
          refine z_iconst C dX1_countRows_112 ?_
          refine z_istore C [(4, .int (iI 0)), (3, .int (iI 0)), (0, .ref 38), (1, .ref 1), (2, .int (iI m))] dX1_countRows_113 (by decide) rfl ?_
          refine zZ_sub [2, 1, 0] rfl ?_
          refine zZ_cast (σ' := (fun c : Nat => zst (zR2 I Q.1 Q.2 A1 B0) J Q) 0) (L' := (fun e : Nat => [(0, .ref 38), (3, .int (iI (sumN A1 c))), (4, .int (iI (c : Int)))]) 0) rfl rfl rfl ?_
          refine zfor (67) (fun _ => True) (fun c : Nat => zst (zR2 I Q.1 Q.2 A1 B0) J Q) (fun e : Nat => [(0, .ref 38), (3, .int (iI (sumN A1 c))), (4, .int (iI (c : Int)))]) trivial ?_ ?_
          · intro c hec hpc kkc
            refine z_iload C 2 rfl dX1_countRows_115 ?_
            refine z_bipush C dX1_countRows_117 (by decide) ?_
            refine z_icmp_ge C 138 dX1_countRows_119 (by decide) (by omega) (by omega) (fun h119 => ?_) (fun h119 => ?_)
            · omega
            · refine z_iload_n C 1 rfl dX1_countRows_122 rfl ?_
              refine z_aload_n C 0 rfl dX1_countRows_123 rfl ?_
              refine y_getR C zCl1 4 flX1_29 rfl rfl rfl dX1_countRows_124 ?_
              refine z_iload C 2 rfl dX1_countRows_127 ?_
              refine y_iald C c (by omega) (lay_q1 hQ) (by omega) (by decide) dX1_countRows_129 ?_
              refine z_iadd C dX1_countRows_130 ?_
              refine z_topI C (fun v6 ev6 => ?_)
              refine z_istore_n C [(3, .int (iI v6)), (0, .ref 38), (4, .int (iI ((c : Int))))] dX1_countRows_131 rfl (by decide) rfl ?_
              obtain ⟨v7, ev7⟩ : ∃ y : Int, y = (c : Int) + 1 := ⟨_, rfl⟩
              refine z_iinc C 2 v7 [(4, .int (iI v7)), (3, .int (iI v6)), (0, .ref 38)] dX1_countRows_132 rfl ev7.symm (by decide) rfl ?_
              refine z_goto C 115 dX1_countRows_135 (by decide) ?_
              refine zZ_sub [2, 1, 0] rfl ?_
              refine zZ_cast rfl (zLk (zLc (by rw [ev3, zR2_a]; rfl) (zLc (by omega) rfl))) rfl (kkc trivial)
          · intro hpc
            refine z_iload C 2 rfl dX1_countRows_115 ?_
            refine z_bipush C dX1_countRows_117 (by decide) ?_
            refine z_icmp_ge C 138 dX1_countRows_119 (by decide) (by omega) (by omega) (fun h119 => ?_) (fun h119 => ?_)
            · refine z_iload_n C 1 rfl dX1_countRows_138 rfl ?_
              exact zZ_iret C hR (Nat.le_refl _) (Nat.le_refl _) dX1_countRows_139 rfl (zIs_I (by rw [eA1]) (by rw [eQ, eA1, eB0]))
            · omega
        · omega
    · omega
set_option maxHeartbeats 4000000 in
set_option maxRecDepth 100000 in
theorem c_X5_fewest {g : zG} {I : Nat → Nat → Int} {J : Nat → Nat → Int64} {q : Nat × Nat} {m i : Int} (hg : gH I 1) (hq : gS I 4) (hl : gL I) (hm : -2147483648 ≤ m ∧ m ≤ 2147483647) (hi : -2147483648 ≤ i ∧ i ≤ 2147483647) : zRuns g mX5_fewest 15 0 0 [.ref 0, .int (iI m), .int (iI i)] (zst I J q) (zEx (some (.int (iI (uR (fFewest I J m i) (fewestN I J m i))))) (fun I2 : {I2 // frS I I2} => zst (uI I2.1 (fFewest I J m i) I2.1) J q)) := by
  obtain ⟨g1, g2, g3, g4, g5, g6⟩ := id hg
  obtain ⟨k1, k2, k3⟩ := id hq
  have k3 : ∀ e, e < 5 → 0 ≤ I 5 e ∧ I 5 e ≤ 66 := k3
  refine zRuns_intro rfl (Nat.le_of_ble_eq_true rfl) (fun X C hR => ?_)
  show zZ g X 0 0 _ 0 [(0, .ref 0), (1, .int (iI m)), (2, .int (iI i))] []
  refine z_iload_n C 1 rfl dX5_fewest_0 rfl ?_
  refine z_if_lt C 15 dX5_fewest_1 (by decide) (by omega) (fun h1 => ?_) (fun h1 => ?_)
  · refine z_aload_n C 0 rfl dX5_fewest_15 rfl ?_
    refine z_bipush C dX5_fewest_16 (by decide) ?_
    refine y_callV1 C oX5_refuse iX5_refuse eX5_refuse lkX5_59 (c_X5_refuse (by first | assumption | omega)) rfl (by decide) rfl rfl (by decide) (Nat.le_refl _) (Nat.le_refl _) (Nat.le_of_ble_eq_true rfl) dX5_fewest_18 ?_
    exact zZ_iret C hR (Nat.le_refl _) (Nat.le_refl _) dX5_fewest_21 rfl (zEx_I (uRc (show fFewest I J m i = -2 by unfold fFewest; rw [if_pos (by omega)]) (by decide)).symm ⟨I, frS_rf⟩ (by rw [uIc (show fFewest I J m i = -2 by unfold fFewest; rw [if_pos (by omega)]) (by decide)]))
  · refine z_iload_n C 1 rfl dX5_fewest_4 rfl ?_
    refine z_bipush C dX5_fewest_5 (by decide) ?_
    refine z_icmp_gt C 15 dX5_fewest_7 (by decide) (by omega) (by omega) (fun h7 => ?_) (fun h7 => ?_)
    · refine z_aload_n C 0 rfl dX5_fewest_15 rfl ?_
      refine z_bipush C dX5_fewest_16 (by decide) ?_
      refine y_callV1 C oX5_refuse iX5_refuse eX5_refuse lkX5_59 (c_X5_refuse (by first | assumption | omega)) rfl (by decide) rfl rfl (by decide) (Nat.le_refl _) (Nat.le_refl _) (Nat.le_of_ble_eq_true rfl) dX5_fewest_18 ?_
      exact zZ_iret C hR (Nat.le_refl _) (Nat.le_refl _) dX5_fewest_21 rfl (zEx_I (uRc (show fFewest I J m i = -2 by unfold fFewest; rw [if_pos (by omega)]) (by decide)).symm ⟨I, frS_rf⟩ (by rw [uIc (show fFewest I J m i = -2 by unfold fFewest; rw [if_pos (by omega)]) (by decide)]))
    · refine z_iload_n C 2 rfl dX5_fewest_10 rfl ?_
      refine z_iconst C dX5_fewest_11 ?_
      refine z_icmp_ge C 22 dX5_fewest_12 (by decide) (by omega) (by omega) (fun h12 => ?_) (fun h12 => ?_)
      · refine z_iconst C dX5_fewest_22 ?_
        refine z_istore_n C [(3, .int (iI 0)), (0, .ref 0), (1, .int (iI m)), (2, .int (iI i))] dX5_fewest_23 rfl (by decide) rfl ?_
        refine z_aload_n C 1 rfl dX5_fewest_24 rfl ?_
        refine y_getR C zCl5 7 flX5_51 rfl rfl rfl dX5_fewest_25 ?_
        refine y_getR C zCl1 0 flX5_187 rfl rfl rfl dX5_fewest_28 ?_
        refine z_iconst C dX5_fewest_31 ?_
        refine y_aald C 0 11 (by decide) rfl rfl (by decide) (by decide) rfl dX5_fewest_32 ?_
        refine z_aload_n C 1 rfl dX5_fewest_33 rfl ?_
        refine y_getR C zCl5 0 flX5_10 rfl rfl rfl dX5_fewest_34 ?_
        refine y_getR C zCl0 9 flX5_118 rfl rfl rfl dX5_fewest_37 ?_
        refine y_callV1 C oX3_setTo iX3_setTo eX3_setTo lkX5_191 (c_X3_setTo isS_40 isS_4) rfl (by decide) rfl rfl (by decide) (Nat.le_refl _) (Nat.le_refl _) (Nat.le_of_ble_eq_true rfl) dX5_fewest_40 ?_
        refine zZ_cast (σ' := zst (zSq I 40 (spOf I 4)) J q) rfl rfl rfl ?_
        have hm2 : m.toNat + 1 = m.toNat + 1 := rfl
        refine zZ_sub [1, 2, 3, 0] rfl ?_
        refine zZ_cast (σ' := (fun (_ : Nat) (I' : Nat → Nat → Int) => zst I' J q) 0 (zSq I 40 (spOf I 4))) (L' := (fun (e : Nat) (I' : Nat → Nat → Int) => [(0, .ref 0), (1, .int (iI m)), (2, .int (iI i)), (3, .int (iI (e : Int)))]) 0 (zSq I 40 (spOf I 4))) rfl rfl rfl ?_
        refine zforE ((m.toNat + 1)) (fun e I' => frB (zSq I 40 (spOf I 4)) I' 0 ∧ firstN (fewP (hv I J 1) (spOf I 4)) e = none) (fun (_ : Nat) (I' : Nat → Nat → Int) => zst I' J q) (fun (e : Nat) (I' : Nat → Nat → Int) => [(0, .ref 0), (1, .int (iI m)), (2, .int (iI i)), (3, .int (iI (e : Int)))]) (zSq I 40 (spOf I 4)) ⟨frB_rf, rfl⟩ ?_ ?_
        · intro e I' hee hpe kke
          refine z_iload_n C 3 rfl dX5_fewest_43 rfl ?_
          refine z_iload_n C 1 rfl dX5_fewest_44 rfl ?_
          refine z_icmp_gt C 70 dX5_fewest_45 (by decide) (by omega) (by omega) (fun h45 => ?_) (fun h45 => ?_)
          · omega
          · refine z_aload_n C 0 rfl dX5_fewest_48 rfl ?_
            refine y_getR C zCl5 7 flX5_51 rfl rfl rfl dX5_fewest_49 ?_
            refine z_aload_n C 0 rfl dX5_fewest_52 rfl ?_
            refine y_getR C zCl5 0 flX5_10 rfl rfl rfl dX5_fewest_53 ?_
            refine z_iconst C dX5_fewest_56 ?_
            refine z_iload_n C 3 rfl dX5_fewest_57 rfl ?_
            have hfr := hpe.1
            have hK := c_X1_bringsAll (g := g) (J := J) (q := q) e 0 I' (by omega) (frB_gH hfr (gH_sp isH_1 isS_40 hg)) (frB_gS hfr (by omega) (gS_of (gP_of hq)))
            rw [frB_hv (J := J) hfr, show hv (zSq I 40 (spOf I 4)) J 1 = hv I J 1 from hv_sp isH_1 isS_40, frB_sp hfr (by omega), show spOf (zSq I 40 (spOf I 4)) (40 + 2 * 0) = spOf I 4 from spOf_sq, show ((0 + e : Nat) : Int) = (e : Int) by omega] at hK
            refine zZ_callN (host := RX5) (as := [.ref 38, .ref 1, .int (iI 0), .int (iI (e : Int))]) C oX1_bringsAll sX1_bringsAll (List.mem_of_getElem? (i := 8) rfl) hK rfl (by omega) (Nat.le_refl _) (Nat.le_refl _) (Nat.le_of_ble_eq_true rfl) dX5_fewest_58 (fun r1 σ1 h => ?_)
            obtain ⟨I2, rfl, rfl, hf2, hl2⟩ := h
            have hf3 : frB (zSq I 40 (spOf I 4)) I2 0 := frB_tr (Nat.le_refl 0) hfr hf2
            refine y_if_neB C 70 dX5_fewest_61 (by decide) (fun h61 => ?_) (fun h61 => ?_)
            · have hO : fewO (hv I J 1) (spOf I 4) m = some e := by unfold fewO; rw [hm2]; exact firstN_some (by omega) hpe.2 h61
              refine z_iload_n C 3 rfl dX5_fewest_70 rfl ?_
              refine z_iload_n C 1 rfl dX5_fewest_71 rfl ?_
              refine z_icmp_gt C 79 dX5_fewest_72 (by decide) (by omega) (by omega) (fun h72 => ?_) (fun h72 => ?_)
              · omega
              · refine z_iconst C dX5_fewest_75 ?_
                refine z_goto C 80 dX5_fewest_76 (by decide) ?_
                refine z_istore C [(4, .int (iI 1)), (0, .ref 0), (1, .int (iI m)), (2, .int (iI i)), (3, .int (iI ((e : Int))))] dX5_fewest_80 (by decide) rfl ?_
                refine z_iload_n C 3 rfl dX5_fewest_82 rfl ?_
                refine z_iconst C dX5_fewest_83 ?_
                refine z_icmp_ne C 98 dX5_fewest_84 (by decide) (by omega) (by omega) (fun h84 => ?_) (fun h84 => ?_)
                · refine z_iload C 0 rfl dX5_fewest_98 ?_
                  refine z_if_eq C 108 dX5_fewest_100 (by decide) (by omega) (fun h100 => ?_) (fun h100 => ?_)
                  · exact absurd h100 (by decide)
                  · refine z_iload_n C 3 rfl dX5_fewest_103 rfl ?_
                    refine z_iload_n C 4 rfl dX5_fewest_104 rfl ?_
                    refine z_icmp_lt C 115 dX5_fewest_105 (by decide) (by omega) (by omega) (fun h105 => ?_) (fun h105 => ?_)
                    · refine z_aload_n C 1 rfl dX5_fewest_115 rfl ?_
                      refine y_getR C zCl5 7 flX5_51 rfl rfl rfl dX5_fewest_116 ?_
                      refine y_getR C zCl1 1 flX5_198 rfl rfl rfl dX5_fewest_119 ?_
                      refine z_iload_n C 3 rfl dX5_fewest_122 rfl ?_
                      refine y_iald C i.toNat (by omega) rfl (by omega) (by decide) dX5_fewest_123 ?_
                      exact zZ_iret C hR (Nat.le_refl _) (Nat.le_refl _) dX5_fewest_124 rfl (zEx_I (by rw [uR0 (show fFewest I J m i = 0 by unfold fFewest; rw [if_neg (by omega), if_neg (by omega), hO]; exact if_pos (by omega))]; unfold fewestN; rw [if_neg (by omega), hO]; obtain ⟨l, hl3⟩ := Option.isSome_iff_exists.mp h61; have hln := brP_len e _ l hl3; simp only [hl3, Option.getD_some]; have := hl2 l hl3 i.toNat (by omega); rw [Nat.zero_add] at this; exact this) ⟨I2, frS_few hf3⟩ (by rw [uI0 (show fFewest I J m i = 0 by unfold fFewest; rw [if_neg (by omega), if_neg (by omega), hO]; exact if_pos (by omega))]))
                    · refine z_aload_n C 1 rfl dX5_fewest_108 rfl ?_
                      refine z_bipush C dX5_fewest_109 (by decide) ?_
                      refine y_callV1 C oX5_refuse iX5_refuse eX5_refuse lkX5_59 (c_X5_refuse (by first | assumption | omega)) rfl (by decide) rfl rfl (by decide) (Nat.le_refl _) (Nat.le_refl _) (Nat.le_of_ble_eq_true rfl) dX5_fewest_111 ?_
                      exact zZ_iret C hR (Nat.le_refl _) (Nat.le_refl _) dX5_fewest_114 rfl (zEx_I (uRc (show fFewest I J m i = -5 by unfold fFewest; rw [if_neg (by omega), if_neg (by omega), hO]; exact if_neg (by omega)) (by decide)).symm ⟨I2, frS_few hf3⟩ (by rw [uIc (show fFewest I J m i = -5 by unfold fFewest; rw [if_neg (by omega), if_neg (by omega), hO]; exact if_neg (by omega)) (by decide)]))
                · refine z_iload C 0 rfl dX5_fewest_87 ?_
                  refine z_if_eq C 96 dX5_fewest_89 (by decide) (by omega) (fun h89 => ?_) (fun h89 => ?_)
                  · exact absurd h89 (by decide)
                  · refine z_iload_n C 4 rfl dX5_fewest_92 rfl ?_
                    refine z_goto C 97 dX5_fewest_93 (by decide) ?_
                    exact zZ_iret C hR (Nat.le_refl _) (Nat.le_refl _) dX5_fewest_97 rfl (zEx_I (by rw [uR0 (show fFewest I J m i = 0 by unfold fFewest; rw [if_neg (by omega), if_pos (by omega)])]; unfold fewestN; rw [if_pos (by omega), hO]) ⟨I2, frS_few hf3⟩ (by rw [uI0 (show fFewest I J m i = 0 by unfold fFewest; rw [if_neg (by omega), if_pos (by omega)])]))
            · obtain ⟨v1, ev1⟩ : ∃ y : Int, y = (e : Int) + 1 := ⟨_, rfl⟩
              refine z_iinc C 3 v1 [(3, .int (iI v1)), (0, .ref 0), (1, .int (iI m)), (2, .int (iI i))] dX5_fewest_64 rfl ev1.symm (by decide) rfl ?_
              refine z_goto C 43 dX5_fewest_67 (by decide) ?_
              refine zZ_sub [1, 2, 3, 0] rfl ?_
              refine zZ_cast rfl (zLk (zLk (zLk (zLc (by omega) rfl)))) rfl (kke I2 ⟨hf3, by simp only [firstN]; rw [hpe.2]; exact if_neg (by rw [show fewP (hv I J 1) (spOf I 4) e = false from h61]; decide)⟩)
        · intro I' hpe
          refine z_iload_n C 3 rfl dX5_fewest_43 rfl ?_
          refine z_iload_n C 1 rfl dX5_fewest_44 rfl ?_
          refine z_icmp_gt C 70 dX5_fewest_45 (by decide) (by omega) (by omega) (fun h45 => ?_) (fun h45 => ?_)
          · have hO : fewO (hv I J 1) (spOf I 4) m = none := by unfold fewO; rw [hm2]; exact hpe.2
            refine z_iload_n C 3 rfl dX5_fewest_70 rfl ?_
            refine z_iload_n C 1 rfl dX5_fewest_71 rfl ?_
            refine z_icmp_gt C 79 dX5_fewest_72 (by decide) (by omega) (by omega) (fun h72 => ?_) (fun h72 => ?_)
            · refine z_iconst C dX5_fewest_79 ?_
              refine z_istore C [(4, .int (iI 0)), (0, .ref 0), (1, .int (iI m)), (2, .int (iI i)), (3, .int (iI (((m.toNat + 1 : Nat) : Int))))] dX5_fewest_80 (by decide) rfl ?_
              refine z_iload_n C 3 rfl dX5_fewest_82 rfl ?_
              refine z_iconst C dX5_fewest_83 ?_
              refine z_icmp_ne C 98 dX5_fewest_84 (by decide) (by omega) (by omega) (fun h84 => ?_) (fun h84 => ?_)
              · refine z_iload C 0 rfl dX5_fewest_98 ?_
                refine z_if_eq C 108 dX5_fewest_100 (by decide) (by omega) (fun h100 => ?_) (fun h100 => ?_)
                · refine z_aload_n C 1 rfl dX5_fewest_108 rfl ?_
                  refine z_bipush C dX5_fewest_109 (by decide) ?_
                  refine y_callV1 C oX5_refuse iX5_refuse eX5_refuse lkX5_59 (c_X5_refuse (by first | assumption | omega)) rfl (by decide) rfl rfl (by decide) (Nat.le_refl _) (Nat.le_refl _) (Nat.le_of_ble_eq_true rfl) dX5_fewest_111 ?_
                  exact zZ_iret C hR (Nat.le_refl _) (Nat.le_refl _) dX5_fewest_114 rfl (zEx_I (uRc (show fFewest I J m i = -5 by unfold fFewest; rw [if_neg (by omega), if_neg (by omega), hO]) (by decide)).symm ⟨I', frS_few hpe.1⟩ (by rw [uIc (show fFewest I J m i = -5 by unfold fFewest; rw [if_neg (by omega), if_neg (by omega), hO]) (by decide)]))
                · exact absurd rfl h100
              · refine z_iload C 0 rfl dX5_fewest_87 ?_
                refine z_if_eq C 96 dX5_fewest_89 (by decide) (by omega) (fun h89 => ?_) (fun h89 => ?_)
                · refine z_iconst C dX5_fewest_96 ?_
                  exact zZ_iret C hR (Nat.le_refl _) (Nat.le_refl _) dX5_fewest_97 rfl (zEx_I (by rw [uR0 (show fFewest I J m i = 0 by unfold fFewest; rw [if_neg (by omega), if_pos (by omega)])]; unfold fewestN; rw [if_pos (by omega), hO]) ⟨I', frS_few hpe.1⟩ (by rw [uI0 (show fFewest I J m i = 0 by unfold fFewest; rw [if_neg (by omega), if_pos (by omega)])]))
                · exact absurd rfl h89
            · omega
          · omega
      · refine z_aload_n C 0 rfl dX5_fewest_15 rfl ?_
        refine z_bipush C dX5_fewest_16 (by decide) ?_
        refine y_callV1 C oX5_refuse iX5_refuse eX5_refuse lkX5_59 (c_X5_refuse (by first | assumption | omega)) rfl (by decide) rfl rfl (by decide) (Nat.le_refl _) (Nat.le_refl _) (Nat.le_of_ble_eq_true rfl) dX5_fewest_18 ?_
        exact zZ_iret C hR (Nat.le_refl _) (Nat.le_refl _) dX5_fewest_21 rfl (zEx_I (uRc (show fFewest I J m i = -2 by unfold fFewest; rw [if_pos (by omega)]) (by decide)).symm ⟨I, frS_rf⟩ (by rw [uIc (show fFewest I J m i = -2 by unfold fFewest; rw [if_pos (by omega)]) (by decide)]))
set_option maxHeartbeats 4000000 in
set_option maxRecDepth 100000 in
theorem c_X5_ways {g : zG} {I : Nat → Nat → Int} {J : Nat → Nat → Int64} {q : Nat × Nat} {m : Int} (hqq : isQ q) (hg : gH I 1) (hq : gS I 4) (hl : gL I) (hm : -2147483648 ≤ m ∧ m ≤ 2147483647) : zRun g mX5_ways 6 [.ref 0, .int (iI m)] (zst I J q) (some (.int (iI (uR (fWays m) (waysN I J q m))))) (if fWays m = 0 then zst (zR2 I (swQ q m.toNat).1 (swQ q m.toNat).2 (waA (I 1 0) (J 1 5) (I 1 1) (I 4 0) (I q.1) (I q.2) m.toNat).1 (waA (I 1 0) (J 1 5) (I 1 1) (I 4 0) (I q.1) (I q.2) m.toNat).2) J (swQ q m.toNat) else zst (refI I (-2)) J q) := by
  refine zRuns_intro rfl (Nat.le_of_ble_eq_true rfl) (fun X C hR => ?_)
  show zZ g X 0 0 _ 0 [(0, .ref 0), (1, .int (iI m))] []
  refine z_iload_n C 1 rfl dX5_ways_0 rfl ?_
  refine z_if_lt C 10 dX5_ways_1 (by decide) (by omega) (fun h1 => ?_) (fun h1 => ?_)
  · refine z_aload_n C 0 rfl dX5_ways_10 rfl ?_
    refine z_bipush C dX5_ways_11 (by decide) ?_
    refine y_callV1 C oX5_refuse iX5_refuse eX5_refuse lkX5_59 (c_X5_refuse (by first | assumption | omega)) rfl (by decide) rfl rfl (by decide) (Nat.le_refl _) (Nat.le_refl _) (Nat.le_of_ble_eq_true rfl) dX5_ways_13 ?_
    exact zZ_iret C hR (Nat.le_refl _) (Nat.le_refl _) dX5_ways_16 rfl (zIs_I (uRc (show fWays m = -2 by unfold fWays; rw [if_neg (by omega)]) (by decide)).symm (by rw [if_neg (show ¬ fWays m = 0 by unfold fWays; rw [if_neg (by omega)]; decide)]))
  · refine z_iload_n C 1 rfl dX5_ways_4 rfl ?_
    refine z_bipush C dX5_ways_5 (by decide) ?_
    refine z_icmp_le C 17 dX5_ways_7 (by decide) (by omega) (by omega) (fun h7 => ?_) (fun h7 => ?_)
    · refine z_aload_n C 0 rfl dX5_ways_17 rfl ?_
      refine y_getR C zCl5 7 flX5_51 rfl rfl rfl dX5_ways_18 ?_
      refine z_aload_n C 0 rfl dX5_ways_21 rfl ?_
      refine y_getR C zCl5 0 flX5_10 rfl rfl rfl dX5_ways_22 ?_
      refine z_iload_n C 1 rfl dX5_ways_25 rfl ?_
      refine y_callV2 C oX1_countRows iX1_countRows eX1_countRows lkX5_290 (c_X1_countRows hqq hg hq (by first | assumption | omega)) rfl (by decide) rfl rfl (by decide) (Nat.le_refl _) (Nat.le_refl _) (Nat.le_of_ble_eq_true rfl) dX5_ways_26 ?_
      exact zZ_iret C hR (Nat.le_refl _) (Nat.le_refl _) dX5_ways_29 rfl (zIs_I (uR0 (show fWays m = 0 by unfold fWays; rw [if_pos (by omega)])).symm (by rw [if_pos (show fWays m = 0 by unfold fWays; rw [if_pos (by omega)])]))
    · refine z_aload_n C 0 rfl dX5_ways_10 rfl ?_
      refine z_bipush C dX5_ways_11 (by decide) ?_
      refine y_callV1 C oX5_refuse iX5_refuse eX5_refuse lkX5_59 (c_X5_refuse (by first | assumption | omega)) rfl (by decide) rfl rfl (by decide) (Nat.le_refl _) (Nat.le_refl _) (Nat.le_of_ble_eq_true rfl) dX5_ways_13 ?_
      exact zZ_iret C hR (Nat.le_refl _) (Nat.le_refl _) dX5_ways_16 rfl (zIs_I (uRc (show fWays m = -2 by unfold fWays; rw [if_neg (by omega)]) (by decide)).symm (by rw [if_neg (show ¬ fWays m = 0 by unfold fWays; rw [if_neg (by omega)]; decide)]))
