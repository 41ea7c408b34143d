set_option maxHeartbeats 4000000 in
set_option maxRecDepth 100000 in
theorem c_X1_countRows {g : zG} {I : Nat → Nat → Int} {J : Nat → Nat → Int64} {q : Nat × Nat} {m : Int} (hqq : isQ q) (hg : gH I 1) (hq4 : gS I 4) (hm : 0 ≤ m ∧ m ≤ 6) : zRun g mX1_countRows 5 [.ref 38, .ref 1, .int (iI m)] (zst I J q) (some (.int (iI (waysN I J q m)))) (zst (zR2 I (swQ q m.toNat).1 (swQ q m.toNat).2 (waA (I 1 0) (J 1 5) (I 1 1) (I 4 0) (I q.1) (I q.2) m.toNat).1 (waA (I 1 0) (J 1 5) (I 1 1) (I 4 0) (I q.1) (I q.2) m.toNat).2) J (swQ q m.toNat)) := by
  obtain ⟨mn, hmn⟩ : ∃ n : Nat, m = n := ⟨m.toNat, by omega⟩
  have hmn2 : m.toNat = mn := by omega
  unfold waysN
  rw [hmn2]
  obtain ⟨k1, k2, k3⟩ := id hq4
  have k1 : 0 ≤ I 4 0 ∧ I 4 0 ≤ 66 := k1
  have hq1 := isQ_56 hqq
  have hne := isQ_ne hqq
  refine zRuns_intro rfl (Nat.le_of_ble_eq_true rfl) (fun X C hR => ?_)
  show zZ g X 0 0 _ 0 [(0, .ref 38), (1, .ref 1), (2, .int (iI m))] []
  refine z_iconst C dX1_countRows_0 ?_
  refine z_istore_n C [(3, .int (iI 0)), (0, .ref 38), (1, .ref 1), (2, .int (iI m))] dX1_countRows_1 rfl (by decide) rfl ?_
  refine zZ_sub [1, 2, 3, 0] rfl ?_
  refine zZ_cast (σ' := (fun e : Nat => zst (zR2 I q.1 q.2 (stA (I 4 0) (I q.1) e) (I q.2)) J q) 0) (L' := (fun e : Nat => [(0, .ref 38), (1, .ref 1), (2, .int (iI m)), (3, .int (iI (e : Int)))]) 0) (by simp only [stA]; rw [zR2_self]) rfl rfl ?_
  refine zfor (67) (fun _ => True) (fun e : Nat => zst (zR2 I q.1 q.2 (stA (I 4 0) (I q.1) e) (I q.2)) J q) (fun e : Nat => [(0, .ref 38), (1, .ref 1), (2, .int (iI m)), (3, .int (iI (e : Int)))]) trivial ?_ ?_
  · intro e hee hpe kke
    obtain ⟨A0, hA0⟩ : ∃ A0, A0 = stA (I 4 0) (I q.1) e := ⟨_, rfl⟩
    rw [← hA0]
    have zd : zR2 I q.1 q.2 A0 (I q.2) (1 + 3) 0 = I 4 0 := by rw [zR2_n (by omega) (by omega)]
    refine z_iload_n C 3 rfl dX1_countRows_2 rfl ?_
    refine z_bipush C dX1_countRows_3 (by decide) ?_
    refine z_icmp_ge C 36 dX1_countRows_5 (by decide) (by omega) (by omega) (fun h5 => ?_) (fun h5 => ?_)
    · omega
    · refine z_aload_n C 0 rfl dX1_countRows_8 rfl ?_
      refine y_getR C zCl1 4 flX1_29 rfl rfl rfl dX1_countRows_9 ?_
      refine z_iload_n C 3 rfl dX1_countRows_12 rfl ?_
      refine z_iload_n C 3 rfl dX1_countRows_13 rfl ?_
      refine z_aload_n C 1 rfl dX1_countRows_14 rfl ?_
      refine y_getR C zCl0 9 flX1_81 rfl rfl rfl dX1_countRows_15 ?_
      refine y_getI C zCl3 0 flX1_35 rfl rfl dX1_countRows_18 ?_
      refine z_icmp_ne C 28 dX1_countRows_21 (by decide) (by omega) (by omega) (fun h21 => ?_) (fun h21 => ?_)
      · refine z_iconst C dX1_countRows_28 ?_
        refine y_iast C e (by omega) (lay_q1 hqq) (by omega) (by decide) dX1_countRows_29 ?_
        obtain ⟨v1, ev1⟩ : ∃ y : Int, y = (e : Int) + 1 := ⟨_, rfl⟩
        refine z_iinc C 3 v1 [(3, .int (iI v1)), (0, .ref 38), (1, .ref 1), (2, .int (iI m))] dX1_countRows_30 rfl ev1.symm (by decide) rfl ?_
        refine z_goto C 2 dX1_countRows_33 (by decide) ?_
        refine zZ_sub [1, 2, 3, 0] rfl ?_
        refine zZ_cast (by refine congrArg (fun I' => zst I' J q) ?_; rw [zR2_pa]; simp only [stA]; rw [← hA0, if_neg (by omega)]) (zLk (zLk (zLk (zLc (by omega) rfl)))) rfl (kke trivial)
      · refine z_iconst C dX1_countRows_24 ?_
        refine z_goto C 29 dX1_countRows_25 (by decide) ?_
        refine y_iast C e (by omega) (lay_q1 hqq) (by omega) (by decide) dX1_countRows_29 ?_
        obtain ⟨v2, ev2⟩ : ∃ y : Int, y = (e : Int) + 1 := ⟨_, rfl⟩
        refine z_iinc C 3 v2 [(3, .int (iI v2)), (0, .ref 38), (1, .ref 1), (2, .int (iI m))] dX1_countRows_30 rfl ev2.symm (by decide) rfl ?_
        refine z_goto C 2 dX1_countRows_33 (by decide) ?_
        refine zZ_sub [1, 2, 3, 0] rfl ?_
        refine zZ_cast (by refine congrArg (fun I' => zst I' J q) ?_; rw [zR2_pa]; simp only [stA]; rw [← hA0, if_pos (by omega)]) (zLk (zLk (zLk (zLc (by omega) rfl)))) rfl (kke trivial)
  · intro hpe
    refine z_iload_n C 3 rfl dX1_countRows_2 rfl ?_
    refine z_bipush C dX1_countRows_3 (by decide) ?_
    refine z_icmp_ge C 36 dX1_countRows_5 (by decide) (by omega) (by omega) (fun h5 => ?_) (fun h5 => ?_)
    · refine z_iconst C dX1_countRows_36 ?_
      refine z_istore_n C [(3, .int (iI 0)), (0, .ref 38), (1, .ref 1), (2, .int (iI m))] dX1_countRows_37 rfl (by decide) rfl ?_
      refine zZ_sub [1, 2, 3, 0] rfl ?_
      refine zZ_cast (σ' := (fun e : Nat => zst (zR2 I (swQ q e).1 (swQ q e).2 (waA (I 1 0) (J 1 5) (I 1 1) (I 4 0) (I q.1) (I q.2) e).1 (waA (I 1 0) (J 1 5) (I 1 1) (I 4 0) (I q.1) (I q.2) e).2) J (swQ q e)) 0) (L' := (fun e : Nat => [(0, .ref 38), (1, .ref 1), (2, .int (iI m)), (3, .int (iI (e : Int)))]) 0) (by simp only [waA, swQ]) rfl rfl ?_
      refine zfor (mn) (fun _ => True) (fun e : Nat => zst (zR2 I (swQ q e).1 (swQ q e).2 (waA (I 1 0) (J 1 5) (I 1 1) (I 4 0) (I q.1) (I q.2) e).1 (waA (I 1 0) (J 1 5) (I 1 1) (I 4 0) (I q.1) (I q.2) e).2) J (swQ q e)) (fun e : Nat => [(0, .ref 38), (1, .ref 1), (2, .int (iI m)), (3, .int (iI (e : Int)))]) trivial ?_ ?_
      · intro e hee hpe kke
        have hwr := waA_r (n := I 1 0) (w := J 1 5) (pen := I 1 1) (A := I q.1) (B := I q.2) k1 e (by omega)
        have hQ := swQ_is hqq e
        obtain ⟨Q, eQ⟩ : ∃ Q, Q = swQ q e := ⟨_, rfl⟩
        obtain ⟨A1, eA1⟩ : ∃ A1, A1 = (waA (I 1 0) (J 1 5) (I 1 1) (I 4 0) (I q.1) (I q.2) e).1 := ⟨_, rfl⟩
        obtain ⟨B0, eB0⟩ : ∃ B0, B0 = (waA (I 1 0) (J 1 5) (I 1 1) (I 4 0) (I q.1) (I q.2) e).2 := ⟨_, rfl⟩
        rw [← eQ] at hQ ⊢
        rw [← eA1] at hwr ⊢
        rw [← eB0]
        have hQ1 := isQ_56 hQ
        have hQne := isQ_ne hQ
        refine z_iload_n C 3 rfl dX1_countRows_38 rfl ?_
        refine z_iload_n C 2 rfl dX1_countRows_39 rfl ?_
        refine z_icmp_ge C 110 dX1_countRows_40 (by decide) (by omega) (by omega) (fun h40 => ?_) (fun h40 => ?_)
        · omega
        · refine z_aload_n C 0 rfl dX1_countRows_43 rfl ?_
          refine y_getR C zCl1 5 flX1_32 rfl rfl rfl dX1_countRows_44 ?_
          refine z_iconst C dX1_countRows_47 ?_
          refine y_callS2 C oJ7_fill_53178 sJ7_fill_53178 lkX1_85 (c_J7_fill_53178 (lay_q2 hQ) (by decide)) (by decide) (Nat.le_refl _) (Nat.le_refl _) (Nat.le_of_ble_eq_true rfl) dX1_countRows_48 ?_
          refine z_iconst C dX1_countRows_51 ?_
          refine z_istore C [(4, .int (iI 0)), (0, .ref 38), (1, .ref 1), (2, .int (iI m)), (3, .int (iI ((e : Int))))] dX1_countRows_52 (by decide) rfl ?_
          obtain ⟨B1, eB1⟩ : ∃ B1, B1 = fun k => if k < 67 then 0 else B0 k := ⟨_, rfl⟩
          rw [zR2_fb hQne, ← eB1]
          refine zZ_sub [1, 2, 3, 4, 0] rfl ?_
          refine zZ_cast (σ' := (fun c : Nat => zst (zR2 I Q.1 Q.2 A1 (arA (I 1 0) (J 1 5) (I 1 1) A1 B1 c)) J Q) 0) (L' := (fun c : Nat => [(0, .ref 38), (1, .ref 1), (2, .int (iI m)), (3, .int (iI ((e : Int)))), (4, .int (iI (c : Int)))]) 0) rfl rfl rfl ?_
          refine zfor (67) (fun _ => True) (fun c : Nat => zst (zR2 I Q.1 Q.2 A1 (arA (I 1 0) (J 1 5) (I 1 1) A1 B1 c)) J Q) (fun c : Nat => [(0, .ref 38), (1, .ref 1), (2, .int (iI m)), (3, .int (iI ((e : Int)))), (4, .int (iI (c : Int)))]) trivial ?_ ?_
          · intro c hec hpc kkc
            have hwc := hwr c (by omega)
            have zA : zR2 I Q.1 Q.2 A1 (arA (I 1 0) (J 1 5) (I 1 1) A1 B1 c) Q.1 c = A1 c := by rw [zR2_a]
            refine z_iload C 4 rfl dX1_countRows_54 ?_
            refine z_bipush C dX1_countRows_56 (by decide) ?_
            refine z_icmp_ge C 84 dX1_countRows_58 (by decide) (by omega) (by omega) (fun h58 => ?_) (fun h58 => ?_)
            · omega
            · refine z_aload_n C 0 rfl dX1_countRows_61 rfl ?_
              refine y_getR C zCl1 4 flX1_29 rfl rfl rfl dX1_countRows_62 ?_
              refine z_iload C 4 rfl dX1_countRows_65 ?_
              refine y_iald C c (by omega) (lay_q1 hQ) (by omega) (by decide) dX1_countRows_67 ?_
              refine z_if_le C 78 dX1_countRows_68 (by decide) (by omega) (fun h68 => ?_) (fun h68 => ?_)
              · obtain ⟨v3, ev3⟩ : ∃ y : Int, y = (c : Int) + 1 := ⟨_, rfl⟩
                refine z_iinc C 4 v3 [(4, .int (iI v3)), (0, .ref 38), (1, .ref 1), (2, .int (iI m)), (3, .int (iI ((e : Int))))] dX1_countRows_78 rfl ev3.symm (by decide) rfl ?_
                refine z_goto C 54 dX1_countRows_81 (by decide) ?_
                refine zZ_sub [1, 2, 3, 4, 0] rfl ?_
                refine zZ_cast (by refine congrArg (fun I' => zst I' J Q) (congrArg (zR2 I Q.1 Q.2 A1) ?_); simp only [arA]; rw [if_neg (by omega)]) (zLk (zLk (zLk (zLk (zLc (by omega) rfl))))) rfl (kkc trivial)
              · refine z_aload_n C 0 rfl dX1_countRows_71 rfl ?_
                refine z_aload_n C 1 rfl dX1_countRows_72 rfl ?_
                refine z_iload C 4 rfl dX1_countRows_73 ?_
                refine y_callV2 C oX1_addRowsFrom iX1_addRowsFrom eX1_addRowsFrom lkX1_91 (c_X1_addRowsFrom hQ hg (by first | assumption | omega)) rfl (by decide) rfl rfl (by decide) (Nat.le_refl _) (Nat.le_refl _) (Nat.le_of_ble_eq_true rfl) dX1_countRows_75 ?_
                obtain ⟨v4, ev4⟩ : ∃ y : Int, y = (c : Int) + 1 := ⟨_, rfl⟩
                refine z_iinc C 4 v4 [(4, .int (iI v4)), (0, .ref 38), (1, .ref 1), (2, .int (iI m)), (3, .int (iI ((e : Int))))] dX1_countRows_78 rfl ev4.symm (by decide) rfl ?_
                refine z_goto C 54 dX1_countRows_81 (by decide) ?_
                refine zZ_sub [1, 2, 3, 4, 0] rfl ?_
                refine zZ_cast (by refine congrArg (fun I' => zst I' J Q) (congrArg (zR2 I Q.1 Q.2 A1) ?_); simp only [arA]; rw [if_pos (by omega)]) (zLk (zLk (zLk (zLk (zLc (by omega) rfl))))) rfl (kkc trivial)
          · intro hpc
            refine z_iload C 4 rfl dX1_countRows_54 ?_
            refine z_bipush C dX1_countRows_56 (by decide) ?_
            refine z_icmp_ge C 84 dX1_countRows_58 (by decide) (by omega) (by omega) (fun h58 => ?_) (fun h58 => ?_)
            · refine z_aload_n C 0 rfl dX1_countRows_84 rfl ?_
              refine y_getR C zCl1 4 flX1_29 rfl rfl rfl dX1_countRows_85 ?_
              refine z_astore C [(4, .ref (Q.1)), (0, .ref 38), (1, .ref 1), (2, .int (iI m)), (3, .int (iI ((e : Int))))] dX1_countRows_88 (by decide) rfl ?_
              refine z_aload_n C 1 rfl dX1_countRows_90 rfl ?_
              refine z_aload_n C 1 rfl dX1_countRows_91 rfl ?_
              refine y_getR C zCl1 5 flX1_32 rfl rfl rfl dX1_countRows_92 ?_
              refine y_putRows4 C flX1_29 dX1_countRows_95 ?_
              refine z_aload_n C 1 rfl dX1_countRows_98 rfl ?_
              refine z_aload C 0 rfl dX1_countRows_99 ?_
              refine y_putRows5 C flX1_32 dX1_countRows_101 ?_
              obtain ⟨v5, ev5⟩ : ∃ y : Int, y = (e : Int) + 1 := ⟨_, rfl⟩
              refine z_iinc C 4 v5 [(3, .int (iI v5)), (4, .ref (Q.1)), (0, .ref 38), (1, .ref 1), (2, .int (iI m))] dX1_countRows_104 rfl ev5.symm (by decide) rfl ?_
              refine z_goto C 38 dX1_countRows_107 (by decide) ?_
              refine zZ_sub [2, 3, 4, 0] rfl ?_
              refine zZ_cast (by rw [show swQ q (e + 1) = (Q.2, Q.1) by rw [eQ]; rfl, show waA (I 1 0) (J 1 5) (I 1 1) (I 4 0) (I q.1) (I q.2) (e + 1) = (arA (I 1 0) (J 1 5) (I 1 1) A1 B1 67, A1) by rw [waA, ← eA1, ← eB0, ← eB1], zR2_sw hQne]) (zLk (zLk (zLk (zLc (by omega) rfl)))) rfl (kke trivial)
            · omega
      · intro hpe
        have hQ := swQ_is hqq mn
        obtain ⟨Q, eQ⟩ : ∃ Q, Q = swQ q mn := ⟨_, rfl⟩
        obtain ⟨A1, eA1⟩ : ∃ A1, A1 = (waA (I 1 0) (J 1 5) (I 1 1) (I 4 0) (I q.1) (I q.2) mn).1 := ⟨_, rfl⟩
        obtain ⟨B0, eB0⟩ : ∃ B0, B0 = (waA (I 1 0) (J 1 5) (I 1 1) (I 4 0) (I q.1) (I q.2) mn).2 := ⟨_, rfl⟩
        rw [← eQ] at hQ ⊢
        rw [← eA1, ← eB0]
        refine z_iload_n C 3 rfl dX1_countRows_38 rfl ?_
        refine z_iload_n C 2 rfl dX1_countRows_39 rfl ?_
        refine z_icmp_ge C 110 dX1_countRows_40 (by decide) (by omega) (by omega) (fun h40 => ?_) (fun h40 => ?_)
        · refine z_iconst C dX1_countRows_110 ?_
          refine z_istore_n C [(3, .int (iI 0)), (0, .ref 38), (1, .ref 1), (2, .int (iI m))] dX1_countRows_111 rfl (by decide) rfl ?_
          refine z_iconst C dX1_countRows_112 ?_
          refine z_istore C [(4, .int (iI 0)), (3, .int (iI 0)), (0, .ref 38), (1, .ref 1), (2, .int (iI m))] dX1_countRows_113 (by decide) rfl ?_
          refine zZ_sub [2, 1, 0] rfl ?_
          refine zZ_cast (σ' := (fun c : Nat => zst (zR2 I Q.1 Q.2 A1 B0) J Q) 0) (L' := (fun c : Nat => [(0, .ref 38), (3, .int (iI (sumN A1 c))), (4, .int (iI (c : Int)))]) 0) rfl rfl rfl ?_
          refine zfor (67) (fun _ => True) (fun c : Nat => zst (zR2 I Q.1 Q.2 A1 B0) J Q) (fun c : Nat => [(0, .ref 38), (3, .int (iI (sumN A1 c))), (4, .int (iI (c : Int)))]) trivial ?_ ?_
          · intro c hec hpc kkc
            refine z_iload C 2 rfl dX1_countRows_115 ?_
            refine z_bipush C dX1_countRows_117 (by decide) ?_
            refine z_icmp_ge C 138 dX1_countRows_119 (by decide) (by omega) (by omega) (fun h119 => ?_) (fun h119 => ?_)
            · omega
            · refine z_iload_n C 1 rfl dX1_countRows_122 rfl ?_
              refine z_aload_n C 0 rfl dX1_countRows_123 rfl ?_
              refine y_getR C zCl1 4 flX1_29 rfl rfl rfl dX1_countRows_124 ?_
              refine z_iload C 2 rfl dX1_countRows_127 ?_
              refine y_iald C c (by omega) (lay_q1 hQ) (by omega) (by decide) dX1_countRows_129 ?_
              refine z_iadd C dX1_countRows_130 ?_
              refine z_topI C (fun sm esm => ?_)
              refine z_istore_n C [(3, .int (iI sm)), (0, .ref 38), (4, .int (iI ((c : Int))))] dX1_countRows_131 rfl (by decide) rfl ?_
              obtain ⟨v6, ev6⟩ : ∃ y : Int, y = (c : Int) + 1 := ⟨_, rfl⟩
              refine z_iinc C 2 v6 [(4, .int (iI v6)), (3, .int (iI sm)), (0, .ref 38)] dX1_countRows_132 rfl ev6.symm (by decide) rfl ?_
              refine z_goto C 115 dX1_countRows_135 (by decide) ?_
              refine zZ_sub [2, 1, 0] rfl ?_
              refine zZ_cast rfl (zLk (zLc (by rw [esm, zR2_a]; rfl) (zLc (by omega) rfl))) rfl (kkc trivial)
          · intro hpc
            refine z_iload C 2 rfl dX1_countRows_115 ?_
            refine z_bipush C dX1_countRows_117 (by decide) ?_
            refine z_icmp_ge C 138 dX1_countRows_119 (by decide) (by omega) (by omega) (fun h119 => ?_) (fun h119 => ?_)
            · refine z_iload_n C 1 rfl dX1_countRows_138 rfl ?_
              exact zZ_iret C hR (Nat.le_refl _) (Nat.le_refl _) dX1_countRows_139 rfl (zIs_I (by rw [eA1]) (by rw [eQ, eA1, eB0]))
            · omega
        · omega
    · omega
