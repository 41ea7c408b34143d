set_option maxHeartbeats 4000000 in
set_option maxRecDepth 100000 in
theorem c_X1_addRowsFrom {g : zG} {I : Nat → Nat → Int} {J : Nat → Nat → Int64} {q : Nat × Nat} {c : Nat} {A B : Nat → Int} (hqq : isQ q) (hg : gH I 1) (hc : c < 67) : zRun g mX1_addRowsFrom 4 [.ref 38, .ref 1, .int (iI ((c : Int)))] (zst (zR2 I q.1 q.2 A B) J q) (none) (zst (zR2 I q.1 q.2 A (arC (I 1 0) (J 1 5) (I 1 1) A c B 5)) J q) := by
  have hq1 := isQ_56 hqq
  have hne := isQ_ne hqq
  have z1 := fun B => zR2_n (I := I) (a := q.1) (b := q.2) (i := 1) (A := A) (B := B) (by omega) (by omega)
  have z2 := fun B => zR2_n (I := I) (a := q.1) (b := q.2) (i := 2) (A := A) (B := B) (by omega) (by omega)
  have z3 := fun B => zR2_n (I := I) (a := q.1) (b := q.2) (i := 3) (A := A) (B := B) (by omega) (by omega)
  refine zRuns_intro rfl (Nat.le_of_ble_eq_true rfl) (fun X C hR => ?_)
  show zZ g X 0 0 _ 0 [(0, .ref 38), (1, .ref 1), (2, .int (iI ((c : Int))))] []
  refine z_iconst C dX1_addRowsFrom_0 ?_
  refine z_istore_n C [(3, .int (iI 0)), (0, .ref 38), (1, .ref 1), (2, .int (iI ((c : Int))))] dX1_addRowsFrom_1 rfl (by decide) rfl ?_
  refine zZ_sub [1, 2, 3, 0] rfl ?_
  refine zZ_cast (σ' := (fun e : Nat => zst (zR2 I q.1 q.2 A (arC (I 1 0) (J 1 5) (I 1 1) A c B e)) J q) 0) (L' := (fun e : Nat => [(0, .ref 38), (1, .ref 1), (2, .int (iI ((c : Int)))), (3, .int (iI (e : Int)))]) 0) rfl rfl rfl ?_
  refine zfor (5) (fun _ => True) (fun e : Nat => zst (zR2 I q.1 q.2 A (arC (I 1 0) (J 1 5) (I 1 1) A c B e)) J q) (fun e : Nat => [(0, .ref 38), (1, .ref 1), (2, .int (iI ((c : Int)))), (3, .int (iI (e : Int)))]) trivial ?_ ?_
  · intro e hee hpe kke
    have hsh := shN_r e
    obtain ⟨Bk, hBk⟩ : ∃ Bk, Bk = arC (I 1 0) (J 1 5) (I 1 1) A c B e := ⟨_, rfl⟩
    rw [← hBk]
    have hgz : gH (zR2 I q.1 q.2 A Bk) 1 := gH_cong (z1 Bk) (z2 Bk) (z3 Bk) hg
    refine z_iload_n C 3 rfl dX1_addRowsFrom_2 rfl ?_
    refine z_iconst C dX1_addRowsFrom_3 ?_
    refine z_icmp_ge C 59 dX1_addRowsFrom_4 (by decide) (by omega) (by omega) (fun h4 => ?_) (fun h4 => ?_)
    · omega
    · refine z_iload_n C 2 rfl dX1_addRowsFrom_7 rfl ?_
      refine z_getsN C (k := 0) rfl (List.mem_of_getElem? (i := 4) rfl) rfl dX1_addRowsFrom_8 ?_
      refine z_iload_n C 3 rfl dX1_addRowsFrom_11 rfl ?_
      refine z_ialdS C (k := 0) rfl e (by omega) (show _ < 5 by omega) (by decide) dX1_addRowsFrom_12 ?_
      refine z_iadd C dX1_addRowsFrom_13 ?_
      refine z_topI C (fun nx enx => ?_)
      have enx : nx = (c : Int) + shN e := enx
      refine z_istore C [(4, .int (iI nx)), (0, .ref 38), (1, .ref 1), (2, .int (iI ((c : Int)))), (3, .int (iI ((e : Int))))] dX1_addRowsFrom_14 (by decide) rfl ?_
      refine z_iload C 0 rfl dX1_addRowsFrom_16 ?_
      refine z_if_lt C 53 dX1_addRowsFrom_18 (by decide) (by omega) (fun h18 => ?_) (fun h18 => ?_)
      · obtain ⟨v1, ev1⟩ : ∃ y : Int, y = (e : Int) + 1 := ⟨_, rfl⟩
        refine z_iinc C 4 v1 [(3, .int (iI v1)), (4, .int (iI nx)), (0, .ref 38), (1, .ref 1), (2, .int (iI ((c : Int))))] dX1_addRowsFrom_53 rfl ev1.symm (by decide) rfl ?_
        refine z_goto C 2 dX1_addRowsFrom_56 (by decide) ?_
        refine zZ_sub [2, 3, 4, 0] rfl ?_
        refine zZ_cast (by refine congrArg (fun I' => zst I' J q) ?_; simp only [arC]; rw [← hBk, ← enx, if_neg (by omega)]) (zLk (zLk (zLk (zLc (by omega) rfl)))) rfl (kke trivial)
      · refine z_iload C 0 rfl dX1_addRowsFrom_21 ?_
        refine z_bipush C dX1_addRowsFrom_23 (by decide) ?_
        refine z_icmp_ge C 53 dX1_addRowsFrom_25 (by decide) (by omega) (by omega) (fun h25 => ?_) (fun h25 => ?_)
        · obtain ⟨v2, ev2⟩ : ∃ y : Int, y = (e : Int) + 1 := ⟨_, rfl⟩
          refine z_iinc C 4 v2 [(3, .int (iI v2)), (4, .int (iI nx)), (0, .ref 38), (1, .ref 1), (2, .int (iI ((c : Int))))] dX1_addRowsFrom_53 rfl ev2.symm (by decide) rfl ?_
          refine z_goto C 2 dX1_addRowsFrom_56 (by decide) ?_
          refine zZ_sub [2, 3, 4, 0] rfl ?_
          refine zZ_cast (by refine congrArg (fun I' => zst I' J q) ?_; simp only [arC]; rw [← hBk, ← enx, if_neg (by omega)]) (zLk (zLk (zLk (zLc (by omega) rfl)))) rfl (kke trivial)
        · refine z_aload_n C 2 rfl dX1_addRowsFrom_28 rfl ?_
          refine z_iload_n C 3 rfl dX1_addRowsFrom_29 rfl ?_
          refine z_iload_n C 4 rfl dX1_addRowsFrom_30 rfl ?_
          refine y_callV2 C oX0_canDo iX0_canDo eX0_canDo lkX1_38 (c_X0_canDo isH_1 hgz (by first | assumption | omega) (by first | assumption | omega)) rfl (by decide) rfl rfl (by decide) (Nat.le_refl _) (Nat.le_refl _) (Nat.le_of_ble_eq_true rfl) dX1_addRowsFrom_31 ?_
          refine y_if_eqB C 53 dX1_addRowsFrom_34 (by decide) (fun h34 => ?_) (fun h34 => ?_)
          · obtain ⟨v3, ev3⟩ : ∃ y : Int, y = (e : Int) + 1 := ⟨_, rfl⟩
            refine z_iinc C 4 v3 [(3, .int (iI v3)), (4, .int (iI nx)), (0, .ref 38), (1, .ref 1), (2, .int (iI ((c : Int))))] dX1_addRowsFrom_53 rfl ev3.symm (by decide) rfl ?_
            refine z_goto C 2 dX1_addRowsFrom_56 (by decide) ?_
            refine zZ_sub [2, 3, 4, 0] rfl ?_
            refine zZ_cast (by refine congrArg (fun I' => zst I' J q) ?_; simp only [arC]; rw [← hBk, ← enx, if_neg (fun z => by rw [z1] at h34; rw [h34] at z; exact absurd z.2 (by decide))]) (zLk (zLk (zLk (zLc (by omega) rfl)))) rfl (kke trivial)
          · refine z_aload_n C 1 rfl dX1_addRowsFrom_37 rfl ?_
            refine y_getR C zCl1 5 flX1_32 rfl rfl rfl dX1_addRowsFrom_38 ?_
            refine z_iload C 0 rfl dX1_addRowsFrom_41 ?_
            refine z_dup2 C dX1_addRowsFrom_43 rfl rfl ?_
            refine y_iald C nx.toNat (by omega) (lay_q2 hqq) (by omega) (by decide) dX1_addRowsFrom_44 ?_
            refine z_aload_n C 1 rfl dX1_addRowsFrom_45 rfl ?_
            refine y_getR C zCl1 4 flX1_29 rfl rfl rfl dX1_addRowsFrom_46 ?_
            refine z_iload_n C 3 rfl dX1_addRowsFrom_49 rfl ?_
            refine y_iald C c rfl (lay_q1 hqq) (by omega) (by decide) dX1_addRowsFrom_50 ?_
            refine z_iadd C dX1_addRowsFrom_51 ?_
            refine y_iast C nx.toNat (by omega) (lay_q2 hqq) (by omega) (by decide) dX1_addRowsFrom_52 ?_
            obtain ⟨v4, ev4⟩ : ∃ y : Int, y = (e : Int) + 1 := ⟨_, rfl⟩
            refine z_iinc C 4 v4 [(3, .int (iI v4)), (4, .int (iI nx)), (0, .ref 38), (1, .ref 1), (2, .int (iI ((c : Int))))] dX1_addRowsFrom_53 rfl ev4.symm (by decide) rfl ?_
            refine z_goto C 2 dX1_addRowsFrom_56 (by decide) ?_
            refine zZ_sub [2, 3, 4, 0] rfl ?_
            refine zZ_cast (by refine congrArg (fun I' => zst I' J q) ?_; rw [zR2_pb hne, zR2_a, zR2_b hne]; rw [z1] at h34; simp only [arC]; rw [← hBk, ← enx, if_pos ⟨⟨by omega, by omega⟩, h34⟩]) (zLk (zLk (zLk (zLc (by omega) rfl)))) rfl (kke trivial)
  · intro hpe
    refine z_iload_n C 3 rfl dX1_addRowsFrom_2 rfl ?_
    refine z_iconst C dX1_addRowsFrom_3 ?_
    refine z_icmp_ge C 59 dX1_addRowsFrom_4 (by decide) (by omega) (by omega) (fun h4 => ?_) (fun h4 => ?_)
    · exact zZ_vret C hR (Nat.le_refl _) (Nat.le_refl _) dX1_addRowsFrom_59 rfl (zIs_V rfl)
    · omega
