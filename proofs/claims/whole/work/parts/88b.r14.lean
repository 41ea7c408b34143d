set_option maxHeartbeats 4000000 in
set_option maxRecDepth 100000 in
theorem c_X6_walks {g : zG} {I : Nat → Nat → Int} {J : Nat → Nat → Int64} {q : Nat × Nat}  (hgr : gR I) (hrs : gRS (spR I)) : zRun g mX6_walks 3 [.ref 58] (zst I J q) (none) (zst (zFr I (farR I)) J q) := by
  obtain ⟨b1, b2, b3, b4, b5, b6, b7⟩ := id hgr
  obtain ⟨k1, k2, k3⟩ := id hrs
  have k1 : gC7 (I 58 3) := k1
  have k2 : 0 ≤ I 58 4 ∧ I 58 4 ≤ 4 := k2
  have k3 : ∀ e, e < 5 → gC7 (I 62 e) := k3
  have k1' := k1.1
  have b2' := b2.1
  refine zRuns_intro rfl (Nat.le_of_ble_eq_true rfl) (fun X C hR => ?_)
  show zZ g X 0 0 _ 0 [(0, .ref 58)] []
  refine z_iconst C dX6_walks_0 ?_
  refine z_istore_n C [(1, .int (iI 0)), (0, .ref 58)] dX6_walks_1 rfl (by decide) rfl ?_
  refine zZ_sub [1, 0] rfl ?_
  refine zZ_cast (σ' := (fun e : Nat => zst (zFr I (fun k => if k < e then 0 else I 73 k)) J q) 0) (L' := (fun e : Nat => [(0, .ref 58), (1, .int (iI (e : Int)))]) 0) (by refine congrArg (fun I' => zst I' J q) ?_; exact zFr_self.symm) rfl rfl ?_
  refine zfor (67) (fun _ => True) (fun e : Nat => zst (zFr I (fun k => if k < e then 0 else I 73 k)) J q) (fun e : Nat => [(0, .ref 58), (1, .int (iI (e : Int)))]) trivial ?_ ?_
  · intro e hee hpe kke
    refine z_iload_n C 1 rfl dX6_walks_2 rfl ?_
    refine z_bipush C dX6_walks_3 (by decide) ?_
    refine z_icmp_ge C 21 dX6_walks_5 (by decide) (by omega) (by omega) (fun h5 => ?_) (fun h5 => ?_)
    · omega
    · refine z_aload_n C 0 rfl dX6_walks_8 rfl ?_
      refine y_getR C zCl6 29 flX6_54 rfl rfl rfl dX6_walks_9 ?_
      refine z_iload_n C 1 rfl dX6_walks_12 rfl ?_
      refine z_iconst C dX6_walks_13 ?_
      refine y_iast C e (by omega) rfl (by omega) (by decide) dX6_walks_14 ?_
      obtain ⟨v1, ev1⟩ : ∃ y : Int, y = (e : Int) + 1 := ⟨_, rfl⟩
      refine z_iinc C 1 v1 [(1, .int (iI v1)), (0, .ref 58)] dX6_walks_15 rfl ev1.symm (by decide) rfl ?_
      refine z_goto C 2 dX6_walks_18 (by decide) ?_
      refine zZ_sub [1, 0] rfl ?_
      refine zZ_cast (by refine congrArg (fun I' => zst I' J q) ?_; rw [zFr_p]; refine congrArg (zFr I) ?_; funext k; simp only [up1]; (repeat' split) <;> first | rfl | omega) (zLk (zLc (by omega) rfl)) rfl (kke trivial)
  · intro hpe
    refine z_iload_n C 1 rfl dX6_walks_2 rfl ?_
    refine z_bipush C dX6_walks_3 (by decide) ?_
    refine z_icmp_ge C 21 dX6_walks_5 (by decide) (by omega) (by omega) (fun h5 => ?_) (fun h5 => ?_)
    · refine z_aload_n C 0 rfl dX6_walks_21 rfl ?_
      refine y_getR C zCl6 29 flX6_54 rfl rfl rfl dX6_walks_22 ?_
      refine z_aload_n C 0 rfl dX6_walks_25 rfl ?_
      refine y_getI C zCl6 3 flX6_61 rfl rfl dX6_walks_26 ?_
      refine z_top C (I 58 3) (rfl) ?_
      refine z_iconst C dX6_walks_29 ?_
      refine y_iast C (I 58 3).toNat (by omega) rfl (by omega) (by decide) dX6_walks_30 ?_
      refine z_iconst C dX6_walks_31 ?_
      refine z_istore_n C [(1, .int (iI 1)), (0, .ref 58)] dX6_walks_32 rfl (by decide) rfl ?_
      refine zZ_cast (σ' := zst (zFr I (wk0 (I 73) (I 58 3))) J q) (by refine congrArg (fun I' => zst I' J q) ?_; exact zFr_p) rfl rfl ?_
      refine zZ_sub [1, 0] rfl ?_
      refine zZ_cast (σ' := (fun t : Nat => zst (zFr I (wkS (I 58 0) (maskW (I 59)) (I 58 2) (wk0 (I 73) (I 58 3)) t)) J q) 0) (L' := (fun t : Nat => [(0, .ref 58), (1, .int (iI ((t + 1 : Nat) : Int)))]) 0) rfl rfl rfl ?_
      refine zfor (49) (fun _ => True) (fun t : Nat => zst (zFr I (wkS (I 58 0) (maskW (I 59)) (I 58 2) (wk0 (I 73) (I 58 3)) t)) J q) (fun t : Nat => [(0, .ref 58), (1, .int (iI ((t + 1 : Nat) : Int)))]) trivial ?_ ?_
      · intro t het hpt kkt
        have hG1 := wkS_g (w := maskW (I 59)) (pen := I 58 2) b1.2 (wk0_g (F := I 73) k1) t (by omega)
        obtain ⟨F1, hF1⟩ : ∃ F1, F1 = wkS (I 58 0) (maskW (I 59)) (I 58 2) (wk0 (I 73) (I 58 3)) t := ⟨_, rfl⟩
        rw [← hF1] at hG1 ⊢
        refine z_iload_n C 1 rfl dX6_walks_33 rfl ?_
        refine z_bipush C dX6_walks_34 (by decide) ?_
        refine z_icmp_ge C 128 dX6_walks_36 (by decide) (by omega) (by omega) (fun h36 => ?_) (fun h36 => ?_)
        · omega
        · refine z_iconst C dX6_walks_39 ?_
          refine z_istore_n C [(2, .int (iI 0)), (0, .ref 58), (1, .int (iI (((t + 1 : Nat) : Int))))] dX6_walks_40 rfl (by decide) rfl ?_
          refine zZ_sub [1, 2, 0] rfl ?_
          refine zZ_cast (σ' := (fun c : Nat => zst (zFr I (wkC (I 58 0) (maskW (I 59)) (I 58 2) (t + 1) F1 c)) J q) 0) (L' := (fun c : Nat => [(0, .ref 58), (1, .int (iI (((t + 1 : Nat) : Int)))), (2, .int (iI (c : Int)))]) 0) rfl rfl rfl ?_
          refine zfor (67) (fun _ => True) (fun c : Nat => zst (zFr I (wkC (I 58 0) (maskW (I 59)) (I 58 2) (t + 1) F1 c)) J q) (fun c : Nat => [(0, .ref 58), (1, .int (iI (((t + 1 : Nat) : Int)))), (2, .int (iI (c : Int)))]) trivial ?_ ?_
          · intro c hec hpc kkc
            have hG2 := wkC_g (w := maskW (I 59)) (pen := I 58 2) (s := t + 1) b1.2 (by omega) hG1 c
            obtain ⟨F2, hF2⟩ : ∃ F2, F2 = wkC (I 58 0) (maskW (I 59)) (I 58 2) (t + 1) F1 c := ⟨_, rfl⟩
            rw [← hF2] at hG2 ⊢
            refine z_iload_n C 2 rfl dX6_walks_41 rfl ?_
            refine z_bipush C dX6_walks_42 (by decide) ?_
            refine z_icmp_ge C 122 dX6_walks_44 (by decide) (by omega) (by omega) (fun h44 => ?_) (fun h44 => ?_)
            · omega
            · refine z_iconst C dX6_walks_47 ?_
              refine z_istore_n C [(3, .int (iI 1)), (0, .ref 58), (1, .int (iI (((t + 1 : Nat) : Int)))), (2, .int (iI ((c : Int))))] dX6_walks_48 rfl (by decide) rfl ?_
              refine zZ_sub [1, 2, 3, 0] rfl ?_
              refine zZ_cast (σ' := (fun e : Nat => zst (zFr I (wkK (I 58 0) (maskW (I 59)) (I 58 2) (t + 1) c F2 e)) J q) 0) (L' := (fun e : Nat => [(0, .ref 58), (1, .int (iI (((t + 1 : Nat) : Int)))), (2, .int (iI ((c : Int)))), (3, .int (iI ((e + 1 : Nat) : Int)))]) 0) rfl rfl rfl ?_
              refine zfor (4) (fun _ => True) (fun e : Nat => zst (zFr I (wkK (I 58 0) (maskW (I 59)) (I 58 2) (t + 1) c F2 e)) J q) (fun e : Nat => [(0, .ref 58), (1, .int (iI (((t + 1 : Nat) : Int)))), (2, .int (iI ((c : Int)))), (3, .int (iI ((e + 1 : Nat) : Int)))]) trivial ?_ ?_
              · intro e hee hpe kke
                have hG3 := wkK_g (w := maskW (I 59)) (pen := I 58 2) (s := t + 1) (c := c) b1.2 (by omega) hG2 e
                obtain ⟨F3, hF3⟩ : ∃ F3, F3 = wkK (I 58 0) (maskW (I 59)) (I 58 2) (t + 1) c F2 e := ⟨_, rfl⟩
                rw [← hF3] at hG3 ⊢
                have hGc := hG3 c hec
                have h7 := bsN_7 (w := maskW (I 59)) (c := (c : Int)) (k := e + 1) b1.2
                refine z_iload_n C 3 rfl dX6_walks_49 rfl ?_
                refine z_iconst C dX6_walks_50 ?_
                refine z_icmp_ge C 116 dX6_walks_51 (by decide) (by omega) (by omega) (fun h51 => ?_) (fun h51 => ?_)
                · omega
                · refine z_aload_n C 0 rfl dX6_walks_54 rfl ?_
                  refine y_getR C zCl6 29 flX6_54 rfl rfl rfl dX6_walks_55 ?_
                  refine z_iload_n C 2 rfl dX6_walks_58 rfl ?_
                  refine y_iald C c (by omega) rfl (by omega) (by decide) dX6_walks_59 ?_
                  refine z_top C (F3 c) (rfl) ?_
                  refine z_iload_n C 1 rfl dX6_walks_60 rfl ?_
                  refine z_icmp_eq C 67 dX6_walks_61 (by decide) (by omega) (by omega) (fun h61 => ?_) (fun h61 => ?_)
                  · refine z_aload_n C 0 rfl dX6_walks_67 rfl ?_
                    refine z_iload_n C 2 rfl dX6_walks_68 rfl ?_
                    refine z_iload_n C 3 rfl dX6_walks_69 rfl ?_
                    refine y_callV2 C oX6_beside iX6_beside eX6_beside lkX6_218 (c_X6_beside (gR_F hgr) (hGc.1 (by omega)) (by omega)) rfl (by decide) rfl rfl (by decide) (Nat.le_refl _) (Nat.le_refl _) (Nat.le_of_ble_eq_true rfl) dX6_walks_70 ?_
                    refine z_topI C (fun bb ebb => ?_)
                    have ebb : bb = bsN (I 58 0) (maskW (I 59)) (c : Int) (e + 1) := ebb
                    rw [← ebb] at h7
                    have hbr : -1 ≤ bb ∧ bb ≤ 66 := by rcases h7 with h | h; omega; have := h.1; omega
                    refine z_istore C [(4, .int (iI bb)), (0, .ref 58), (1, .int (iI (((t + 1 : Nat) : Int)))), (2, .int (iI ((c : Int)))), (3, .int (iI (((e + 1 : Nat) : Int))))] dX6_walks_73 (by decide) rfl ?_
                    refine z_iload C 0 rfl dX6_walks_75 ?_
                    refine z_iconst C dX6_walks_77 ?_
                    refine z_icmp_eq C 110 dX6_walks_78 (by decide) (by omega) (by omega) (fun h78 => ?_) (fun h78 => ?_)
                    · obtain ⟨v2, ev2⟩ : ∃ y : Int, y = ((e + 1 : Nat) : Int) + 1 := ⟨_, rfl⟩
                      refine z_iinc C 4 v2 [(3, .int (iI v2)), (4, .int (iI bb)), (0, .ref 58), (1, .int (iI (((t + 1 : Nat) : Int)))), (2, .int (iI ((c : Int))))] dX6_walks_110 rfl ev2.symm (by decide) rfl ?_
                      refine z_goto C 49 dX6_walks_113 (by decide) ?_
                      refine zZ_sub [2, 3, 4, 0] rfl ?_
                      refine zZ_cast (by refine congrArg (fun I' => zst I' J q) ?_; refine congrArg (zFr I) ?_; simp only [wkK, wku]; rw [← hF3, if_neg (fun z => z.2.1 (ebb.symm.trans h78))]) (zLk (zLk (zLk (zLc (by omega) rfl)))) rfl (kke trivial)
                    · refine z_iload C 0 rfl dX6_walks_81 ?_
                      refine z_aload_n C 1 rfl dX6_walks_83 rfl ?_
                      refine y_getI C zCl6 2 flX6_119 rfl rfl dX6_walks_84 ?_
                      refine z_top C (I 58 2) (rfl) ?_
                      refine z_icmp_eq C 110 dX6_walks_87 (by decide) (by omega) (by omega) (fun h87 => ?_) (fun h87 => ?_)
                      · obtain ⟨v3, ev3⟩ : ∃ y : Int, y = ((e + 1 : Nat) : Int) + 1 := ⟨_, rfl⟩
                        refine z_iinc C 4 v3 [(3, .int (iI v3)), (4, .int (iI bb)), (0, .ref 58), (1, .int (iI (((t + 1 : Nat) : Int)))), (2, .int (iI ((c : Int))))] dX6_walks_110 rfl ev3.symm (by decide) rfl ?_
                        refine z_goto C 49 dX6_walks_113 (by decide) ?_
                        refine zZ_sub [2, 3, 4, 0] rfl ?_
                        refine zZ_cast (by refine congrArg (fun I' => zst I' J q) ?_; refine congrArg (zFr I) ?_; simp only [wkK, wku]; rw [← hF3, if_neg (fun z => z.2.2.1 (ebb.symm.trans h87))]) (zLk (zLk (zLk (zLc (by omega) rfl)))) rfl (kke trivial)
                      · have hb7 : gC7 bb := h7.resolve_left h78
                        have hb8 := hb7.1
                        have hGb := hG3 bb.toNat (by omega)
                        refine z_aload_n C 1 rfl dX6_walks_90 rfl ?_
                        refine y_getR C zCl6 29 flX6_54 rfl rfl rfl dX6_walks_91 ?_
                        refine z_iload C 0 rfl dX6_walks_94 ?_
                        refine y_iald C bb.toNat (by omega) rfl (by omega) (by decide) dX6_walks_96 ?_
                        refine z_top C (F3 bb.toNat) (rfl) ?_
                        refine z_if_ne C 110 dX6_walks_97 (by decide) (by omega) (fun h97 => ?_) (fun h97 => ?_)
                        · obtain ⟨v4, ev4⟩ : ∃ y : Int, y = ((e + 1 : Nat) : Int) + 1 := ⟨_, rfl⟩
                          refine z_iinc C 4 v4 [(3, .int (iI v4)), (4, .int (iI bb)), (0, .ref 58), (1, .int (iI (((t + 1 : Nat) : Int)))), (2, .int (iI ((c : Int))))] dX6_walks_110 rfl ev4.symm (by decide) rfl ?_
                          refine z_goto C 49 dX6_walks_113 (by decide) ?_
                          refine zZ_sub [2, 3, 4, 0] rfl ?_
                          refine zZ_cast (by refine congrArg (fun I' => zst I' J q) ?_; refine congrArg (zFr I) ?_; simp only [wkK, wku]; rw [← hF3, if_neg (fun z => h97 (by rw [ebb]; exact z.2.2.2))]) (zLk (zLk (zLk (zLc (by omega) rfl)))) rfl (kke trivial)
                        · refine z_aload_n C 1 rfl dX6_walks_100 rfl ?_
                          refine y_getR C zCl6 29 flX6_54 rfl rfl rfl dX6_walks_101 ?_
                          refine z_iload C 0 rfl dX6_walks_104 ?_
                          refine z_iload_n C 2 rfl dX6_walks_106 rfl ?_
                          refine z_iconst C dX6_walks_107 ?_
                          refine z_iadd C dX6_walks_108 ?_
                          refine y_iast C bb.toNat (by omega) rfl (by omega) (by decide) dX6_walks_109 ?_
                          obtain ⟨v5, ev5⟩ : ∃ y : Int, y = ((e + 1 : Nat) : Int) + 1 := ⟨_, rfl⟩
                          refine z_iinc C 4 v5 [(3, .int (iI v5)), (4, .int (iI bb)), (0, .ref 58), (1, .int (iI (((t + 1 : Nat) : Int)))), (2, .int (iI ((c : Int))))] dX6_walks_110 rfl ev5.symm (by decide) rfl ?_
                          refine z_goto C 49 dX6_walks_113 (by decide) ?_
                          refine zZ_sub [2, 3, 4, 0] rfl ?_
                          refine zZ_cast (by refine congrArg (fun I' => zst I' J q) ?_; rw [zFr_p]; refine congrArg (zFr I) ?_; simp only [wkK, wku]; rw [← hF3, ← ebb, if_pos ⟨h61, h78, h87, h97⟩]) (zLk (zLk (zLk (zLc (by omega) rfl)))) rfl (kke trivial)
                  · refine z_goto C 110 dX6_walks_64 (by decide) ?_
                    obtain ⟨v6, ev6⟩ : ∃ y : Int, y = ((e + 1 : Nat) : Int) + 1 := ⟨_, rfl⟩
                    refine z_iinc C 3 v6 [(3, .int (iI v6)), (0, .ref 58), (1, .int (iI (((t + 1 : Nat) : Int)))), (2, .int (iI ((c : Int))))] dX6_walks_110 rfl ev6.symm (by decide) rfl ?_
                    refine z_goto C 49 dX6_walks_113 (by decide) ?_
                    refine zZ_sub [1, 2, 3, 0] rfl ?_
                    refine zZ_cast (by refine congrArg (fun I' => zst I' J q) ?_; refine congrArg (zFr I) ?_; simp only [wkK, wku]; rw [← hF3, if_neg (fun z => h61 z.1)]) (zLk (zLk (zLk (zLc (by omega) rfl)))) rfl (kke trivial)
              · intro hpe
                refine z_iload_n C 3 rfl dX6_walks_49 rfl ?_
                refine z_iconst C dX6_walks_50 ?_
                refine z_icmp_ge C 116 dX6_walks_51 (by decide) (by omega) (by omega) (fun h51 => ?_) (fun h51 => ?_)
                · obtain ⟨v7, ev7⟩ : ∃ y : Int, y = (c : Int) + 1 := ⟨_, rfl⟩
                  refine z_iinc C 2 v7 [(2, .int (iI v7)), (0, .ref 58), (1, .int (iI (((t + 1 : Nat) : Int)))), (3, .int (iI (((4 + 1 : Nat) : Int))))] dX6_walks_116 rfl ev7.symm (by decide) rfl ?_
                  refine z_goto C 41 dX6_walks_119 (by decide) ?_
                  refine zZ_sub [1, 2, 0] rfl ?_
                  refine zZ_cast (by refine congrArg (fun I' => zst I' J q) ?_; rw [wkC, ← hF2]) (zLk (zLk (zLc (by omega) rfl))) rfl (kkc trivial)
                · omega
          · intro hpc
            refine z_iload_n C 2 rfl dX6_walks_41 rfl ?_
            refine z_bipush C dX6_walks_42 (by decide) ?_
            refine z_icmp_ge C 122 dX6_walks_44 (by decide) (by omega) (by omega) (fun h44 => ?_) (fun h44 => ?_)
            · obtain ⟨v8, ev8⟩ : ∃ y : Int, y = ((t + 1 : Nat) : Int) + 1 := ⟨_, rfl⟩
              refine z_iinc C 1 v8 [(1, .int (iI v8)), (0, .ref 58), (2, .int (iI (((67 : Nat) : Int))))] dX6_walks_122 rfl ev8.symm (by decide) rfl ?_
              refine z_goto C 33 dX6_walks_125 (by decide) ?_
              refine zZ_sub [1, 0] rfl ?_
              refine zZ_cast (by refine congrArg (fun I' => zst I' J q) ?_; rw [wkS, ← hF1]) (zLk (zLc (by omega) rfl)) rfl (kkt trivial)
            · omega
      · intro hpt
        refine z_iload_n C 1 rfl dX6_walks_33 rfl ?_
        refine z_bipush C dX6_walks_34 (by decide) ?_
        refine z_icmp_ge C 128 dX6_walks_36 (by decide) (by omega) (by omega) (fun h36 => ?_) (fun h36 => ?_)
        · exact zZ_vret C hR (Nat.le_refl _) (Nat.le_refl _) dX6_walks_128 rfl (zIs_V rfl)
        · omega
    · omega
