set_option maxHeartbeats 4000000 in
set_option maxRecDepth 100000 in
theorem c_X4_nextToken {g : zG} {I : Nat → Nat → Int} {J : Nat → Nat → Int64} {q : Nat × Nat}  (hT : gT I) (hp : 0 ≤ I 11 5 ∧ I 11 5 ≤ I 11 1) : zRun g mX4_nextToken 2 [.ref 11] (zst I J q) (none) (zst (tkI I (I 12) (I 11 1).toNat (I 11 5).toNat) J q) := by
  obtain ⟨t1, t2⟩ := id hT
  obtain ⟨n, hn⟩ : ∃ n : Nat, I 11 1 = n := ⟨(I 11 1).toNat, by omega⟩
  have hn2 : (I 11 1).toNat = n := by omega
  obtain ⟨p, hp0⟩ : ∃ p : Nat, I 11 5 = p := ⟨(I 11 5).toNat, by omega⟩
  have hp2 : (I 11 5).toNat = p := by omega
  rw [hn2, hp2]
  unfold tkI
  have hf : ∀ k, k < n → 0 ≤ I 12 k := fun k hk => (t2 k (by omega)).1
  refine zRuns_intro rfl (Nat.le_of_ble_eq_true rfl) (fun X C hR => ?_)
  show zZ g X 0 0 _ 0 [(0, .ref 11)] []
  refine z_aload_n C 0 rfl dX4_nextToken_0 rfl ?_
  refine z_aload_n C 0 rfl dX4_nextToken_1 rfl ?_
  refine y_getI C zCl4 5 flX4_32 rfl rfl dX4_nextToken_2 ?_
  refine y_putI C zCl4 4 flX4_29 rfl rfl rfl rfl dX4_nextToken_5 ?_
  refine zZ_cast (σ' := zst (zTk I (I 11 3) ((p + 0 : Nat) : Int) (p : Nat)) J q) (by rw [zTk_a, hp0]; rfl) rfl rfl ?_
  refine zZ_sub [0] rfl ?_
  refine zZ_cast (σ' := (fun e : Nat => zst (zTk I (I 11 3) ((p + e : Nat) : Int) (p : Nat)) J q) 0) (L' := (fun e : Nat => [(0, .ref 11)]) 0) rfl rfl rfl ?_
  refine zfor ((n - p)) (fun e => firstN (fun i => !decide (I 12 (p + i) = 32)) e = none) (fun e : Nat => zst (zTk I (I 11 3) ((p + e : Nat) : Int) (p : Nat)) J q) (fun e : Nat => [(0, .ref 11)]) rfl ?_ ?_
  · intro e hee hpe kke
    refine z_aload_n C 0 rfl dX4_nextToken_8 rfl ?_
    refine y_getI C zCl4 4 flX4_29 rfl rfl dX4_nextToken_9 ?_
    rw [zTk_4]
    refine z_aload_n C 0 rfl dX4_nextToken_12 rfl ?_
    refine y_getI C zCl4 1 flX4_15 rfl rfl dX4_nextToken_13 ?_
    rw [zTk_1]
    refine z_icmp_ge C 45 dX4_nextToken_16 (by decide) (by omega) (by omega) (fun h16 => ?_) (fun h16 => ?_)
    · omega
    · refine z_aload_n C 0 rfl dX4_nextToken_19 rfl ?_
      refine z_aload_n C 0 rfl dX4_nextToken_20 rfl ?_
      refine y_getI C zCl4 4 flX4_29 rfl rfl dX4_nextToken_21 ?_
      rw [zTk_4]
      refine y_callV1 C oX4_byteAt iX4_byteAt eX4_byteAt lkX4_133 (c_X4_byteAt (gT_tk hT) (by first | assumption | omega)) rfl (by decide) rfl rfl (by decide) (Nat.le_refl _) (Nat.le_refl _) (Nat.le_of_ble_eq_true rfl) dX4_nextToken_24 ?_
      refine z_top C (I 12 (p + e)) (by rw [zTk_12, zTk_1, hn2]; exact byN_in (by omega)) ?_
      refine z_bipush C dX4_nextToken_27 (by decide) ?_
      refine z_icmp_ne C 45 dX4_nextToken_29 (by decide) (by have := t2 (p + e) (by omega); omega) (by omega) (fun h29 => ?_) (fun h29 => ?_)
      · have hS : skN (I 12) n p = p + e := upTo_some (P := fun i => !decide (I 12 i = 32)) (by omega) hpe (by simpa using h29)
        rw [← hS]
        obtain ⟨s, hs⟩ : ∃ s, s = skN (I 12) n p := ⟨_, rfl⟩
        rw [← hs]
        have hsr : p ≤ s ∧ s ≤ n := by rw [hs]; exact upTo_r (by omega)
        refine z_aload_n C 0 rfl dX4_nextToken_45 rfl ?_
        refine z_aload_n C 0 rfl dX4_nextToken_46 rfl ?_
        refine z_aload_n C 0 rfl dX4_nextToken_47 rfl ?_
        refine y_getI C zCl4 4 flX4_29 rfl rfl dX4_nextToken_48 ?_
        rw [zTk_4]
        refine y_callV1 C oX4_byteAt iX4_byteAt eX4_byteAt lkX4_133 (c_X4_byteAt (gT_tk hT) (by first | assumption | omega)) rfl (by decide) rfl rfl (by decide) (Nat.le_refl _) (Nat.le_refl _) (Nat.le_of_ble_eq_true rfl) dX4_nextToken_51 ?_
        refine z_top C (byN (I 12) n (s : Nat)) (by rw [zTk_12, zTk_1, hn2]) ?_
        refine y_callS1 C oX4_tokenOf sX4_tokenOf lkX4_146 (c_X4_tokenOf (by have := byN_b t2 (n := n) (i := (s : Nat)) (by omega); omega)) (by decide) (Nat.le_refl _) (Nat.le_refl _) (Nat.le_of_ble_eq_true rfl) dX4_nextToken_54 ?_
        obtain ⟨T, hT0⟩ : ∃ T, T = tokT (I 12) n p := ⟨_, rfl⟩
        have hTr := tokT_r (I 12) n p
        rw [← hT0] at hTr
        have hTz : T = 0 ↔ n ≤ s := by rw [hT0, hs]; exact tokT_0 hf
        refine z_top C (T) (by rw [hT0, hs]; rfl) ?_
        refine y_putI C zCl4 3 flX4_26 rfl rfl rfl rfl dX4_nextToken_57 ?_
        rw [zTk_p3]
        refine z_aload_n C 0 rfl dX4_nextToken_60 rfl ?_
        refine z_aload_n C 0 rfl dX4_nextToken_61 rfl ?_
        refine y_getI C zCl4 3 flX4_26 rfl rfl dX4_nextToken_62 ?_
        rw [zTk_3]
        refine z_if_ne C 75 dX4_nextToken_65 (by decide) (by omega) (fun h65 => ?_) (fun h65 => ?_)
        · refine z_aload_n C 0 rfl dX4_nextToken_75 rfl ?_
          refine y_getI C zCl4 4 flX4_29 rfl rfl dX4_nextToken_76 ?_
          rw [zTk_4]
          refine z_iconst C dX4_nextToken_79 ?_
          refine z_iadd C dX4_nextToken_80 ?_
          refine y_putI C zCl4 5 flX4_32 rfl rfl rfl rfl dX4_nextToken_81 ?_
          rw [zTk_p5]
          obtain ⟨e0, he0⟩ : ∃ e0, e0 = s + 1 := ⟨_, rfl⟩
          refine zZ_sub [0] rfl ?_
          refine zZ_cast (σ' := (fun e : Nat => zst (zTk I T (s : Nat) ((e0 + e : Nat) : Int)) J q) 0) (L' := (fun e : Nat => [(0, .ref 11)]) 0) (by subst he0; rfl) rfl rfl ?_
          refine zfor ((n - e0)) (fun e => (e = 0 ∨ T = 1 ∨ T = 2) ∧ firstN (fun i => !decide (tkN (I 12 (e0 + i)) = T)) e = none) (fun e : Nat => zst (zTk I T (s : Nat) ((e0 + e : Nat) : Int)) J q) (fun e : Nat => [(0, .ref 11)]) ⟨Or.inl rfl, rfl⟩ ?_ ?_
          · intro e hee hpe kke
            refine z_aload_n C 0 rfl dX4_nextToken_84 rfl ?_
            refine y_getI C zCl4 3 flX4_26 rfl rfl dX4_nextToken_85 ?_
            rw [zTk_3]
            refine z_iconst C dX4_nextToken_88 ?_
            refine z_icmp_eq C 100 dX4_nextToken_89 (by decide) (by omega) (by omega) (fun h89 => ?_) (fun h89 => ?_)
            · refine z_aload_n C 0 rfl dX4_nextToken_100 rfl ?_
              refine y_getI C zCl4 5 flX4_32 rfl rfl dX4_nextToken_101 ?_
              rw [zTk_5]
              refine z_aload_n C 0 rfl dX4_nextToken_104 rfl ?_
              refine y_getI C zCl4 1 flX4_15 rfl rfl dX4_nextToken_105 ?_
              rw [zTk_1]
              refine z_icmp_ge C 142 dX4_nextToken_108 (by decide) (by omega) (by omega) (fun h108 => ?_) (fun h108 => ?_)
              · omega
              · refine z_aload_n C 0 rfl dX4_nextToken_111 rfl ?_
                refine z_aload_n C 0 rfl dX4_nextToken_112 rfl ?_
                refine y_getI C zCl4 5 flX4_32 rfl rfl dX4_nextToken_113 ?_
                rw [zTk_5]
                refine y_callV1 C oX4_byteAt iX4_byteAt eX4_byteAt lkX4_133 (c_X4_byteAt (gT_tk hT) (by first | assumption | omega)) rfl (by decide) rfl rfl (by decide) (Nat.le_refl _) (Nat.le_refl _) (Nat.le_of_ble_eq_true rfl) dX4_nextToken_116 ?_
                refine z_top C (I 12 (e0 + e)) (by rw [zTk_12, zTk_1, hn2]; exact byN_in (by omega)) ?_
                refine y_callS1 C oX4_tokenOf sX4_tokenOf lkX4_146 (c_X4_tokenOf (by have := t2 (e0 + e) (by omega); omega)) (by decide) (Nat.le_refl _) (Nat.le_refl _) (Nat.le_of_ble_eq_true rfl) dX4_nextToken_119 ?_
                refine z_aload_n C 0 rfl dX4_nextToken_122 rfl ?_
                refine y_getI C zCl4 3 flX4_26 rfl rfl dX4_nextToken_123 ?_
                rw [zTk_3]
                refine z_icmp_ne C 142 dX4_nextToken_126 (by decide) (by have := tkN_r (I 12 (e0 + e)); omega) (by omega) (fun h126 => ?_) (fun h126 => ?_)
                · exact zZ_vret C hR (Nat.le_refl _) (Nat.le_refl _) dX4_nextToken_142 rfl (zIs_V (by rw [show tokE (I 12) n p = e0 + e from (by unfold tokE; rw [← hT0, ← hs, if_neg (by omega), if_pos (by omega)]; rw [show s + 1 = e0 by omega]; exact upTo_some (P := fun i => !decide (tkN (I 12 i) = T)) (by omega) hpe.2 (by simpa using h126)), ← hs, ← hT0]))
                · refine z_aload_n C 0 rfl dX4_nextToken_129 rfl ?_
                  refine z_dup C dX4_nextToken_130 rfl ?_
                  refine y_getI C zCl4 5 flX4_32 rfl rfl dX4_nextToken_131 ?_
                  rw [zTk_5]
                  refine z_iconst C dX4_nextToken_134 ?_
                  refine z_iadd C dX4_nextToken_135 ?_
                  refine y_putI C zCl4 5 flX4_32 rfl rfl rfl rfl dX4_nextToken_136 ?_
                  rw [zTk_p5]
                  refine z_goto C 84 dX4_nextToken_139 (by decide) ?_
                  refine zZ_sub [0] rfl ?_
                  refine zZ_cast (by rw [show (((e0 + e : Nat) : Int) + 1) = ((e0 + (e + 1) : Nat) : Int) by omega]) (zLk rfl) rfl (kke ⟨by omega, by simp only [firstN, hpe.2]; rw [if_neg (by simpa using h126)]⟩)
            · refine z_aload_n C 0 rfl dX4_nextToken_92 rfl ?_
              refine y_getI C zCl4 3 flX4_26 rfl rfl dX4_nextToken_93 ?_
              rw [zTk_3]
              refine z_iconst C dX4_nextToken_96 ?_
              refine z_icmp_ne C 142 dX4_nextToken_97 (by decide) (by omega) (by omega) (fun h97 => ?_) (fun h97 => ?_)
              · exact zZ_vret C hR (Nat.le_refl _) (Nat.le_refl _) dX4_nextToken_142 rfl (zIs_V (by rw [← hs, ← hT0]; refine congrArg (fun x : Nat => zst (zTk I T (s : Nat) (x : Nat)) J q) ?_; have hz := hpe.1; unfold tokE; rw [← hT0, ← hs]; (repeat' split) <;> omega))
              · refine z_aload_n C 0 rfl dX4_nextToken_100 rfl ?_
                refine y_getI C zCl4 5 flX4_32 rfl rfl dX4_nextToken_101 ?_
                rw [zTk_5]
                refine z_aload_n C 0 rfl dX4_nextToken_104 rfl ?_
                refine y_getI C zCl4 1 flX4_15 rfl rfl dX4_nextToken_105 ?_
                rw [zTk_1]
                refine z_icmp_ge C 142 dX4_nextToken_108 (by decide) (by omega) (by omega) (fun h108 => ?_) (fun h108 => ?_)
                · omega
                · refine z_aload_n C 0 rfl dX4_nextToken_111 rfl ?_
                  refine z_aload_n C 0 rfl dX4_nextToken_112 rfl ?_
                  refine y_getI C zCl4 5 flX4_32 rfl rfl dX4_nextToken_113 ?_
                  rw [zTk_5]
                  refine y_callV1 C oX4_byteAt iX4_byteAt eX4_byteAt lkX4_133 (c_X4_byteAt (gT_tk hT) (by first | assumption | omega)) rfl (by decide) rfl rfl (by decide) (Nat.le_refl _) (Nat.le_refl _) (Nat.le_of_ble_eq_true rfl) dX4_nextToken_116 ?_
                  refine z_top C (I 12 (e0 + e)) (by rw [zTk_12, zTk_1, hn2]; exact byN_in (by omega)) ?_
                  refine y_callS1 C oX4_tokenOf sX4_tokenOf lkX4_146 (c_X4_tokenOf (by have := t2 (e0 + e) (by omega); omega)) (by decide) (Nat.le_refl _) (Nat.le_refl _) (Nat.le_of_ble_eq_true rfl) dX4_nextToken_119 ?_
                  refine z_aload_n C 0 rfl dX4_nextToken_122 rfl ?_
                  refine y_getI C zCl4 3 flX4_26 rfl rfl dX4_nextToken_123 ?_
                  rw [zTk_3]
                  refine z_icmp_ne C 142 dX4_nextToken_126 (by decide) (by have := tkN_r (I 12 (e0 + e)); omega) (by omega) (fun h126 => ?_) (fun h126 => ?_)
                  · exact zZ_vret C hR (Nat.le_refl _) (Nat.le_refl _) dX4_nextToken_142 rfl (zIs_V (by rw [show tokE (I 12) n p = e0 + e from (by unfold tokE; rw [← hT0, ← hs, if_neg (by omega), if_pos (by omega)]; rw [show s + 1 = e0 by omega]; exact upTo_some (P := fun i => !decide (tkN (I 12 i) = T)) (by omega) hpe.2 (by simpa using h126)), ← hs, ← hT0]))
                  · refine z_aload_n C 0 rfl dX4_nextToken_129 rfl ?_
                    refine z_dup C dX4_nextToken_130 rfl ?_
                    refine y_getI C zCl4 5 flX4_32 rfl rfl dX4_nextToken_131 ?_
                    rw [zTk_5]
                    refine z_iconst C dX4_nextToken_134 ?_
                    refine z_iadd C dX4_nextToken_135 ?_
                    refine y_putI C zCl4 5 flX4_32 rfl rfl rfl rfl dX4_nextToken_136 ?_
                    rw [zTk_p5]
                    refine z_goto C 84 dX4_nextToken_139 (by decide) ?_
                    refine zZ_sub [0] rfl ?_
                    refine zZ_cast (by rw [show (((e0 + e : Nat) : Int) + 1) = ((e0 + (e + 1) : Nat) : Int) by omega]) (zLk rfl) rfl (kke ⟨by omega, by simp only [firstN, hpe.2]; rw [if_neg (by simpa using h126)]⟩)
          · intro hpe
            refine z_aload_n C 0 rfl dX4_nextToken_84 rfl ?_
            refine y_getI C zCl4 3 flX4_26 rfl rfl dX4_nextToken_85 ?_
            rw [zTk_3]
            refine z_iconst C dX4_nextToken_88 ?_
            refine z_icmp_eq C 100 dX4_nextToken_89 (by decide) (by omega) (by omega) (fun h89 => ?_) (fun h89 => ?_)
            · refine z_aload_n C 0 rfl dX4_nextToken_100 rfl ?_
              refine y_getI C zCl4 5 flX4_32 rfl rfl dX4_nextToken_101 ?_
              rw [zTk_5]
              refine z_aload_n C 0 rfl dX4_nextToken_104 rfl ?_
              refine y_getI C zCl4 1 flX4_15 rfl rfl dX4_nextToken_105 ?_
              rw [zTk_1]
              refine z_icmp_ge C 142 dX4_nextToken_108 (by decide) (by omega) (by omega) (fun h108 => ?_) (fun h108 => ?_)
              · exact zZ_vret C hR (Nat.le_refl _) (Nat.le_refl _) dX4_nextToken_142 rfl (zIs_V (by rw [show tokE (I 12) n p = e0 + (n - e0) from (by unfold tokE; rw [← hT0, ← hs, if_neg (by omega), if_pos (by omega)]; rw [show s + 1 = e0 by omega]; exact upTo_none (P := fun i => !decide (tkN (I 12 i) = T)) hpe.2), ← hs, ← hT0]))
              · omega
            · refine z_aload_n C 0 rfl dX4_nextToken_92 rfl ?_
              refine y_getI C zCl4 3 flX4_26 rfl rfl dX4_nextToken_93 ?_
              rw [zTk_3]
              refine z_iconst C dX4_nextToken_96 ?_
              refine z_icmp_ne C 142 dX4_nextToken_97 (by decide) (by omega) (by omega) (fun h97 => ?_) (fun h97 => ?_)
              · exact zZ_vret C hR (Nat.le_refl _) (Nat.le_refl _) dX4_nextToken_142 rfl (zIs_V (by rw [← hs, ← hT0]; refine congrArg (fun x : Nat => zst (zTk I T (s : Nat) (x : Nat)) J q) ?_; have hz := hpe.1; unfold tokE; rw [← hT0, ← hs]; (repeat' split) <;> omega))
              · refine z_aload_n C 0 rfl dX4_nextToken_100 rfl ?_
                refine y_getI C zCl4 5 flX4_32 rfl rfl dX4_nextToken_101 ?_
                rw [zTk_5]
                refine z_aload_n C 0 rfl dX4_nextToken_104 rfl ?_
                refine y_getI C zCl4 1 flX4_15 rfl rfl dX4_nextToken_105 ?_
                rw [zTk_1]
                refine z_icmp_ge C 142 dX4_nextToken_108 (by decide) (by omega) (by omega) (fun h108 => ?_) (fun h108 => ?_)
                · exact zZ_vret C hR (Nat.le_refl _) (Nat.le_refl _) dX4_nextToken_142 rfl (zIs_V (by rw [show tokE (I 12) n p = e0 + (n - e0) from (by unfold tokE; rw [← hT0, ← hs, if_neg (by omega), if_pos (by omega)]; rw [show s + 1 = e0 by omega]; exact upTo_none (P := fun i => !decide (tkN (I 12 i) = T)) hpe.2), ← hs, ← hT0]))
                · omega
        · refine z_aload_n C 0 rfl dX4_nextToken_68 rfl ?_
          refine y_getI C zCl4 4 flX4_29 rfl rfl dX4_nextToken_69 ?_
          rw [zTk_4]
          refine z_goto C 81 dX4_nextToken_72 (by decide) ?_
          refine y_putI C zCl4 5 flX4_32 rfl rfl rfl rfl dX4_nextToken_81 ?_
          rw [zTk_p5]
          obtain ⟨e0, he0⟩ : ∃ e0, e0 = s := ⟨_, rfl⟩
          refine zZ_sub [0] rfl ?_
          refine zZ_cast (σ' := (fun e : Nat => zst (zTk I T (s : Nat) ((e0 + e : Nat) : Int)) J q) 0) (L' := (fun e : Nat => [(0, .ref 11)]) 0) (by subst he0; rfl) rfl rfl ?_
          refine zfor ((n - e0)) (fun e => (e = 0 ∨ T = 1 ∨ T = 2) ∧ firstN (fun i => !decide (tkN (I 12 (e0 + i)) = T)) e = none) (fun e : Nat => zst (zTk I T (s : Nat) ((e0 + e : Nat) : Int)) J q) (fun e : Nat => [(0, .ref 11)]) ⟨Or.inl rfl, rfl⟩ ?_ ?_
          · intro e hee hpe kke
            refine z_aload_n C 0 rfl dX4_nextToken_84 rfl ?_
            refine y_getI C zCl4 3 flX4_26 rfl rfl dX4_nextToken_85 ?_
            rw [zTk_3]
            refine z_iconst C dX4_nextToken_88 ?_
            refine z_icmp_eq C 100 dX4_nextToken_89 (by decide) (by omega) (by omega) (fun h89 => ?_) (fun h89 => ?_)
            · refine z_aload_n C 0 rfl dX4_nextToken_100 rfl ?_
              refine y_getI C zCl4 5 flX4_32 rfl rfl dX4_nextToken_101 ?_
              rw [zTk_5]
              refine z_aload_n C 0 rfl dX4_nextToken_104 rfl ?_
              refine y_getI C zCl4 1 flX4_15 rfl rfl dX4_nextToken_105 ?_
              rw [zTk_1]
              refine z_icmp_ge C 142 dX4_nextToken_108 (by decide) (by omega) (by omega) (fun h108 => ?_) (fun h108 => ?_)
              · omega
              · refine z_aload_n C 0 rfl dX4_nextToken_111 rfl ?_
                refine z_aload_n C 0 rfl dX4_nextToken_112 rfl ?_
                refine y_getI C zCl4 5 flX4_32 rfl rfl dX4_nextToken_113 ?_
                rw [zTk_5]
                refine y_callV1 C oX4_byteAt iX4_byteAt eX4_byteAt lkX4_133 (c_X4_byteAt (gT_tk hT) (by first | assumption | omega)) rfl (by decide) rfl rfl (by decide) (Nat.le_refl _) (Nat.le_refl _) (Nat.le_of_ble_eq_true rfl) dX4_nextToken_116 ?_
                refine z_top C (I 12 (e0 + e)) (by rw [zTk_12, zTk_1, hn2]; exact byN_in (by omega)) ?_
                refine y_callS1 C oX4_tokenOf sX4_tokenOf lkX4_146 (c_X4_tokenOf (by have := t2 (e0 + e) (by omega); omega)) (by decide) (Nat.le_refl _) (Nat.le_refl _) (Nat.le_of_ble_eq_true rfl) dX4_nextToken_119 ?_
                refine z_aload_n C 0 rfl dX4_nextToken_122 rfl ?_
                refine y_getI C zCl4 3 flX4_26 rfl rfl dX4_nextToken_123 ?_
                rw [zTk_3]
                refine z_icmp_ne C 142 dX4_nextToken_126 (by decide) (by have := tkN_r (I 12 (e0 + e)); omega) (by omega) (fun h126 => ?_) (fun h126 => ?_)
                · exact zZ_vret C hR (Nat.le_refl _) (Nat.le_refl _) dX4_nextToken_142 rfl (zIs_V (by rw [show tokE (I 12) n p = e0 + e from (by unfold tokE; rw [← hT0, ← hs, if_neg (by omega), if_pos (by omega)]; rw [show s + 1 = e0 by omega]; exact upTo_some (P := fun i => !decide (tkN (I 12 i) = T)) (by omega) hpe.2 (by simpa using h126)), ← hs, ← hT0]))
                · refine z_aload_n C 0 rfl dX4_nextToken_129 rfl ?_
                  refine z_dup C dX4_nextToken_130 rfl ?_
                  refine y_getI C zCl4 5 flX4_32 rfl rfl dX4_nextToken_131 ?_
                  rw [zTk_5]
                  refine z_iconst C dX4_nextToken_134 ?_
                  refine z_iadd C dX4_nextToken_135 ?_
                  refine y_putI C zCl4 5 flX4_32 rfl rfl rfl rfl dX4_nextToken_136 ?_
                  rw [zTk_p5]
                  refine z_goto C 84 dX4_nextToken_139 (by decide) ?_
                  refine zZ_sub [0] rfl ?_
                  refine zZ_cast (by rw [show (((e0 + e : Nat) : Int) + 1) = ((e0 + (e + 1) : Nat) : Int) by omega]) (zLk rfl) rfl (kke ⟨by omega, by simp only [firstN, hpe.2]; rw [if_neg (by simpa using h126)]⟩)
            · refine z_aload_n C 0 rfl dX4_nextToken_92 rfl ?_
              refine y_getI C zCl4 3 flX4_26 rfl rfl dX4_nextToken_93 ?_
              rw [zTk_3]
              refine z_iconst C dX4_nextToken_96 ?_
              refine z_icmp_ne C 142 dX4_nextToken_97 (by decide) (by omega) (by omega) (fun h97 => ?_) (fun h97 => ?_)
              · exact zZ_vret C hR (Nat.le_refl _) (Nat.le_refl _) dX4_nextToken_142 rfl (zIs_V (by rw [← hs, ← hT0]; refine congrArg (fun x : Nat => zst (zTk I T (s : Nat) (x : Nat)) J q) ?_; have hz := hpe.1; unfold tokE; rw [← hT0, ← hs]; (repeat' split) <;> omega))
              · refine z_aload_n C 0 rfl dX4_nextToken_100 rfl ?_
                refine y_getI C zCl4 5 flX4_32 rfl rfl dX4_nextToken_101 ?_
                rw [zTk_5]
                refine z_aload_n C 0 rfl dX4_nextToken_104 rfl ?_
                refine y_getI C zCl4 1 flX4_15 rfl rfl dX4_nextToken_105 ?_
                rw [zTk_1]
                refine z_icmp_ge C 142 dX4_nextToken_108 (by decide) (by omega) (by omega) (fun h108 => ?_) (fun h108 => ?_)
                · omega
                · refine z_aload_n C 0 rfl dX4_nextToken_111 rfl ?_
                  refine z_aload_n C 0 rfl dX4_nextToken_112 rfl ?_
                  refine y_getI C zCl4 5 flX4_32 rfl rfl dX4_nextToken_113 ?_
                  rw [zTk_5]
                  refine y_callV1 C oX4_byteAt iX4_byteAt eX4_byteAt lkX4_133 (c_X4_byteAt (gT_tk hT) (by first | assumption | omega)) rfl (by decide) rfl rfl (by decide) (Nat.le_refl _) (Nat.le_refl _) (Nat.le_of_ble_eq_true rfl) dX4_nextToken_116 ?_
                  refine z_top C (I 12 (e0 + e)) (by rw [zTk_12, zTk_1, hn2]; exact byN_in (by omega)) ?_
                  refine y_callS1 C oX4_tokenOf sX4_tokenOf lkX4_146 (c_X4_tokenOf (by have := t2 (e0 + e) (by omega); omega)) (by decide) (Nat.le_refl _) (Nat.le_refl _) (Nat.le_of_ble_eq_true rfl) dX4_nextToken_119 ?_
                  refine z_aload_n C 0 rfl dX4_nextToken_122 rfl ?_
                  refine y_getI C zCl4 3 flX4_26 rfl rfl dX4_nextToken_123 ?_
                  rw [zTk_3]
                  refine z_icmp_ne C 142 dX4_nextToken_126 (by decide) (by have := tkN_r (I 12 (e0 + e)); omega) (by omega) (fun h126 => ?_) (fun h126 => ?_)
                  · exact zZ_vret C hR (Nat.le_refl _) (Nat.le_refl _) dX4_nextToken_142 rfl (zIs_V (by rw [show tokE (I 12) n p = e0 + e from (by unfold tokE; rw [← hT0, ← hs, if_neg (by omega), if_pos (by omega)]; rw [show s + 1 = e0 by omega]; exact upTo_some (P := fun i => !decide (tkN (I 12 i) = T)) (by omega) hpe.2 (by simpa using h126)), ← hs, ← hT0]))
                  · refine z_aload_n C 0 rfl dX4_nextToken_129 rfl ?_
                    refine z_dup C dX4_nextToken_130 rfl ?_
                    refine y_getI C zCl4 5 flX4_32 rfl rfl dX4_nextToken_131 ?_
                    rw [zTk_5]
                    refine z_iconst C dX4_nextToken_134 ?_
                    refine z_iadd C dX4_nextToken_135 ?_
                    refine y_putI C zCl4 5 flX4_32 rfl rfl rfl rfl dX4_nextToken_136 ?_
                    rw [zTk_p5]
                    refine z_goto C 84 dX4_nextToken_139 (by decide) ?_
                    refine zZ_sub [0] rfl ?_
                    refine zZ_cast (by rw [show (((e0 + e : Nat) : Int) + 1) = ((e0 + (e + 1) : Nat) : Int) by omega]) (zLk rfl) rfl (kke ⟨by omega, by simp only [firstN, hpe.2]; rw [if_neg (by simpa using h126)]⟩)
          · intro hpe
            refine z_aload_n C 0 rfl dX4_nextToken_84 rfl ?_
            refine y_getI C zCl4 3 flX4_26 rfl rfl dX4_nextToken_85 ?_
            rw [zTk_3]
            refine z_iconst C dX4_nextToken_88 ?_
            refine z_icmp_eq C 100 dX4_nextToken_89 (by decide) (by omega) (by omega) (fun h89 => ?_) (fun h89 => ?_)
            · refine z_aload_n C 0 rfl dX4_nextToken_100 rfl ?_
              refine y_getI C zCl4 5 flX4_32 rfl rfl dX4_nextToken_101 ?_
              rw [zTk_5]
              refine z_aload_n C 0 rfl dX4_nextToken_104 rfl ?_
              refine y_getI C zCl4 1 flX4_15 rfl rfl dX4_nextToken_105 ?_
              rw [zTk_1]
              refine z_icmp_ge C 142 dX4_nextToken_108 (by decide) (by omega) (by omega) (fun h108 => ?_) (fun h108 => ?_)
              · exact zZ_vret C hR (Nat.le_refl _) (Nat.le_refl _) dX4_nextToken_142 rfl (zIs_V (by rw [show tokE (I 12) n p = e0 + (n - e0) from (by unfold tokE; rw [← hT0, ← hs, if_neg (by omega), if_pos (by omega)]; rw [show s + 1 = e0 by omega]; exact upTo_none (P := fun i => !decide (tkN (I 12 i) = T)) hpe.2), ← hs, ← hT0]))
              · omega
            · refine z_aload_n C 0 rfl dX4_nextToken_92 rfl ?_
              refine y_getI C zCl4 3 flX4_26 rfl rfl dX4_nextToken_93 ?_
              rw [zTk_3]
              refine z_iconst C dX4_nextToken_96 ?_
              refine z_icmp_ne C 142 dX4_nextToken_97 (by decide) (by omega) (by omega) (fun h97 => ?_) (fun h97 => ?_)
              · exact zZ_vret C hR (Nat.le_refl _) (Nat.le_refl _) dX4_nextToken_142 rfl (zIs_V (by rw [← hs, ← hT0]; refine congrArg (fun x : Nat => zst (zTk I T (s : Nat) (x : Nat)) J q) ?_; have hz := hpe.1; unfold tokE; rw [← hT0, ← hs]; (repeat' split) <;> omega))
              · refine z_aload_n C 0 rfl dX4_nextToken_100 rfl ?_
                refine y_getI C zCl4 5 flX4_32 rfl rfl dX4_nextToken_101 ?_
                rw [zTk_5]
                refine z_aload_n C 0 rfl dX4_nextToken_104 rfl ?_
                refine y_getI C zCl4 1 flX4_15 rfl rfl dX4_nextToken_105 ?_
                rw [zTk_1]
                refine z_icmp_ge C 142 dX4_nextToken_108 (by decide) (by omega) (by omega) (fun h108 => ?_) (fun h108 => ?_)
                · exact zZ_vret C hR (Nat.le_refl _) (Nat.le_refl _) dX4_nextToken_142 rfl (zIs_V (by rw [show tokE (I 12) n p = e0 + (n - e0) from (by unfold tokE; rw [← hT0, ← hs, if_neg (by omega), if_pos (by omega)]; rw [show s + 1 = e0 by omega]; exact upTo_none (P := fun i => !decide (tkN (I 12 i) = T)) hpe.2), ← hs, ← hT0]))
                · omega
      · refine z_aload_n C 0 rfl dX4_nextToken_32 rfl ?_
        refine z_dup C dX4_nextToken_33 rfl ?_
        refine y_getI C zCl4 4 flX4_29 rfl rfl dX4_nextToken_34 ?_
        rw [zTk_4]
        refine z_iconst C dX4_nextToken_37 ?_
        refine z_iadd C dX4_nextToken_38 ?_
        refine y_putI C zCl4 4 flX4_29 rfl rfl rfl rfl dX4_nextToken_39 ?_
        rw [zTk_p4]
        refine z_goto C 8 dX4_nextToken_42 (by decide) ?_
        refine zZ_sub [0] rfl ?_
        refine zZ_cast (by rw [show (((p + e : Nat) : Int) + 1) = ((p + (e + 1) : Nat) : Int) by omega]) (zLk rfl) rfl (kke (by simp only [firstN, hpe]; rw [if_neg (by simpa using h29)]))
  · intro hpe
    refine z_aload_n C 0 rfl dX4_nextToken_8 rfl ?_
    refine y_getI C zCl4 4 flX4_29 rfl rfl dX4_nextToken_9 ?_
    rw [zTk_4]
    refine z_aload_n C 0 rfl dX4_nextToken_12 rfl ?_
    refine y_getI C zCl4 1 flX4_15 rfl rfl dX4_nextToken_13 ?_
    rw [zTk_1]
    refine z_icmp_ge C 45 dX4_nextToken_16 (by decide) (by omega) (by omega) (fun h16 => ?_) (fun h16 => ?_)
    · have hS : skN (I 12) n p = p + (n - p) := upTo_none (P := fun i => !decide (I 12 i = 32)) hpe
      rw [← hS]
      obtain ⟨s, hs⟩ : ∃ s, s = skN (I 12) n p := ⟨_, rfl⟩
      rw [← hs]
      have hsr : p ≤ s ∧ s ≤ n := by rw [hs]; exact upTo_r (by omega)
      refine z_aload_n C 0 rfl dX4_nextToken_45 rfl ?_
      refine z_aload_n C 0 rfl dX4_nextToken_46 rfl ?_
      refine z_aload_n C 0 rfl dX4_nextToken_47 rfl ?_
      refine y_getI C zCl4 4 flX4_29 rfl rfl dX4_nextToken_48 ?_
      rw [zTk_4]
      refine y_callV1 C oX4_byteAt iX4_byteAt eX4_byteAt lkX4_133 (c_X4_byteAt (gT_tk hT) (by first | assumption | omega)) rfl (by decide) rfl rfl (by decide) (Nat.le_refl _) (Nat.le_refl _) (Nat.le_of_ble_eq_true rfl) dX4_nextToken_51 ?_
      refine z_top C (byN (I 12) n (s : Nat)) (by rw [zTk_12, zTk_1, hn2]) ?_
      refine y_callS1 C oX4_tokenOf sX4_tokenOf lkX4_146 (c_X4_tokenOf (by have := byN_b t2 (n := n) (i := (s : Nat)) (by omega); omega)) (by decide) (Nat.le_refl _) (Nat.le_refl _) (Nat.le_of_ble_eq_true rfl) dX4_nextToken_54 ?_
      obtain ⟨T, hT0⟩ : ∃ T, T = tokT (I 12) n p := ⟨_, rfl⟩
      have hTr := tokT_r (I 12) n p
      rw [← hT0] at hTr
      have hTz : T = 0 ↔ n ≤ s := by rw [hT0, hs]; exact tokT_0 hf
      refine z_top C (T) (by rw [hT0, hs]; rfl) ?_
      refine y_putI C zCl4 3 flX4_26 rfl rfl rfl rfl dX4_nextToken_57 ?_
      rw [zTk_p3]
      refine z_aload_n C 0 rfl dX4_nextToken_60 rfl ?_
      refine z_aload_n C 0 rfl dX4_nextToken_61 rfl ?_
      refine y_getI C zCl4 3 flX4_26 rfl rfl dX4_nextToken_62 ?_
      rw [zTk_3]
      refine z_if_ne C 75 dX4_nextToken_65 (by decide) (by omega) (fun h65 => ?_) (fun h65 => ?_)
      · refine z_aload_n C 0 rfl dX4_nextToken_75 rfl ?_
        refine y_getI C zCl4 4 flX4_29 rfl rfl dX4_nextToken_76 ?_
        rw [zTk_4]
        refine z_iconst C dX4_nextToken_79 ?_
        refine z_iadd C dX4_nextToken_80 ?_
        refine y_putI C zCl4 5 flX4_32 rfl rfl rfl rfl dX4_nextToken_81 ?_
        rw [zTk_p5]
        obtain ⟨e0, he0⟩ : ∃ e0, e0 = s + 1 := ⟨_, rfl⟩
        refine zZ_sub [0] rfl ?_
        refine zZ_cast (σ' := (fun e : Nat => zst (zTk I T (s : Nat) ((e0 + e : Nat) : Int)) J q) 0) (L' := (fun e : Nat => [(0, .ref 11)]) 0) (by subst he0; rfl) rfl rfl ?_
        refine zfor ((n - e0)) (fun e => (e = 0 ∨ T = 1 ∨ T = 2) ∧ firstN (fun i => !decide (tkN (I 12 (e0 + i)) = T)) e = none) (fun e : Nat => zst (zTk I T (s : Nat) ((e0 + e : Nat) : Int)) J q) (fun e : Nat => [(0, .ref 11)]) ⟨Or.inl rfl, rfl⟩ ?_ ?_
        · intro e hee hpe kke
          refine z_aload_n C 0 rfl dX4_nextToken_84 rfl ?_
          refine y_getI C zCl4 3 flX4_26 rfl rfl dX4_nextToken_85 ?_
          rw [zTk_3]
          refine z_iconst C dX4_nextToken_88 ?_
          refine z_icmp_eq C 100 dX4_nextToken_89 (by decide) (by omega) (by omega) (fun h89 => ?_) (fun h89 => ?_)
          · refine z_aload_n C 0 rfl dX4_nextToken_100 rfl ?_
            refine y_getI C zCl4 5 flX4_32 rfl rfl dX4_nextToken_101 ?_
            rw [zTk_5]
            refine z_aload_n C 0 rfl dX4_nextToken_104 rfl ?_
            refine y_getI C zCl4 1 flX4_15 rfl rfl dX4_nextToken_105 ?_
            rw [zTk_1]
            refine z_icmp_ge C 142 dX4_nextToken_108 (by decide) (by omega) (by omega) (fun h108 => ?_) (fun h108 => ?_)
            · omega
            · refine z_aload_n C 0 rfl dX4_nextToken_111 rfl ?_
              refine z_aload_n C 0 rfl dX4_nextToken_112 rfl ?_
              refine y_getI C zCl4 5 flX4_32 rfl rfl dX4_nextToken_113 ?_
              rw [zTk_5]
              refine y_callV1 C oX4_byteAt iX4_byteAt eX4_byteAt lkX4_133 (c_X4_byteAt (gT_tk hT) (by first | assumption | omega)) rfl (by decide) rfl rfl (by decide) (Nat.le_refl _) (Nat.le_refl _) (Nat.le_of_ble_eq_true rfl) dX4_nextToken_116 ?_
              refine z_top C (I 12 (e0 + e)) (by rw [zTk_12, zTk_1, hn2]; exact byN_in (by omega)) ?_
              refine y_callS1 C oX4_tokenOf sX4_tokenOf lkX4_146 (c_X4_tokenOf (by have := t2 (e0 + e) (by omega); omega)) (by decide) (Nat.le_refl _) (Nat.le_refl _) (Nat.le_of_ble_eq_true rfl) dX4_nextToken_119 ?_
              refine z_aload_n C 0 rfl dX4_nextToken_122 rfl ?_
              refine y_getI C zCl4 3 flX4_26 rfl rfl dX4_nextToken_123 ?_
              rw [zTk_3]
              refine z_icmp_ne C 142 dX4_nextToken_126 (by decide) (by have := tkN_r (I 12 (e0 + e)); omega) (by omega) (fun h126 => ?_) (fun h126 => ?_)
              · exact zZ_vret C hR (Nat.le_refl _) (Nat.le_refl _) dX4_nextToken_142 rfl (zIs_V (by rw [show tokE (I 12) n p = e0 + e from (by unfold tokE; rw [← hT0, ← hs, if_neg (by omega), if_pos (by omega)]; rw [show s + 1 = e0 by omega]; exact upTo_some (P := fun i => !decide (tkN (I 12 i) = T)) (by omega) hpe.2 (by simpa using h126)), ← hs, ← hT0]))
              · refine z_aload_n C 0 rfl dX4_nextToken_129 rfl ?_
                refine z_dup C dX4_nextToken_130 rfl ?_
                refine y_getI C zCl4 5 flX4_32 rfl rfl dX4_nextToken_131 ?_
                rw [zTk_5]
                refine z_iconst C dX4_nextToken_134 ?_
                refine z_iadd C dX4_nextToken_135 ?_
                refine y_putI C zCl4 5 flX4_32 rfl rfl rfl rfl dX4_nextToken_136 ?_
                rw [zTk_p5]
                refine z_goto C 84 dX4_nextToken_139 (by decide) ?_
                refine zZ_sub [0] rfl ?_
                refine zZ_cast (by rw [show (((e0 + e : Nat) : Int) + 1) = ((e0 + (e + 1) : Nat) : Int) by omega]) (zLk rfl) rfl (kke ⟨by omega, by simp only [firstN, hpe.2]; rw [if_neg (by simpa using h126)]⟩)
          · refine z_aload_n C 0 rfl dX4_nextToken_92 rfl ?_
            refine y_getI C zCl4 3 flX4_26 rfl rfl dX4_nextToken_93 ?_
            rw [zTk_3]
            refine z_iconst C dX4_nextToken_96 ?_
            refine z_icmp_ne C 142 dX4_nextToken_97 (by decide) (by omega) (by omega) (fun h97 => ?_) (fun h97 => ?_)
            · exact zZ_vret C hR (Nat.le_refl _) (Nat.le_refl _) dX4_nextToken_142 rfl (zIs_V (by rw [← hs, ← hT0]; refine congrArg (fun x : Nat => zst (zTk I T (s : Nat) (x : Nat)) J q) ?_; have hz := hpe.1; unfold tokE; rw [← hT0, ← hs]; (repeat' split) <;> omega))
            · refine z_aload_n C 0 rfl dX4_nextToken_100 rfl ?_
              refine y_getI C zCl4 5 flX4_32 rfl rfl dX4_nextToken_101 ?_
              rw [zTk_5]
              refine z_aload_n C 0 rfl dX4_nextToken_104 rfl ?_
              refine y_getI C zCl4 1 flX4_15 rfl rfl dX4_nextToken_105 ?_
              rw [zTk_1]
              refine z_icmp_ge C 142 dX4_nextToken_108 (by decide) (by omega) (by omega) (fun h108 => ?_) (fun h108 => ?_)
              · omega
              · refine z_aload_n C 0 rfl dX4_nextToken_111 rfl ?_
                refine z_aload_n C 0 rfl dX4_nextToken_112 rfl ?_
                refine y_getI C zCl4 5 flX4_32 rfl rfl dX4_nextToken_113 ?_
                rw [zTk_5]
                refine y_callV1 C oX4_byteAt iX4_byteAt eX4_byteAt lkX4_133 (c_X4_byteAt (gT_tk hT) (by first | assumption | omega)) rfl (by decide) rfl rfl (by decide) (Nat.le_refl _) (Nat.le_refl _) (Nat.le_of_ble_eq_true rfl) dX4_nextToken_116 ?_
                refine z_top C (I 12 (e0 + e)) (by rw [zTk_12, zTk_1, hn2]; exact byN_in (by omega)) ?_
                refine y_callS1 C oX4_tokenOf sX4_tokenOf lkX4_146 (c_X4_tokenOf (by have := t2 (e0 + e) (by omega); omega)) (by decide) (Nat.le_refl _) (Nat.le_refl _) (Nat.le_of_ble_eq_true rfl) dX4_nextToken_119 ?_
                refine z_aload_n C 0 rfl dX4_nextToken_122 rfl ?_
                refine y_getI C zCl4 3 flX4_26 rfl rfl dX4_nextToken_123 ?_
                rw [zTk_3]
                refine z_icmp_ne C 142 dX4_nextToken_126 (by decide) (by have := tkN_r (I 12 (e0 + e)); omega) (by omega) (fun h126 => ?_) (fun h126 => ?_)
                · exact zZ_vret C hR (Nat.le_refl _) (Nat.le_refl _) dX4_nextToken_142 rfl (zIs_V (by rw [show tokE (I 12) n p = e0 + e from (by unfold tokE; rw [← hT0, ← hs, if_neg (by omega), if_pos (by omega)]; rw [show s + 1 = e0 by omega]; exact upTo_some (P := fun i => !decide (tkN (I 12 i) = T)) (by omega) hpe.2 (by simpa using h126)), ← hs, ← hT0]))
                · refine z_aload_n C 0 rfl dX4_nextToken_129 rfl ?_
                  refine z_dup C dX4_nextToken_130 rfl ?_
                  refine y_getI C zCl4 5 flX4_32 rfl rfl dX4_nextToken_131 ?_
                  rw [zTk_5]
                  refine z_iconst C dX4_nextToken_134 ?_
                  refine z_iadd C dX4_nextToken_135 ?_
                  refine y_putI C zCl4 5 flX4_32 rfl rfl rfl rfl dX4_nextToken_136 ?_
                  rw [zTk_p5]
                  refine z_goto C 84 dX4_nextToken_139 (by decide) ?_
                  refine zZ_sub [0] rfl ?_
                  refine zZ_cast (by rw [show (((e0 + e : Nat) : Int) + 1) = ((e0 + (e + 1) : Nat) : Int) by omega]) (zLk rfl) rfl (kke ⟨by omega, by simp only [firstN, hpe.2]; rw [if_neg (by simpa using h126)]⟩)
        · intro hpe
          refine z_aload_n C 0 rfl dX4_nextToken_84 rfl ?_
          refine y_getI C zCl4 3 flX4_26 rfl rfl dX4_nextToken_85 ?_
          rw [zTk_3]
          refine z_iconst C dX4_nextToken_88 ?_
          refine z_icmp_eq C 100 dX4_nextToken_89 (by decide) (by omega) (by omega) (fun h89 => ?_) (fun h89 => ?_)
          · refine z_aload_n C 0 rfl dX4_nextToken_100 rfl ?_
            refine y_getI C zCl4 5 flX4_32 rfl rfl dX4_nextToken_101 ?_
            rw [zTk_5]
            refine z_aload_n C 0 rfl dX4_nextToken_104 rfl ?_
            refine y_getI C zCl4 1 flX4_15 rfl rfl dX4_nextToken_105 ?_
            rw [zTk_1]
            refine z_icmp_ge C 142 dX4_nextToken_108 (by decide) (by omega) (by omega) (fun h108 => ?_) (fun h108 => ?_)
            · exact zZ_vret C hR (Nat.le_refl _) (Nat.le_refl _) dX4_nextToken_142 rfl (zIs_V (by rw [show tokE (I 12) n p = e0 + (n - e0) from (by unfold tokE; rw [← hT0, ← hs, if_neg (by omega), if_pos (by omega)]; rw [show s + 1 = e0 by omega]; exact upTo_none (P := fun i => !decide (tkN (I 12 i) = T)) hpe.2), ← hs, ← hT0]))
            · omega
          · refine z_aload_n C 0 rfl dX4_nextToken_92 rfl ?_
            refine y_getI C zCl4 3 flX4_26 rfl rfl dX4_nextToken_93 ?_
            rw [zTk_3]
            refine z_iconst C dX4_nextToken_96 ?_
            refine z_icmp_ne C 142 dX4_nextToken_97 (by decide) (by omega) (by omega) (fun h97 => ?_) (fun h97 => ?_)
            · exact zZ_vret C hR (Nat.le_refl _) (Nat.le_refl _) dX4_nextToken_142 rfl (zIs_V (by rw [← hs, ← hT0]; refine congrArg (fun x : Nat => zst (zTk I T (s : Nat) (x : Nat)) J q) ?_; have hz := hpe.1; unfold tokE; rw [← hT0, ← hs]; (repeat' split) <;> omega))
            · refine z_aload_n C 0 rfl dX4_nextToken_100 rfl ?_
              refine y_getI C zCl4 5 flX4_32 rfl rfl dX4_nextToken_101 ?_
              rw [zTk_5]
              refine z_aload_n C 0 rfl dX4_nextToken_104 rfl ?_
              refine y_getI C zCl4 1 flX4_15 rfl rfl dX4_nextToken_105 ?_
              rw [zTk_1]
              refine z_icmp_ge C 142 dX4_nextToken_108 (by decide) (by omega) (by omega) (fun h108 => ?_) (fun h108 => ?_)
              · exact zZ_vret C hR (Nat.le_refl _) (Nat.le_refl _) dX4_nextToken_142 rfl (zIs_V (by rw [show tokE (I 12) n p = e0 + (n - e0) from (by unfold tokE; rw [← hT0, ← hs, if_neg (by omega), if_pos (by omega)]; rw [show s + 1 = e0 by omega]; exact upTo_none (P := fun i => !decide (tkN (I 12 i) = T)) hpe.2), ← hs, ← hT0]))
              · omega
      · refine z_aload_n C 0 rfl dX4_nextToken_68 rfl ?_
        refine y_getI C zCl4 4 flX4_29 rfl rfl dX4_nextToken_69 ?_
        rw [zTk_4]
        refine z_goto C 81 dX4_nextToken_72 (by decide) ?_
        refine y_putI C zCl4 5 flX4_32 rfl rfl rfl rfl dX4_nextToken_81 ?_
        rw [zTk_p5]
        obtain ⟨e0, he0⟩ : ∃ e0, e0 = s := ⟨_, rfl⟩
        refine zZ_sub [0] rfl ?_
        refine zZ_cast (σ' := (fun e : Nat => zst (zTk I T (s : Nat) ((e0 + e : Nat) : Int)) J q) 0) (L' := (fun e : Nat => [(0, .ref 11)]) 0) (by subst he0; rfl) rfl rfl ?_
        refine zfor ((n - e0)) (fun e => (e = 0 ∨ T = 1 ∨ T = 2) ∧ firstN (fun i => !decide (tkN (I 12 (e0 + i)) = T)) e = none) (fun e : Nat => zst (zTk I T (s : Nat) ((e0 + e : Nat) : Int)) J q) (fun e : Nat => [(0, .ref 11)]) ⟨Or.inl rfl, rfl⟩ ?_ ?_
        · intro e hee hpe kke
          refine z_aload_n C 0 rfl dX4_nextToken_84 rfl ?_
          refine y_getI C zCl4 3 flX4_26 rfl rfl dX4_nextToken_85 ?_
          rw [zTk_3]
          refine z_iconst C dX4_nextToken_88 ?_
          refine z_icmp_eq C 100 dX4_nextToken_89 (by decide) (by omega) (by omega) (fun h89 => ?_) (fun h89 => ?_)
          · refine z_aload_n C 0 rfl dX4_nextToken_100 rfl ?_
            refine y_getI C zCl4 5 flX4_32 rfl rfl dX4_nextToken_101 ?_
            rw [zTk_5]
            refine z_aload_n C 0 rfl dX4_nextToken_104 rfl ?_
            refine y_getI C zCl4 1 flX4_15 rfl rfl dX4_nextToken_105 ?_
            rw [zTk_1]
            refine z_icmp_ge C 142 dX4_nextToken_108 (by decide) (by omega) (by omega) (fun h108 => ?_) (fun h108 => ?_)
            · omega
            · refine z_aload_n C 0 rfl dX4_nextToken_111 rfl ?_
              refine z_aload_n C 0 rfl dX4_nextToken_112 rfl ?_
              refine y_getI C zCl4 5 flX4_32 rfl rfl dX4_nextToken_113 ?_
              rw [zTk_5]
              refine y_callV1 C oX4_byteAt iX4_byteAt eX4_byteAt lkX4_133 (c_X4_byteAt (gT_tk hT) (by first | assumption | omega)) rfl (by decide) rfl rfl (by decide) (Nat.le_refl _) (Nat.le_refl _) (Nat.le_of_ble_eq_true rfl) dX4_nextToken_116 ?_
              refine z_top C (I 12 (e0 + e)) (by rw [zTk_12, zTk_1, hn2]; exact byN_in (by omega)) ?_
              refine y_callS1 C oX4_tokenOf sX4_tokenOf lkX4_146 (c_X4_tokenOf (by have := t2 (e0 + e) (by omega); omega)) (by decide) (Nat.le_refl _) (Nat.le_refl _) (Nat.le_of_ble_eq_true rfl) dX4_nextToken_119 ?_
              refine z_aload_n C 0 rfl dX4_nextToken_122 rfl ?_
              refine y_getI C zCl4 3 flX4_26 rfl rfl dX4_nextToken_123 ?_
              rw [zTk_3]
              refine z_icmp_ne C 142 dX4_nextToken_126 (by decide) (by have := tkN_r (I 12 (e0 + e)); omega) (by omega) (fun h126 => ?_) (fun h126 => ?_)
              · exact zZ_vret C hR (Nat.le_refl _) (Nat.le_refl _) dX4_nextToken_142 rfl (zIs_V (by rw [show tokE (I 12) n p = e0 + e from (by unfold tokE; rw [← hT0, ← hs, if_neg (by omega), if_pos (by omega)]; rw [show s + 1 = e0 by omega]; exact upTo_some (P := fun i => !decide (tkN (I 12 i) = T)) (by omega) hpe.2 (by simpa using h126)), ← hs, ← hT0]))
              · refine z_aload_n C 0 rfl dX4_nextToken_129 rfl ?_
                refine z_dup C dX4_nextToken_130 rfl ?_
                refine y_getI C zCl4 5 flX4_32 rfl rfl dX4_nextToken_131 ?_
                rw [zTk_5]
                refine z_iconst C dX4_nextToken_134 ?_
                refine z_iadd C dX4_nextToken_135 ?_
                refine y_putI C zCl4 5 flX4_32 rfl rfl rfl rfl dX4_nextToken_136 ?_
                rw [zTk_p5]
                refine z_goto C 84 dX4_nextToken_139 (by decide) ?_
                refine zZ_sub [0] rfl ?_
                refine zZ_cast (by rw [show (((e0 + e : Nat) : Int) + 1) = ((e0 + (e + 1) : Nat) : Int) by omega]) (zLk rfl) rfl (kke ⟨by omega, by simp only [firstN, hpe.2]; rw [if_neg (by simpa using h126)]⟩)
          · refine z_aload_n C 0 rfl dX4_nextToken_92 rfl ?_
            refine y_getI C zCl4 3 flX4_26 rfl rfl dX4_nextToken_93 ?_
            rw [zTk_3]
            refine z_iconst C dX4_nextToken_96 ?_
            refine z_icmp_ne C 142 dX4_nextToken_97 (by decide) (by omega) (by omega) (fun h97 => ?_) (fun h97 => ?_)
            · exact zZ_vret C hR (Nat.le_refl _) (Nat.le_refl _) dX4_nextToken_142 rfl (zIs_V (by rw [← hs, ← hT0]; refine congrArg (fun x : Nat => zst (zTk I T (s : Nat) (x : Nat)) J q) ?_; have hz := hpe.1; unfold tokE; rw [← hT0, ← hs]; (repeat' split) <;> omega))
            · refine z_aload_n C 0 rfl dX4_nextToken_100 rfl ?_
              refine y_getI C zCl4 5 flX4_32 rfl rfl dX4_nextToken_101 ?_
              rw [zTk_5]
              refine z_aload_n C 0 rfl dX4_nextToken_104 rfl ?_
              refine y_getI C zCl4 1 flX4_15 rfl rfl dX4_nextToken_105 ?_
              rw [zTk_1]
              refine z_icmp_ge C 142 dX4_nextToken_108 (by decide) (by omega) (by omega) (fun h108 => ?_) (fun h108 => ?_)
              · omega
              · refine z_aload_n C 0 rfl dX4_nextToken_111 rfl ?_
                refine z_aload_n C 0 rfl dX4_nextToken_112 rfl ?_
                refine y_getI C zCl4 5 flX4_32 rfl rfl dX4_nextToken_113 ?_
                rw [zTk_5]
                refine y_callV1 C oX4_byteAt iX4_byteAt eX4_byteAt lkX4_133 (c_X4_byteAt (gT_tk hT) (by first | assumption | omega)) rfl (by decide) rfl rfl (by decide) (Nat.le_refl _) (Nat.le_refl _) (Nat.le_of_ble_eq_true rfl) dX4_nextToken_116 ?_
                refine z_top C (I 12 (e0 + e)) (by rw [zTk_12, zTk_1, hn2]; exact byN_in (by omega)) ?_
                refine y_callS1 C oX4_tokenOf sX4_tokenOf lkX4_146 (c_X4_tokenOf (by have := t2 (e0 + e) (by omega); omega)) (by decide) (Nat.le_refl _) (Nat.le_refl _) (Nat.le_of_ble_eq_true rfl) dX4_nextToken_119 ?_
                refine z_aload_n C 0 rfl dX4_nextToken_122 rfl ?_
                refine y_getI C zCl4 3 flX4_26 rfl rfl dX4_nextToken_123 ?_
                rw [zTk_3]
                refine z_icmp_ne C 142 dX4_nextToken_126 (by decide) (by have := tkN_r (I 12 (e0 + e)); omega) (by omega) (fun h126 => ?_) (fun h126 => ?_)
                · exact zZ_vret C hR (Nat.le_refl _) (Nat.le_refl _) dX4_nextToken_142 rfl (zIs_V (by rw [show tokE (I 12) n p = e0 + e from (by unfold tokE; rw [← hT0, ← hs, if_neg (by omega), if_pos (by omega)]; rw [show s + 1 = e0 by omega]; exact upTo_some (P := fun i => !decide (tkN (I 12 i) = T)) (by omega) hpe.2 (by simpa using h126)), ← hs, ← hT0]))
                · refine z_aload_n C 0 rfl dX4_nextToken_129 rfl ?_
                  refine z_dup C dX4_nextToken_130 rfl ?_
                  refine y_getI C zCl4 5 flX4_32 rfl rfl dX4_nextToken_131 ?_
                  rw [zTk_5]
                  refine z_iconst C dX4_nextToken_134 ?_
                  refine z_iadd C dX4_nextToken_135 ?_
                  refine y_putI C zCl4 5 flX4_32 rfl rfl rfl rfl dX4_nextToken_136 ?_
                  rw [zTk_p5]
                  refine z_goto C 84 dX4_nextToken_139 (by decide) ?_
                  refine zZ_sub [0] rfl ?_
                  refine zZ_cast (by rw [show (((e0 + e : Nat) : Int) + 1) = ((e0 + (e + 1) : Nat) : Int) by omega]) (zLk rfl) rfl (kke ⟨by omega, by simp only [firstN, hpe.2]; rw [if_neg (by simpa using h126)]⟩)
        · intro hpe
          refine z_aload_n C 0 rfl dX4_nextToken_84 rfl ?_
          refine y_getI C zCl4 3 flX4_26 rfl rfl dX4_nextToken_85 ?_
          rw [zTk_3]
          refine z_iconst C dX4_nextToken_88 ?_
          refine z_icmp_eq C 100 dX4_nextToken_89 (by decide) (by omega) (by omega) (fun h89 => ?_) (fun h89 => ?_)
          · refine z_aload_n C 0 rfl dX4_nextToken_100 rfl ?_
            refine y_getI C zCl4 5 flX4_32 rfl rfl dX4_nextToken_101 ?_
            rw [zTk_5]
            refine z_aload_n C 0 rfl dX4_nextToken_104 rfl ?_
            refine y_getI C zCl4 1 flX4_15 rfl rfl dX4_nextToken_105 ?_
            rw [zTk_1]
            refine z_icmp_ge C 142 dX4_nextToken_108 (by decide) (by omega) (by omega) (fun h108 => ?_) (fun h108 => ?_)
            · exact zZ_vret C hR (Nat.le_refl _) (Nat.le_refl _) dX4_nextToken_142 rfl (zIs_V (by rw [show tokE (I 12) n p = e0 + (n - e0) from (by unfold tokE; rw [← hT0, ← hs, if_neg (by omega), if_pos (by omega)]; rw [show s + 1 = e0 by omega]; exact upTo_none (P := fun i => !decide (tkN (I 12 i) = T)) hpe.2), ← hs, ← hT0]))
            · omega
          · refine z_aload_n C 0 rfl dX4_nextToken_92 rfl ?_
            refine y_getI C zCl4 3 flX4_26 rfl rfl dX4_nextToken_93 ?_
            rw [zTk_3]
            refine z_iconst C dX4_nextToken_96 ?_
            refine z_icmp_ne C 142 dX4_nextToken_97 (by decide) (by omega) (by omega) (fun h97 => ?_) (fun h97 => ?_)
            · exact zZ_vret C hR (Nat.le_refl _) (Nat.le_refl _) dX4_nextToken_142 rfl (zIs_V (by rw [← hs, ← hT0]; refine congrArg (fun x : Nat => zst (zTk I T (s : Nat) (x : Nat)) J q) ?_; have hz := hpe.1; unfold tokE; rw [← hT0, ← hs]; (repeat' split) <;> omega))
            · refine z_aload_n C 0 rfl dX4_nextToken_100 rfl ?_
              refine y_getI C zCl4 5 flX4_32 rfl rfl dX4_nextToken_101 ?_
              rw [zTk_5]
              refine z_aload_n C 0 rfl dX4_nextToken_104 rfl ?_
              refine y_getI C zCl4 1 flX4_15 rfl rfl dX4_nextToken_105 ?_
              rw [zTk_1]
              refine z_icmp_ge C 142 dX4_nextToken_108 (by decide) (by omega) (by omega) (fun h108 => ?_) (fun h108 => ?_)
              · exact zZ_vret C hR (Nat.le_refl _) (Nat.le_refl _) dX4_nextToken_142 rfl (zIs_V (by rw [show tokE (I 12) n p = e0 + (n - e0) from (by unfold tokE; rw [← hT0, ← hs, if_neg (by omega), if_pos (by omega)]; rw [show s + 1 = e0 by omega]; exact upTo_none (P := fun i => !decide (tkN (I 12 i) = T)) hpe.2), ← hs, ← hT0]))
              · omega
    · omega
