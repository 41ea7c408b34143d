set_option maxHeartbeats 4000000 in
set_option maxRecDepth 100000 in
theorem c_X6_hill {g : zG} {I : Nat → Nat → Int} {J : Nat → Nat → Int64} {q : Nat × Nat} {n : Nat} {f : Nat → Int} (hgr : gR I) (hrs : gRS (spR I)) (hT : gTR I) (he63 : I 63 = f) (hn : I 58 12 = (n : Nat)) : zRuns g mX6_hill 8 0 0 [.ref 58] (zst I J q) (hilPost I J q f n) := by
  obtain ⟨b1, b2, b3, b4, b5, b6, b7⟩ := id hgr
  obtain ⟨k1, k2, k3⟩ := id hrs
  have k1 : gC7 (I 58 3) := k1
  have k2 : 0 ≤ I 58 4 ∧ I 58 4 ≤ 4 := k2
  have k3 : ∀ e, e < 5 → gC7 (I 62 e) := k3
  have k1' := k1.1
  have b2' := b2.1
  obtain ⟨t1, t2⟩ := id hT
  have hf : ∀ k, k < n → 0 ≤ f k := fun k hk => by rw [← he63]; exact (t2 k (by omega)).1
  have hn25 : n ≤ 250 := by omega
  obtain ⟨hG0, hP0⟩ := hrV_gHR hgr hrs
  have hTK : gTR (hlK I) := by unfold gTR; rw [hlK_k (by decide), hlK_n (by decide) (by decide)]; exact hT
  have hfK := frP_rf (I := hlK I) (fun c hc => by rw [hlK_n (by decide) (by decide)]; exact b7 c hc)
  refine zRuns_intro rfl (Nat.le_of_ble_eq_true rfl) (fun X C hR => ?_)
  show zZ g X 0 0 _ 0 [(0, .ref 58)] []
  refine z_aload_n C 0 rfl dX6_hill_0 rfl ?_
  refine z_aload_n C 0 rfl dX6_hill_1 rfl ?_
  refine y_getR C zCl6 24 flX6_42 rfl rfl rfl dX6_hill_2 ?_
  refine y_callV1 C oX6_keep iX6_keep eX6_keep lkX6_204 (c_X6_keep_69 hgr) rfl (by decide) rfl rfl (by decide) (Nat.le_refl _) (Nat.le_refl _) (Nat.le_of_ble_eq_true rfl) dX6_hill_5 ?_
  
  refine z_aload_n C 0 rfl dX6_hill_8 rfl ?_
  refine z_iconst C dX6_hill_9 ?_
  refine y_putI C zCl6 15 flX6_152 rfl rfl rfl rfl dX6_hill_10 ?_
  refine zZ_cast (σ' := zst (hlK I) J q)  rfl rfl rfl ?_
  refine z_iconst C dX6_hill_13 ?_
  refine z_istore_n C [(1, .int (iI 0)), (0, .ref 58)] dX6_hill_14 rfl (by decide) rfl ?_
  refine z_iconst C dX6_hill_15 ?_
  refine z_istore_n C [(2, .int (iI 1)), (1, .int (iI 0)), (0, .ref 58)] dX6_hill_16 rfl (by decide) rfl ?_
  refine zZ_sub [2, 1, 0] rfl ?_
  refine zZ_cast (σ' := (fun (_ : Nat) (I' : Nat → Nat → Int) => zst I' J q) 0 (hlK I)) (L' := (fun (e : Nat) (I' : Nat → Nat → Int) => [(0, .ref 58), (1, .int (iI (e : Int))), (2, .int (iI 1))]) 0 (hlK I)) rfl rfl rfl ?_
  refine zforE (250) (fun e I' => firstN (paE f n (hrV I)) e = none ∧ hrV I' = (paS f n (hrV I) e).2 ∧ I' 58 15 = ((paS f n (hrV I) e).1 : Nat) ∧ frP (hlK I) I') (fun (_ : Nat) (I' : Nat → Nat → Int) => zst I' J q) (fun (e : Nat) (I' : Nat → Nat → Int) => [(0, .ref 58), (1, .int (iI (e : Int))), (2, .int (iI 1))]) (hlK I) ⟨rfl, hlK_h, zu_s, hfK⟩ ?_ ?_
  · intro e I' hee hpe kke
    have ok := paS_ok (R := hrV I) hf hG0 e
    have ok7 := pa_p7 hf hG0 hP0 e
    obtain ⟨P, R, hPR⟩ : ∃ P R, paS f n (hrV I) e = (P, R) := ⟨_, _, rfl⟩
    have hpe2 := hpe.2.1
    have e15i := hpe.2.2.1
    rw [hPR] at ok ok7 hpe2 e15i
    dsimp only at ok ok7 hpe2 e15i
    have e63 : I' 63 = f := by rw [hpe.2.2.2.1 63 (by decide), hlK_n (by decide) (by decide), he63]
    have e12 : (I' 58 12).toNat = n := by rw [hpe.2.2.2.2.1 12 (.inl rfl), hlK_k (by decide), hn]; exact Int.toNat_natCast n
    have e15 : (I' 58 15).toNat = P := by rw [e15i]; exact Int.toNat_natCast P
    refine z_iload_n C 2 rfl dX6_hill_17 rfl ?_
    refine z_if_eq C 78 dX6_hill_18 (by decide) (by omega) (fun h18 => ?_) (fun h18 => ?_)
    · omega
    · refine z_aload_n C 0 rfl dX6_hill_21 rfl ?_
      refine y_callV0 C oX6_next iX6_next eX6_next lkX6_179 (c_X6_next (frP_t hpe.2.2.2 hTK) (by rw [e15i, hpe.2.2.2.2.1 12 (.inl rfl), hlK_k (by decide), hn]; omega)) rfl (by decide) rfl rfl (by decide) (Nat.le_refl _) (Nat.le_refl _) (Nat.le_of_ble_eq_true rfl) dX6_hill_22 ?_
      obtain ⟨I1, hI1⟩ : ∃ A, A = nxR I' (I' 63) (I' 58 12).toNat (I' 58 15).toNat := ⟨_, rfl⟩
      rw [← hI1]
      rw [e63, e12, e15] at hI1
      have hr1 : hrV I1 = R := by rw [hI1, nx_h]; exact hpe2
      have hf1 : frP (hlK I) I1 := by rw [hI1]; exact frP_nx hpe.2.2.2
      have hg1 := hr_g hr1 ok.2 ok7 hf1.2.2.1
      have hk1 : pkR I1 I1 f n P := ⟨⟨fun _ _ => rfl, fun _ _ => rfl⟩, by rw [hI1]; exact nx_tk, by rw [hf1.1 63 (by decide), hlK_n (by decide) (by decide), he63], by rw [hf1.2.1 12 (.inl rfl), hlK_k (by decide), hn]⟩
      obtain ⟨b, z, R2, hst⟩ : ∃ b z R2, stF f n P R = (b, z, R2) := ⟨_, _, _, rfl⟩
      have hst2 := st_le (R := R) hf ok.1
      rw [hst] at hst2
      have hz : P ≤ z ∧ z ≤ n := hst2
      have htz := tok_r hf hz.2
      have htz2 := tok_r hf htz.2.2
      have hTz := tokT_r f n (tokE f n z)
      refine z_aload_n C 0 rfl dX6_hill_25 rfl ?_
      have hK := c_X6_statement (g := g) (J := J) (q := q) (I := I1) (n := n) (p := P) (f := f) hg1.1 hg1.2 (frP_t hf1 hTK) hk1 ok.1
      rw [hr1, hst] at hK
      refine zZ_callV (as := []) C oX6_statement iX6_statement eX6_statement lkX6_208 rfl (by decide) rfl rfl hK rfl (by omega) (Nat.le_refl _) (Nat.le_refl _) (Nat.le_of_ble_eq_true rfl) dX6_hill_26 (fun r1 σ1 h => ?_)
      obtain ⟨I2, rfl, rfl, hr2, ht2, hf2⟩ := h
      have hf2 := frP_tr hf1 hf2
      have ht2 : tkR I2 f n z := ht2
      have hr2 : hrV I2 = R2 := hr2
      show zZ g X 0 0 (zst I2 J q) _ _ (.int (iI (bI b)) :: [])
      refine z_topI C (fun mm emm => ?_)
      have hmm : 0 ≤ mm ∧ mm ≤ 1 := by rw [emm]; cases b <;> decide
      refine z_istore_n C [(2, .int (iI mm)), (0, .ref 58), (1, .int (iI ((e : Int))))] dX6_hill_29 rfl (by decide) rfl ?_
      refine z_iload_n C 0 rfl dX6_hill_30 rfl ?_
      refine z_if_ne C 37 dX6_hill_31 (by decide) (by omega) (fun h31 => ?_) (fun h31 => ?_)
      · have hb : b = true := by cases b with | true => rfl | false => exact absurd emm h31
        obtain ⟨v1, ev1⟩ : ∃ y : Int, y = (e : Int) + 1 := ⟨_, rfl⟩
        refine z_iinc C 2 v1 [(1, .int (iI v1)), (2, .int (iI mm)), (0, .ref 58)] dX6_hill_37 rfl ev1.symm (by decide) rfl ?_
        have q63 : I2 63 = f := by rw [hf2.1 63 (by decide), hlK_n (by decide) (by decide), he63]
        have q12 : (I2 58 12).toNat = n := by rw [hf2.2.1 12 (.inl rfl), hlK_k (by decide), hn]; exact Int.toNat_natCast n
        have q15 : (I2 58 15).toNat = tokE f n z := by rw [ht2.2.1]; exact Int.toNat_natCast _
        refine z_aload_n C 2 rfl dX6_hill_40 rfl ?_
        refine y_callV0 C oX6_next iX6_next eX6_next lkX6_179 (c_X6_next (frP_t hf2 hTK) (by rw [ht2.2.1, hf2.2.1 12 (.inl rfl), hlK_k (by decide), hn]; omega)) rfl (by decide) rfl rfl (by decide) (Nat.le_refl _) (Nat.le_refl _) (Nat.le_of_ble_eq_true rfl) dX6_hill_41 ?_
        obtain ⟨I3, hI3⟩ : ∃ A, A = nxR I2 (I2 63) (I2 58 12).toNat (I2 58 15).toNat := ⟨_, rfl⟩
        rw [← hI3]
        rw [q63, q12, q15] at hI3
        have hr3 : hrV I3 = R2 := by rw [hI3, nx_h]; exact hr2
        have hf3 : frP (hlK I) I3 := by rw [hI3]; exact frP_nx hf2
        have ht3 : tkR I3 f n (tokE f n z) := by rw [hI3]; exact nx_tk
        refine z_aload_n C 2 rfl dX6_hill_44 rfl ?_
        refine y_getI C zCl6 16 flX6_158 rfl rfl dX6_hill_45 ?_
        refine z_top C (rtkN (tokT f n (tokE f n z)) (tokE f n (tokE f n z) - skN f n (tokE f n z))) (ht3.2.2) ?_
        have hrr := rtk_r (T := tokT f n (tokE f n z)) (len := tokE f n (tokE f n z) - skN f n (tokE f n z))
        refine z_bipush C dX6_hill_48 (by decide) ?_
        refine z_icmp_ne C 60 dX6_hill_50 (by decide) (by omega) (by omega) (fun h50 => ?_) (fun h50 => ?_)
        · have hQ0 : ¬ tokT f n (tokE f n z) = 0 := fun z => h50 (rtk_101.mpr z)
          refine z_aload_n C 2 rfl dX6_hill_60 rfl ?_
          refine y_getI C zCl6 16 flX6_158 rfl rfl dX6_hill_61 ?_
          refine z_top C (rtkN (tokT f n (tokE f n z)) (tokE f n (tokE f n z) - skN f n (tokE f n z))) (ht3.2.2) ?_
          refine z_bipush C dX6_hill_64 (by decide) ?_
          refine z_icmp_ne C 73 dX6_hill_66 (by decide) (by omega) (by omega) (fun h66 => ?_) (fun h66 => ?_)
          · have hQ3 : ¬ tokT f n (tokE f n z) = 3 := fun z => h66 (rtk_59.mpr z)
            refine z_iconst C dX6_hill_73 ?_
            refine z_istore_n C [(2, .int (iI 0)), (1, .int (iI v1)), (0, .ref 58)] dX6_hill_74 rfl (by decide) rfl ?_
            refine z_goto C 17 dX6_hill_75 (by decide) ?_
            refine z_iload_n C 0 rfl dX6_hill_17 rfl ?_
            refine z_if_eq C 78 dX6_hill_18 (by decide) (by omega) (fun h18 => ?_) (fun h18 => ?_)
            · have hfA := hf3
              have htA := ht3
              refine z_aload_n C 2 rfl dX6_hill_78 rfl ?_
              refine z_aload_n C 2 rfl dX6_hill_79 rfl ?_
              refine y_getR C zCl6 24 flX6_42 rfl rfl rfl dX6_hill_80 ?_
              refine y_callV1 C oX6_keepBack iX6_keepBack eX6_keepBack lkX6_212 (c_X6_keepBack_69 (fun k hk => by rw [hfA.1 69 (by decide), hlK_69 (by omega)]; unfold kpF; rw [if_pos hk]; exact b7 k hk)) rfl (by decide) rfl rfl (by decide) (Nat.le_refl _) (Nat.le_refl _) (Nat.le_of_ble_eq_true rfl) dX6_hill_83 ?_
              refine z_aload_n C 2 rfl dX6_hill_86 rfl ?_
              refine z_iconst C dX6_hill_87 ?_
              refine y_putI C zCl6 12 flX6_149 rfl rfl rfl rfl dX6_hill_88 ?_
              refine z_aload_n C 2 rfl dX6_hill_91 rfl ?_
              refine z_bipush C dX6_hill_92 (by decide) ?_
              refine y_callV1 C oX6_no iX6_no eX6_no lkX6_83 (c_X6_no (by first | assumption | omega)) rfl (by decide) rfl rfl (by decide) (Nat.le_refl _) (Nat.le_refl _) (Nat.le_of_ble_eq_true rfl) dX6_hill_94 ?_
              refine z_pop C dX6_hill_97 rfl ?_
              obtain ⟨Q, hQ⟩ : ∃ Q, Q = (tokE f n z) := ⟨_, rfl⟩
              rw [← hQ] at htA
              refine z_bipush C dX6_hill_98 (by decide) ?_
              refine z_aload_n C 2 rfl dX6_hill_100 rfl ?_
              refine y_getI C zCl6 14 flX6_155 rfl rfl dX6_hill_101 ?_
              refine z_top C ((skN f n Q : Nat)) (htA.1) ?_
              refine z_isub C dX6_hill_104 ?_
              refine zZ_iret C hR (Nat.le_refl _) (Nat.le_refl _) dX6_hill_105 rfl ?_
              have hO : paR f n (hrV I) = ((-20 - ((skN f n (tokE f n z) : Nat) : Int) : Int), tokE f n z, R2) := by
                rw [paR_at hee hpe.1 (by unfold paE; rw [hPR]; dsimp only; rw [hst]; dsimp only; rw [decide_eq_false (show ¬ tokT f n (tokE f n z) = 3 from hQ3), Bool.and_false]; rfl), hPR]
                dsimp only
                rw [hst, hb]
                exact (if_neg (by simp)).trans (if_neg hQ0)
              refine ⟨(refR (zu (kbI I3 69) 58 12 0) (-2)), rfl, by rw [hO]; show some (Value.int (iI (-20 - ((skN f n Q : Nat) : Int)))) = some (Value.int (iI (-20 - ((skN f n (tokE f n z) : Nat) : Int)))); rw [hQ], rfl, fun i h1 h2 h3 => ?_, fun k hk => ?_, fun c hc => ?_, fun c hc h7 => ?_, ?_⟩
              · show zu (zu (kbI I3 69) 58 12 0) 67 _ _ i = I i
                rw [zu_ne h2, zu_ne (by omega), kb_n (by omega), hf3.1 i h1, hlK_n (by omega) h3]
              · show zu (zu (kbI I3 69) 58 12 0) 67 _ _ 58 k = I 58 k
                rw [zu_ne (by decide), zu_n (by omega), kb_k (by omega), hf3.2.1 k (.inr hk), hlK_k (by omega)]
              · exact kb_59 hc
              · exact (kb_59v hc).trans (by rw [hf3.1 69 (by decide), hlK_69 (by omega)]; unfold kpF; rw [if_pos hc]; rcases b7 c hc with z | z <;> rw [z] <;> rfl)
              · rw [hO, if_pos (show (-20 - ((skN f n (tokE f n z) : Nat) : Int)) < 0 by omega)]
                refine ⟨hrL_c (kb_hr hgr.2.2.2.2.2.2 (fun k hk => by rw [hf3.1 69 (by decide), hlK_69 hk])) (hrV_67.trans (hrV_c12 (I := kbI I3 69))), ?_⟩
                show zu (zu (kbI I3 69) 58 12 0) 67 2 (zu (kbI I3 69) 58 12 0 67 2 + 1) 67 = zu I 67 2 (I 67 2 + 1) 67
                rw [zu_row, zu_row, zu_ne (show (67 : Nat) ≠ 58 by decide), kb_n (by decide), hf3.1 67 (by decide), hlK_n (by decide) (by decide)]
            · omega
          · have hQ3 := rtk_59.mp h66
            refine z_iconst C dX6_hill_69 ?_
            refine z_goto C 74 dX6_hill_70 (by decide) ?_
            refine z_istore_n C [(2, .int (iI 1)), (1, .int (iI v1)), (0, .ref 58)] dX6_hill_74 rfl (by decide) rfl ?_
            refine z_goto C 17 dX6_hill_75 (by decide) ?_
            refine zZ_sub [2, 1, 0] rfl ?_
            refine zZ_cast rfl (zLk (zLc (by omega) (zLc (by omega) rfl))) rfl (kke I3 ⟨by simp only [firstN, hpe.1]; rw [if_neg (by unfold paE; rw [hPR]; dsimp only; rw [hst]; dsimp only; rw [hb, decide_eq_true hQ3]; decide)], by rw [paS, hPR]; dsimp only; rw [hst]; exact hr3, by rw [paS, hPR]; dsimp only; rw [hst]; exact ht3.2.1, hf3⟩)
        · have hQ0 := rtk_101.mp h50
          refine z_aload_n C 2 rfl dX6_hill_53 rfl ?_
          refine z_iconst C dX6_hill_54 ?_
          refine y_putI C zCl6 12 flX6_149 rfl rfl rfl rfl dX6_hill_55 ?_
          refine z_iload_n C 0 rfl dX6_hill_58 rfl ?_
          refine zZ_iret C hR (Nat.le_refl _) (Nat.le_refl _) dX6_hill_59 rfl ?_
          have hO : paR f n (hrV I) = (((e + 1 : Nat) : Int), tokE f n z, R2) := by
            rw [paR_at hee hpe.1 (by unfold paE; rw [hPR]; dsimp only; rw [hst]; dsimp only; rw [decide_eq_false (show ¬ tokT f n (tokE f n z) = 3 by omega), Bool.and_false]; rfl), hPR]
            dsimp only
            rw [hst, hb]
            exact (if_neg (by simp)).trans (if_pos hQ0)
          refine ⟨zu I3 58 12 0, rfl, by rw [hO]; exact congrArg (fun x => some (Value.int (iI x))) (by omega), zu_s, fun i h1 h2 h3 => by rw [zu_ne (by omega), hf3.1 i h1, hlK_n (by omega) h3], fun k hk => by rw [zu_n (by omega), hf3.2.1 k (.inr hk), hlK_k (by omega)], fun c hc => by rw [zu_ne (by decide)]; exact hf3.2.2.1 c hc, fun c hc h7 => by rw [zu_ne (by decide), hf3.2.2.2 c hc h7, hlK_n (by decide) (by decide)], ?_⟩
          rw [hO, if_neg (show ¬ (((e + 1 : Nat) : Int)) < 0 by omega)]
          exact ⟨(hrV_c12 (I := I3)).trans hr3, by rw [zu_ne (by decide), hf3.1 67 (by decide), hlK_n (by decide) (by decide)]⟩
      · refine z_goto C 17 dX6_hill_34 (by decide) ?_
        refine z_iload_n C 0 rfl dX6_hill_17 rfl ?_
        refine z_if_eq C 78 dX6_hill_18 (by decide) (by omega) (fun h18 => ?_) (fun h18 => ?_)
        · have hb : b = false := by cases b with | false => rfl | true => rw [emm] at h31; exact absurd h31 (by decide)
          have hfA := hf2
          have htA := ht2
          refine z_aload_n C 1 rfl dX6_hill_78 rfl ?_
          refine z_aload_n C 1 rfl dX6_hill_79 rfl ?_
          refine y_getR C zCl6 24 flX6_42 rfl rfl rfl dX6_hill_80 ?_
          refine y_callV1 C oX6_keepBack iX6_keepBack eX6_keepBack lkX6_212 (c_X6_keepBack_69 (fun k hk => by rw [hfA.1 69 (by decide), hlK_69 (by omega)]; unfold kpF; rw [if_pos hk]; exact b7 k hk)) rfl (by decide) rfl rfl (by decide) (Nat.le_refl _) (Nat.le_refl _) (Nat.le_of_ble_eq_true rfl) dX6_hill_83 ?_
          refine z_aload_n C 1 rfl dX6_hill_86 rfl ?_
          refine z_iconst C dX6_hill_87 ?_
          refine y_putI C zCl6 12 flX6_149 rfl rfl rfl rfl dX6_hill_88 ?_
          refine z_aload_n C 1 rfl dX6_hill_91 rfl ?_
          refine z_bipush C dX6_hill_92 (by decide) ?_
          refine y_callV1 C oX6_no iX6_no eX6_no lkX6_83 (c_X6_no (by first | assumption | omega)) rfl (by decide) rfl rfl (by decide) (Nat.le_refl _) (Nat.le_refl _) (Nat.le_of_ble_eq_true rfl) dX6_hill_94 ?_
          refine z_pop C dX6_hill_97 rfl ?_
          obtain ⟨Q, hQ⟩ : ∃ Q, Q = z := ⟨_, rfl⟩
          rw [← hQ] at htA
          refine z_bipush C dX6_hill_98 (by decide) ?_
          refine z_aload_n C 1 rfl dX6_hill_100 rfl ?_
          refine y_getI C zCl6 14 flX6_155 rfl rfl dX6_hill_101 ?_
          refine z_top C ((skN f n Q : Nat)) (htA.1) ?_
          refine z_isub C dX6_hill_104 ?_
          refine zZ_iret C hR (Nat.le_refl _) (Nat.le_refl _) dX6_hill_105 rfl ?_
          have hO : paR f n (hrV I) = ((-20 - ((skN f n z : Nat) : Int) : Int), z, R2) := by
            rw [paR_at hee hpe.1 (by unfold paE; rw [hPR]; dsimp only; rw [hst]; dsimp only; rw [hb]; rfl), hPR]
            dsimp only
            rw [hst, hb]
            exact if_pos rfl
          refine ⟨(refR (zu (kbI I2 69) 58 12 0) (-2)), rfl, by rw [hO]; show some (Value.int (iI (-20 - ((skN f n Q : Nat) : Int)))) = some (Value.int (iI (-20 - ((skN f n z : Nat) : Int)))); rw [hQ], rfl, fun i h1 h2 h3 => ?_, fun k hk => ?_, fun c hc => ?_, fun c hc h7 => ?_, ?_⟩
          · show zu (zu (kbI I2 69) 58 12 0) 67 _ _ i = I i
            rw [zu_ne h2, zu_ne (by omega), kb_n (by omega), hf2.1 i h1, hlK_n (by omega) h3]
          · show zu (zu (kbI I2 69) 58 12 0) 67 _ _ 58 k = I 58 k
            rw [zu_ne (by decide), zu_n (by omega), kb_k (by omega), hf2.2.1 k (.inr hk), hlK_k (by omega)]
          · exact kb_59 hc
          · exact (kb_59v hc).trans (by rw [hf2.1 69 (by decide), hlK_69 (by omega)]; unfold kpF; rw [if_pos hc]; rcases b7 c hc with z | z <;> rw [z] <;> rfl)
          · rw [hO, if_pos (show (-20 - ((skN f n z : Nat) : Int)) < 0 by omega)]
            refine ⟨hrL_c (kb_hr hgr.2.2.2.2.2.2 (fun k hk => by rw [hf2.1 69 (by decide), hlK_69 hk])) (hrV_67.trans (hrV_c12 (I := kbI I2 69))), ?_⟩
            show zu (zu (kbI I2 69) 58 12 0) 67 2 (zu (kbI I2 69) 58 12 0 67 2 + 1) 67 = zu I 67 2 (I 67 2 + 1) 67
            rw [zu_row, zu_row, zu_ne (show (67 : Nat) ≠ 58 by decide), kb_n (by decide), hf2.1 67 (by decide), hlK_n (by decide) (by decide)]
        · omega
  · intro I' hpe
    exact absurd hpe.1 (pa_some hn25 hf hG0)
