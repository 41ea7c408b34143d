set_option maxHeartbeats 4000000 in
set_option maxRecDepth 100000 in
theorem c_X6_fewest {g : zG} {I : Nat → Nat → Int} {J : Nat → Nat → Int64} {q : Nat × Nat} {m i : Int} (hgr : gR I) (hrs : gRS (spR I)) (hrl : gRL I) (hdo : openN (I 58 0) (maskW (I 59)) (I 58 3) = true) (hm : -2147483648 ≤ m ∧ m ≤ 2147483647) (hi : -2147483648 ≤ i ∧ i ≤ 2147483647) : zRuns g mX6_fewest 15 0 0 [.ref 58, .int (iI m), .int (iI i)] (zst I J q) (zEx (some (.int (iI (uR (fFewR I m i) (fewestR I m i))))) (fun I2 : {I2 // frR I I2} => zst (uK I2.1 (fFewR I m i) I2.1) J q)) := by
  obtain ⟨b1, b2, b3, b4, b5, b6, b7⟩ := id hgr
  obtain ⟨k1, k2, k3⟩ := id hrs
  have k1 : gC7 (I 58 3) := k1
  have k2 : 0 ≤ I 58 4 ∧ I 58 4 ≤ 4 := k2
  have k3 : ∀ e, e < 5 → gC7 (I 62 e) := k3
  have k1' := k1.1
  have b2' := b2.1
  have v10 : VI I 1 0 = I 58 0 := congrArg (fun x => x) rfl
  have v11 : VI I 1 1 = I 58 2 := congrArg (fun x => x) rfl
  have v12 : VI I 1 2 = I 58 9 := congrArg (fun x => x) rfl
  have v16 : VI I 1 6 = I 58 5 := congrArg (fun x => x) rfl
  have v40 : VI I 4 0 = I 58 3 := congrArg (fun x => x) rfl
  have v41 : VI I 4 1 = I 58 4 := congrArg (fun x => x) rfl
  have v111 : VI I 11 1 = I 58 12 := congrArg (fun x => x) rfl
  have v13 : VI I 1 3 = I 58 10 := congrArg (fun x => x) rfl
  have v14 : VI I 1 4 = I 58 11 := congrArg (fun x => x) rfl
  refine zRuns_intro rfl (Nat.le_of_ble_eq_true rfl) (fun X C hR => ?_)
  show zZ g X 0 0 _ 0 [(0, .ref 58), (1, .int (iI m)), (2, .int (iI i))] []
  refine z_iload_n C 1 rfl dX6_fewest_0 rfl ?_
  refine z_iconst C dX6_fewest_1 ?_
  refine z_bipush C dX6_fewest_2 (by decide) ?_
  refine y_callS3 C oX6_within sX6_within lkX6_75 (c_X6_within (by first | assumption | omega) (by first | assumption | omega) (by first | assumption | omega)) (by decide) (Nat.le_refl _) (Nat.le_refl _) (Nat.le_of_ble_eq_true rfl) dX6_fewest_4 ?_
  refine y_if_eqB C 15 dX6_fewest_7 (by decide) (fun h7 => ?_) (fun h7 => ?_)
  · have h7b : ¬ (0 ≤ m ∧ m ≤ 6) := of_decide_eq_false h7
    refine z_aload_n C 0 rfl dX6_fewest_15 rfl ?_
    refine z_bipush C dX6_fewest_16 (by decide) ?_
    refine y_callV1 C oX6_no iX6_no eX6_no lkX6_83 (c_X6_no (by first | assumption | omega)) rfl (by decide) rfl rfl (by decide) (Nat.le_refl _) (Nat.le_refl _) (Nat.le_of_ble_eq_true rfl) dX6_fewest_18 ?_
    exact zZ_iret C hR (Nat.le_refl _) (Nat.le_refl _) dX6_fewest_21 rfl (zEx_I (uRc (show fFewR I m i = -2 by unfold fFewR; rw [if_pos (by omega)]) (by decide)).symm ⟨I, frR_rf⟩ (by rw [uKc (show fFewR I m i = -2 by unfold fFewR; rw [if_pos (by omega)]) (by decide)]))
  · have h7b : 0 ≤ m ∧ m ≤ 6 := of_decide_eq_true h7
    refine z_iload_n C 2 rfl dX6_fewest_10 rfl ?_
    refine z_iconst C dX6_fewest_11 ?_
    refine z_icmp_ge C 22 dX6_fewest_12 (by decide) (by omega) (by omega) (fun h12 => ?_) (fun h12 => ?_)
    · refine z_iconst C dX6_fewest_22 ?_
      refine z_istore_n C [(3, .int (iI 0)), (0, .ref 58), (1, .int (iI m)), (2, .int (iI i))] dX6_fewest_23 rfl (by decide) rfl ?_
      refine zZ_sub [1, 2, 3, 0] rfl ?_
      refine zZ_cast (σ' := (fun (_ : Nat) (I' : Nat → Nat → Int) => zst I' J q) 0 I) (L' := (fun (e : Nat) (I' : Nat → Nat → Int) => [(0, .ref 58), (1, .int (iI m)), (2, .int (iI i)), (3, .int (iI (e : Int)))]) 0 I) rfl rfl rfl ?_
      refine zforE ((m.toNat + 1)) (fun e I' => frG I I' 0 ∧ firstN (fun k => (bgP (hvR I) k (spR I)).isSome) e = none) (fun (_ : Nat) (I' : Nat → Nat → Int) => zst I' J q) (fun (e : Nat) (I' : Nat → Nat → Int) => [(0, .ref 58), (1, .int (iI m)), (2, .int (iI i)), (3, .int (iI (e : Int)))]) I ⟨frG_rf, rfl⟩ ?_ ?_
      · intro e I' hee hpe kke
        refine z_iload_n C 3 rfl dX6_fewest_24 rfl ?_
        refine z_iload_n C 1 rfl dX6_fewest_25 rfl ?_
        refine z_icmp_gt C 44 dX6_fewest_26 (by decide) (by omega) (by omega) (fun h26 => ?_) (fun h26 => ?_)
        · omega
        · refine z_aload_n C 0 rfl dX6_fewest_29 rfl ?_
          refine z_iconst C dX6_fewest_30 ?_
          refine z_iload_n C 3 rfl dX6_fewest_31 rfl ?_
          have hfr := hpe.1
          have hK := c_X6_brings (g := g) (J := J) (q := q) e 0 I' (by omega) (frG_gR hfr hgr) (by rw [frG_sp hfr]; exact hrs) (by rw [hfr.1 58 (by decide) (by decide), hfr.1 59 (by decide) (by decide)]; exact hdo)
          rw [frG_hv hfr, frG_sp hfr, show ((0 + e : Nat) : Int) = (e : Int) by omega] at hK
          refine zZ_callV (as := [.int (iI 0), .int (iI (e : Int))]) C oX6_brings iX6_brings eX6_brings lkX6_241 rfl (by decide) rfl rfl hK rfl (by omega) (Nat.le_refl _) (Nat.le_refl _) (Nat.le_of_ble_eq_true rfl) dX6_fewest_32 (fun r1 σ1 h => ?_)
          obtain ⟨I2, rfl, rfl, hf2, hl2⟩ := h
          have hf3 : frG I I2 0 := frG_tr (Nat.le_refl 0) hfr hf2
          refine y_if_neB C 44 dX6_fewest_35 (by decide) (fun h35 => ?_) (fun h35 => ?_)
          · have hO : fewRO I m = some e := by unfold fewRO; exact firstN_some (by omega) hpe.2 h35
            refine z_iload_n C 2 rfl dX6_fewest_44 rfl ?_
            refine z_iconst C dX6_fewest_45 ?_
            refine z_icmp_ne C 60 dX6_fewest_46 (by decide) (by omega) (by omega) (fun h46 => ?_) (fun h46 => ?_)
            · refine z_iload_n C 3 rfl dX6_fewest_60 rfl ?_
              refine z_iload_n C 1 rfl dX6_fewest_61 rfl ?_
              refine z_icmp_gt C 70 dX6_fewest_62 (by decide) (by omega) (by omega) (fun h62 => ?_) (fun h62 => ?_)
              · omega
              · refine z_iload_n C 2 rfl dX6_fewest_65 rfl ?_
                refine z_iload_n C 3 rfl dX6_fewest_66 rfl ?_
                refine z_icmp_lt C 79 dX6_fewest_67 (by decide) (by omega) (by omega) (fun h67 => ?_) (fun h67 => ?_)
                · refine z_aload_n C 0 rfl dX6_fewest_79 rfl ?_
                  refine y_getR C zCl6 26 flX6_48 rfl rfl rfl dX6_fewest_80 ?_
                  refine z_iload_n C 2 rfl dX6_fewest_83 rfl ?_
                  refine y_iald C i.toNat (by omega) rfl (by omega) (by decide) dX6_fewest_84 ?_
                  exact zZ_iret C hR (Nat.le_refl _) (Nat.le_refl _) dX6_fewest_85 rfl (zEx_I (by rw [uR0 (show fFewR I m i = 0 by unfold fFewR; rw [if_neg (by omega), if_neg (by omega), hO]; exact if_pos (by omega))]; unfold fewestR; rw [if_neg (by omega), hO]; obtain ⟨l, hl3⟩ := Option.isSome_iff_exists.mp h35; have hln := bgP_len e _ l hl3; simp only [hl3, Option.getD_some]; have := hl2 l hl3 i.toNat (by omega); rw [Nat.zero_add] at this; exact this) ⟨I2, frG_R hf3⟩ (by rw [uK0 (show fFewR I m i = 0 by unfold fFewR; rw [if_neg (by omega), if_neg (by omega), hO]; exact if_pos (by omega))]))
                · refine z_aload_n C 0 rfl dX6_fewest_70 rfl ?_
                  refine z_bipush C dX6_fewest_71 (by decide) ?_
                  refine y_callV1 C oX6_no iX6_no eX6_no lkX6_83 (c_X6_no (by first | assumption | omega)) rfl (by decide) rfl rfl (by decide) (Nat.le_refl _) (Nat.le_refl _) (Nat.le_of_ble_eq_true rfl) dX6_fewest_73 ?_
                  refine z_goto C 85 dX6_fewest_76 (by decide) ?_
                  exact zZ_iret C hR (Nat.le_refl _) (Nat.le_refl _) dX6_fewest_85 rfl (zEx_I (uRc (show fFewR I m i = -5 by unfold fFewR; rw [if_neg (by omega), if_neg (by omega), hO]; exact if_neg (by omega)) (by decide)).symm ⟨I2, frG_R hf3⟩ (by rw [uKc (show fFewR I m i = -5 by unfold fFewR; rw [if_neg (by omega), if_neg (by omega), hO]; exact if_neg (by omega)) (by decide)]))
            · refine z_iload_n C 3 rfl dX6_fewest_49 rfl ?_
              refine z_iload_n C 1 rfl dX6_fewest_50 rfl ?_
              refine z_icmp_le C 58 dX6_fewest_51 (by decide) (by omega) (by omega) (fun h51 => ?_) (fun h51 => ?_)
              · refine z_iload_n C 3 rfl dX6_fewest_58 rfl ?_
                exact zZ_iret C hR (Nat.le_refl _) (Nat.le_refl _) dX6_fewest_59 rfl (zEx_I (by rw [uR0 (show fFewR I m i = 0 by unfold fFewR; rw [if_neg (by omega), if_pos (by omega)])]; unfold fewestR; rw [if_pos (by omega), hO]) ⟨I2, frG_R hf3⟩ (by rw [uK0 (show fFewR I m i = 0 by unfold fFewR; rw [if_neg (by omega), if_pos (by omega)])]))
              · omega
          · obtain ⟨v1, ev1⟩ : ∃ y : Int, y = (e : Int) + 1 := ⟨_, rfl⟩
            refine z_iinc C 3 v1 [(3, .int (iI v1)), (0, .ref 58), (1, .int (iI m)), (2, .int (iI i))] dX6_fewest_38 rfl ev1.symm (by decide) rfl ?_
            refine z_goto C 24 dX6_fewest_41 (by decide) ?_
            refine zZ_sub [1, 2, 3, 0] rfl ?_
            refine zZ_cast rfl (zLk (zLk (zLk (zLc (by omega) rfl)))) rfl (kke I2 ⟨hf3, by simp only [firstN]; rw [hpe.2]; exact if_neg (by rw [show (bgP (hvR I) e (spR I)).isSome = false from h35]; decide)⟩)
      · intro I' hpe
        refine z_iload_n C 3 rfl dX6_fewest_24 rfl ?_
        refine z_iload_n C 1 rfl dX6_fewest_25 rfl ?_
        refine z_icmp_gt C 44 dX6_fewest_26 (by decide) (by omega) (by omega) (fun h26 => ?_) (fun h26 => ?_)
        · have hO : fewRO I m = none := hpe.2
          refine z_iload_n C 2 rfl dX6_fewest_44 rfl ?_
          refine z_iconst C dX6_fewest_45 ?_
          refine z_icmp_ne C 60 dX6_fewest_46 (by decide) (by omega) (by omega) (fun h46 => ?_) (fun h46 => ?_)
          · refine z_iload_n C 3 rfl dX6_fewest_60 rfl ?_
            refine z_iload_n C 1 rfl dX6_fewest_61 rfl ?_
            refine z_icmp_gt C 70 dX6_fewest_62 (by decide) (by omega) (by omega) (fun h62 => ?_) (fun h62 => ?_)
            · refine z_aload_n C 0 rfl dX6_fewest_70 rfl ?_
              refine z_bipush C dX6_fewest_71 (by decide) ?_
              refine y_callV1 C oX6_no iX6_no eX6_no lkX6_83 (c_X6_no (by first | assumption | omega)) rfl (by decide) rfl rfl (by decide) (Nat.le_refl _) (Nat.le_refl _) (Nat.le_of_ble_eq_true rfl) dX6_fewest_73 ?_
              refine z_goto C 85 dX6_fewest_76 (by decide) ?_
              exact zZ_iret C hR (Nat.le_refl _) (Nat.le_refl _) dX6_fewest_85 rfl (zEx_I (uRc (show fFewR I m i = -5 by unfold fFewR; rw [if_neg (by omega), if_neg (by omega), hO]) (by decide)).symm ⟨I', frG_R hpe.1⟩ (by rw [uKc (show fFewR I m i = -5 by unfold fFewR; rw [if_neg (by omega), if_neg (by omega), hO]) (by decide)]))
            · omega
          · refine z_iload_n C 3 rfl dX6_fewest_49 rfl ?_
            refine z_iload_n C 1 rfl dX6_fewest_50 rfl ?_
            refine z_icmp_le C 58 dX6_fewest_51 (by decide) (by omega) (by omega) (fun h51 => ?_) (fun h51 => ?_)
            · omega
            · refine z_iconst C dX6_fewest_54 ?_
              refine z_goto C 59 dX6_fewest_55 (by decide) ?_
              exact zZ_iret C hR (Nat.le_refl _) (Nat.le_refl _) dX6_fewest_59 rfl (zEx_I (by rw [uR0 (show fFewR I m i = 0 by unfold fFewR; rw [if_neg (by omega), if_pos (by omega)])]; unfold fewestR; rw [if_pos (by omega), hO]) ⟨I', frG_R hpe.1⟩ (by rw [uK0 (show fFewR I m i = 0 by unfold fFewR; rw [if_neg (by omega), if_pos (by omega)])]))
        · omega
    · refine z_aload_n C 0 rfl dX6_fewest_15 rfl ?_
      refine z_bipush C dX6_fewest_16 (by decide) ?_
      refine y_callV1 C oX6_no iX6_no eX6_no lkX6_83 (c_X6_no (by first | assumption | omega)) rfl (by decide) rfl rfl (by decide) (Nat.le_refl _) (Nat.le_refl _) (Nat.le_of_ble_eq_true rfl) dX6_fewest_18 ?_
      exact zZ_iret C hR (Nat.le_refl _) (Nat.le_refl _) dX6_fewest_21 rfl (zEx_I (uRc (show fFewR I m i = -2 by unfold fFewR; rw [if_pos (by omega)]) (by decide)).symm ⟨I, frR_rf⟩ (by rw [uKc (show fFewR I m i = -2 by unfold fFewR; rw [if_pos (by omega)]) (by decide)]))
