set_option maxHeartbeats 4000000 in
set_option maxRecDepth 100000 in
theorem c_X6_best {g : zG} {I : Nat → Nat → Int} {J : Nat → Nat → Int64} {q : Nat × Nat}  (hgr : gR I) (hrs : gRS (spR I)) (hdo : openN (I 58 0) (maskW (I 59)) (I 58 3) = true) : zRun g mX6_best 7 [.ref 58] (zst I J q) (some (.int (iI ((leastF (bsP I) (bsV I) 5).1)))) (zst (svI I 0 (spR I)) J q) := by
  obtain ⟨b1, b2, b3, b4, b5, b6, b7⟩ := id hgr
  obtain ⟨k1, k2, k3⟩ := id hrs
  have k1 : gC7 (I 58 3) := k1
  have k2 : 0 ≤ I 58 4 ∧ I 58 4 ≤ 4 := k2
  have k3 : ∀ e, e < 5 → gC7 (I 62 e) := k3
  have k1' := k1.1
  have b2' := b2.1
  obtain ⟨P, hP⟩ : ∃ P, P = bsP I := ⟨_, rfl⟩
  obtain ⟨V, hV⟩ : ∃ V, V = bsV I := ⟨_, rfl⟩
  rw [← hP, ← hV]
  refine zRuns_intro rfl (Nat.le_of_ble_eq_true rfl) (fun X C hR => ?_)
  show zZ g X 0 0 _ 0 [(0, .ref 58)] []
  refine z_iconst C dX6_best_0 ?_
  refine z_istore_n C [(1, .int (iI ((-1)))), (0, .ref 58)] dX6_best_1 rfl (by decide) rfl ?_
  refine z_iconst C dX6_best_2 ?_
  refine z_istore_n C [(2, .int (iI 0)), (1, .int (iI ((-1)))), (0, .ref 58)] dX6_best_3 rfl (by decide) rfl ?_
  refine z_aload_n C 2 rfl dX6_best_4 rfl ?_
  refine z_iconst C dX6_best_5 ?_
  refine z_top C (((0 : Nat) : Int)) (rfl) ?_
  refine y_callV1 C oX6_saves iX6_saves eX6_saves lkX6_104 (c_X6_saves (by first | assumption | omega)) rfl (by decide) rfl rfl (by decide) (Nat.le_refl _) (Nat.le_refl _) (Nat.le_of_ble_eq_true rfl) dX6_best_6 ?_
  refine z_iconst C dX6_best_9 ?_
  refine z_istore_n C [(3, .int (iI 0)), (2, .int (iI 0)), (1, .int (iI ((-1)))), (0, .ref 58)] dX6_best_10 rfl (by decide) rfl ?_
  refine zZ_sub [3, 2, 1, 0] rfl ?_
  refine zZ_cast (σ' := (fun _ : Nat => zst (svI I 0 (spR I)) J q) 0) (L' := (fun e : Nat => [(0, .ref 58), (1, .int (iI (leastF P V e).1)), (2, .int (iI (leastF P V e).2)), (3, .int (iI (e : Int)))]) 0) rfl rfl rfl ?_
  refine zfor (5) (fun _ => True) (fun _ : Nat => zst (svI I 0 (spR I)) J q) (fun e : Nat => [(0, .ref 58), (1, .int (iI (leastF P V e).1)), (2, .int (iI (leastF P V e).2)), (3, .int (iI (e : Int)))]) trivial ?_ ?_
  · intro e hee hpe kke
    have hr := leastF_r (P := P) (v := V) (k := e) (by omega) (fun c hc hPc => by rw [hV]; have := penR_b hgr (gRS_turn hgr hrs (c := (c : Int)) (by omega)).2.2; unfold bsV; omega)
    obtain ⟨nr, ls, hnl⟩ : ∃ nr ls, leastF P V e = (nr, ls) := ⟨_, _, rfl⟩
    rw [hnl] at hr ⊢
    simp only at hr
    refine z_iload_n C 3 rfl dX6_best_11 rfl ?_
    refine z_iconst C dX6_best_12 ?_
    refine z_icmp_ge C 68 dX6_best_13 (by decide) (by omega) (by omega) (fun h13 => ?_) (fun h13 => ?_)
    · omega
    · refine z_aload_n C 0 rfl dX6_best_16 rfl ?_
      refine z_iload_n C 3 rfl dX6_best_17 rfl ?_
      refine y_callV1 C oX6_can iX6_can eX6_can lkX6_232 (c_X6_can (gR_sv hgr) (by rw [spR_sv]; exact hrs) (by first | assumption | omega)) rfl (by decide) rfl rfl (by decide) (Nat.le_refl _) (Nat.le_refl _) (Nat.le_of_ble_eq_true rfl) dX6_best_18 ?_
      refine z_top C (bI (P e)) (by rw [svI_n (by decide), svI_n (by decide), hP]; rfl) ?_
      refine y_if_neB C 27 dX6_best_21 (by decide) (fun h21 => ?_) (fun h21 => ?_)
      · have hPt := h21
        have hrt := gRS_turn hgr hrs (c := (e : Int)) (by omega)
        have hVb : 0 ≤ V e ∧ V e ≤ 90 := by rw [hV]; exact penR_b hgr hrt.2.2
        refine z_aload_n C 0 rfl dX6_best_27 rfl ?_
        refine z_iload_n C 3 rfl dX6_best_28 rfl ?_
        refine y_callV1 C oX6_goes iX6_goes eX6_goes lkX6_238 (c_X6_goes (gR_sv hgr) (by rw [spR_sv]; exact hrs) (by rw [svI_n (by decide), svI_n (by decide)]; exact hdo) (by first | assumption | omega)) rfl (by decide) rfl rfl (by decide) (Nat.le_refl _) (Nat.le_refl _) (Nat.le_of_ble_eq_true rfl) dX6_best_29 ?_
        refine zZ_cast (σ' := zst (zRq (svI I 0 (spR I)) (turnS (hvR I) (spR I) (e : Int))) J q)  (by refine congrArg (fun I' => zst I' J q) ?_; rw [hvR_sv, spR_sv]) rfl rfl ?_
        refine z_aload_n C 0 rfl dX6_best_32 rfl ?_
        refine y_callV0 C oX6_allSteps iX6_allSteps eX6_allSteps lkX6_250 (c_X6_allSteps (gR_q (gR_sv hgr)) hrt) rfl (by decide) rfl rfl (by decide) (Nat.le_refl _) (Nat.le_refl _) (Nat.le_of_ble_eq_true rfl) dX6_best_33 ?_
        refine z_top C (V e) (by rw [hvR_q, hvR_sv, hV]; rfl) ?_
        refine z_topI C (fun is eis => ?_)
        refine z_istore C [(4, .int (iI is)), (0, .ref 58), (1, .int (iI nr)), (2, .int (iI ls)), (3, .int (iI ((e : Int))))] dX6_best_36 (by decide) rfl ?_
        refine z_aload_n C 1 rfl dX6_best_38 rfl ?_
        refine z_iconst C dX6_best_39 ?_
        refine z_top C (((0 : Nat) : Int)) (rfl) ?_
        refine y_callV1 C oX6_again iX6_again eX6_again lkX6_111 (c_X6_again (by first | assumption | omega) (svAt_q svAt_sv)) rfl (by decide) rfl rfl (by decide) (Nat.le_refl _) (Nat.le_refl _) (Nat.le_of_ble_eq_true rfl) dX6_best_40 ?_
        refine zZ_cast (σ' := zst (svI I 0 (spR I)) J q)  (by refine congrArg (fun I' => zst I' J q) ?_; rw [zRq_zRq]; exact zRq_svs) rfl rfl ?_
        refine z_iload_n C 2 rfl dX6_best_43 rfl ?_
        refine z_iconst C dX6_best_44 ?_
        refine z_icmp_eq C 57 dX6_best_45 (by decide) (by omega) (by omega) (fun h45 => ?_) (fun h45 => ?_)
        · refine z_iload C 0 rfl dX6_best_57 ?_
          refine z_istore_n C [(2, .int (iI is)), (4, .int (iI is)), (0, .ref 58), (1, .int (iI nr)), (3, .int (iI ((e : Int))))] dX6_best_59 rfl (by decide) rfl ?_
          refine z_iload_n C 4 rfl dX6_best_60 rfl ?_
          refine z_istore_n C [(1, .int (iI ((e : Int)))), (2, .int (iI is)), (4, .int (iI is)), (0, .ref 58), (3, .int (iI ((e : Int))))] dX6_best_61 rfl (by decide) rfl ?_
          obtain ⟨v1, ev1⟩ : ∃ y : Int, y = (e : Int) + 1 := ⟨_, rfl⟩
          refine z_iinc C 4 v1 [(3, .int (iI v1)), (1, .int (iI ((e : Int)))), (2, .int (iI is)), (4, .int (iI is)), (0, .ref 58)] dX6_best_62 rfl ev1.symm (by decide) rfl ?_
          refine z_goto C 11 dX6_best_65 (by decide) ?_
          refine zZ_sub [4, 1, 2, 0] rfl ?_
          refine zZ_cast rfl (zLk (zLc (by simp only [leastF, hnl]; rw [if_pos ⟨hPt, .inl (by omega)⟩]) (zLc (by simp only [leastF, hnl]; rw [if_pos ⟨hPt, .inl (by omega)⟩]; exact eis) (zLc (by omega) rfl)))) rfl (kke trivial)
        · refine z_iload C 0 rfl dX6_best_48 ?_
          refine z_iload_n C 3 rfl dX6_best_50 rfl ?_
          refine z_icmp_lt C 57 dX6_best_51 (by decide) (by omega) (by omega) (fun h51 => ?_) (fun h51 => ?_)
          · refine z_iload C 0 rfl dX6_best_57 ?_
            refine z_istore_n C [(2, .int (iI is)), (4, .int (iI is)), (0, .ref 58), (1, .int (iI nr)), (3, .int (iI ((e : Int))))] dX6_best_59 rfl (by decide) rfl ?_
            refine z_iload_n C 4 rfl dX6_best_60 rfl ?_
            refine z_istore_n C [(1, .int (iI ((e : Int)))), (2, .int (iI is)), (4, .int (iI is)), (0, .ref 58), (3, .int (iI ((e : Int))))] dX6_best_61 rfl (by decide) rfl ?_
            obtain ⟨v2, ev2⟩ : ∃ y : Int, y = (e : Int) + 1 := ⟨_, rfl⟩
            refine z_iinc C 4 v2 [(3, .int (iI v2)), (1, .int (iI ((e : Int)))), (2, .int (iI is)), (4, .int (iI is)), (0, .ref 58)] dX6_best_62 rfl ev2.symm (by decide) rfl ?_
            refine z_goto C 11 dX6_best_65 (by decide) ?_
            refine zZ_sub [4, 1, 2, 0] rfl ?_
            refine zZ_cast rfl (zLk (zLc (by simp only [leastF, hnl]; rw [if_pos ⟨hPt, .inr (by omega)⟩]) (zLc (by simp only [leastF, hnl]; rw [if_pos ⟨hPt, .inr (by omega)⟩]; exact eis) (zLc (by omega) rfl)))) rfl (kke trivial)
          · refine z_goto C 62 dX6_best_54 (by decide) ?_
            obtain ⟨v3, ev3⟩ : ∃ y : Int, y = (e : Int) + 1 := ⟨_, rfl⟩
            refine z_iinc C 4 v3 [(3, .int (iI v3)), (4, .int (iI is)), (0, .ref 58), (1, .int (iI nr)), (2, .int (iI ls))] dX6_best_62 rfl ev3.symm (by decide) rfl ?_
            refine z_goto C 11 dX6_best_65 (by decide) ?_
            refine zZ_sub [2, 3, 4, 0] rfl ?_
            refine zZ_cast rfl (zLk (zLc (by simp only [leastF, hnl]; rw [if_neg (fun z => by have := z.2; omega)]) (zLc (by simp only [leastF, hnl]; rw [if_neg (fun z => by have := z.2; omega)]) (zLc (by omega) rfl)))) rfl (kke trivial)
      · have hPf := h21
        refine z_goto C 62 dX6_best_24 (by decide) ?_
        obtain ⟨v4, ev4⟩ : ∃ y : Int, y = (e : Int) + 1 := ⟨_, rfl⟩
        refine z_iinc C 3 v4 [(3, .int (iI v4)), (0, .ref 58), (1, .int (iI nr)), (2, .int (iI ls))] dX6_best_62 rfl ev4.symm (by decide) rfl ?_
        refine z_goto C 11 dX6_best_65 (by decide) ?_
        refine zZ_sub [1, 2, 3, 0] rfl ?_
        refine zZ_cast rfl (zLk (zLc (by simp only [leastF, hnl]; rw [if_neg (fun z => absurd (z.1.symm.trans hPf) (by decide))]) (zLc (by simp only [leastF, hnl]; rw [if_neg (fun z => absurd (z.1.symm.trans hPf) (by decide))]) (zLc (by omega) rfl)))) rfl (kke trivial)
  · intro hpe
    refine z_iload_n C 3 rfl dX6_best_11 rfl ?_
    refine z_iconst C dX6_best_12 ?_
    refine z_icmp_ge C 68 dX6_best_13 (by decide) (by omega) (by omega) (fun h13 => ?_) (fun h13 => ?_)
    · refine z_iload_n C 1 rfl dX6_best_68 rfl ?_
      exact zZ_iret C hR (Nat.le_refl _) (Nat.le_refl _) dX6_best_69 rfl (zIs_I rfl rfl)
    · omega
