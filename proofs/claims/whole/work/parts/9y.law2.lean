/-! the law: its loop, and how it begins (written by gen_law2.py) -/
theorem lw_body {g : zG} {X : zX} {mn : String} {nc ns N : Nat} {sc : Nat → Int32} {I : Nat → Nat → Int} {J : Nat → Nat → Int64} {q : Nat × Nat} {i : Nat} {v : Int} (C : zC g X (mL mn) 20 100 3000) (hnc : nc + 0 ≤ 100) (hns : ns + 0 ≤ 3000) (hW : LW g X N sc) (hi : i + 6 ≤ N) (R : Rel I J q) (K : CAN I J) (hv : -2147483648 ≤ v ∧ v ≤ 2147483647) (kk : ∀ I2 J2 q2, Rel I2 J2 q2 → zZ g X nc ns (zst I2 J2 q2) 1571 (lwL i) []) : zZ g X nc ns (zst I J q) 33 (lwL i) [.int (iI v)] := by
  by_cases ho : v < 0 ∨ 47 < v
  · exact z_tabOut C 1571 dL_law_33 hv ho (by decide) (kk I J q R)
  · rcases (show v = 0 ∨ v = 1 ∨ v = 2 ∨ v = 3 ∨ v = 4 ∨ v = 5 ∨ v = 6 ∨ v = 7 ∨ v = 8 ∨ v = 9 ∨ v = 10 ∨ v = 11 ∨ v = 12 ∨ v = 13 ∨ v = 14 ∨ v = 15 ∨ v = 16 ∨ v = 17 ∨ v = 18 ∨ v = 19 ∨ v = 20 ∨ v = 21 ∨ v = 22 ∨ v = 23 ∨ v = 24 ∨ v = 25 ∨ v = 26 ∨ v = 27 ∨ v = 28 ∨ v = 29 ∨ v = 30 ∨ v = 31 ∨ v = 32 ∨ v = 33 ∨ v = 34 ∨ v = 35 ∨ v = 36 ∨ v = 37 ∨ v = 38 ∨ v = 39 ∨ v = 40 ∨ v = 41 ∨ v = 42 ∨ v = 43 ∨ v = 44 ∨ v = 45 ∨ v = 46 ∨ v = 47 by omega) with rfl | rfl | rfl | rfl | rfl | rfl | rfl | rfl | rfl | rfl | rfl | rfl | rfl | rfl | rfl | rfl | rfl | rfl | rfl | rfl | rfl | rfl | rfl | rfl | rfl | rfl | rfl | rfl | rfl | rfl | rfl | rfl | rfl | rfl | rfl | rfl | rfl | rfl | rfl | rfl | rfl | rfl | rfl | rfl | rfl | rfl | rfl | rfl
    · exact z_tabIn C 240 dL_law_33 (by decide) (by decide) (by decide) rfl (by decide) (lw_0 C hnc hns hW hi R K kk)
    · exact z_tabIn C 283 dL_law_33 (by decide) (by decide) (by decide) rfl (by decide) (lw_1 C hnc hns hW hi R K kk)
    · exact z_tabIn C 356 dL_law_33 (by decide) (by decide) (by decide) rfl (by decide) (lw_2 C hnc hns hW hi R K kk)
    · exact z_tabIn C 419 dL_law_33 (by decide) (by decide) (by decide) rfl (by decide) (lw_3 C hnc hns hW hi R K kk)
    · exact z_tabIn C 453 dL_law_33 (by decide) (by decide) (by decide) rfl (by decide) (lw_4 C hnc hns hW hi R K kk)
    · exact z_tabIn C 476 dL_law_33 (by decide) (by decide) (by decide) rfl (by decide) (lw_5 C hnc hns hW hi R K kk)
    · exact z_tabIn C 509 dL_law_33 (by decide) (by decide) (by decide) rfl (by decide) (lw_6 C hnc hns hW hi R K kk)
    · exact z_tabIn C 542 dL_law_33 (by decide) (by decide) (by decide) rfl (by decide) (lw_7 C hnc hns hW hi R K kk)
    · exact z_tabIn C 565 dL_law_33 (by decide) (by decide) (by decide) rfl (by decide) (lw_8 C hnc hns hW hi R K kk)
    · exact z_tabIn C 614 dL_law_33 (by decide) (by decide) (by decide) rfl (by decide) (lw_9 C hnc hns hW hi R K kk)
    · exact z_tabIn C 637 dL_law_33 (by decide) (by decide) (by decide) rfl (by decide) (lw_10 C hnc hns hW hi R K kk)
    · exact z_tabIn C 660 dL_law_33 (by decide) (by decide) (by decide) rfl (by decide) (lw_11 C hnc hns hW hi R K kk)
    · exact z_tabIn C 703 dL_law_33 (by decide) (by decide) (by decide) rfl (by decide) (lw_12 C hnc hns hW hi R K kk)
    · exact z_tabIn C 736 dL_law_33 (by decide) (by decide) (by decide) rfl (by decide) (lw_13 C hnc hns hW hi R K kk)
    · exact z_tabIn C 759 dL_law_33 (by decide) (by decide) (by decide) rfl (by decide) (lw_14 C hnc hns hW hi R K kk)
    · exact z_tabIn C 782 dL_law_33 (by decide) (by decide) (by decide) rfl (by decide) (lw_15 C hnc hns hW hi R K kk)
    · exact z_tabIn C 795 dL_law_33 (by decide) (by decide) (by decide) rfl (by decide) (lw_16 C hnc hns hW hi R K kk)
    · exact z_tabIn C 808 dL_law_33 (by decide) (by decide) (by decide) rfl (by decide) (lw_17 C hnc hns hW hi R K kk)
    · exact z_tabIn C 841 dL_law_33 (by decide) (by decide) (by decide) rfl (by decide) (lw_18 C hnc hns hW hi R K kk)
    · exact z_tabIn C 864 dL_law_33 (by decide) (by decide) (by decide) rfl (by decide) (lw_19 C hnc hns hW hi R K kk)
    · exact z_tabIn C 897 dL_law_33 (by decide) (by decide) (by decide) rfl (by decide) (lw_20 C hnc hns hW hi R K kk)
    · exact z_tabIn C 930 dL_law_33 (by decide) (by decide) (by decide) rfl (by decide) (lw_21 C hnc hns hW hi R K kk)
    · exact z_tabIn C 943 dL_law_33 (by decide) (by decide) (by decide) rfl (by decide) (lw_22 C hnc hns hW hi R K kk)
    · exact z_tabIn C 966 dL_law_33 (by decide) (by decide) (by decide) rfl (by decide) (lw_23 C hnc hns hW hi R K kk)
    · exact z_tabIn C 1009 dL_law_33 (by decide) (by decide) (by decide) rfl (by decide) (lw_24 C hnc hns hW hi R K kk)
    · exact z_tabIn C 1022 dL_law_33 (by decide) (by decide) (by decide) rfl (by decide) (lw_25 C hnc hns hW hi R K kk)
    · exact z_tabIn C 1055 dL_law_33 (by decide) (by decide) (by decide) rfl (by decide) (lw_26 C hnc hns hW hi R K kk)
    · exact z_tabIn C 1078 dL_law_33 (by decide) (by decide) (by decide) rfl (by decide) (lw_27 C hnc hns hW hi R K kk)
    · exact z_tabIn C 1101 dL_law_33 (by decide) (by decide) (by decide) rfl (by decide) (lw_28 C hnc hns hW hi R K kk)
    · exact z_tabIn C 1124 dL_law_33 (by decide) (by decide) (by decide) rfl (by decide) (lw_29 C hnc hns hW hi R K kk)
    · exact z_tabIn C 1147 dL_law_33 (by decide) (by decide) (by decide) rfl (by decide) (lw_30 C hnc hns hW hi R K kk)
    · exact z_tabIn C 1170 dL_law_33 (by decide) (by decide) (by decide) rfl (by decide) (lw_31 C hnc hns hW hi R K kk)
    · exact z_tabIn C 1193 dL_law_33 (by decide) (by decide) (by decide) rfl (by decide) (lw_32 C hnc hns hW hi R K kk)
    · exact z_tabIn C 1206 dL_law_33 (by decide) (by decide) (by decide) rfl (by decide) (lw_33 C hnc hns hW hi R K kk)
    · exact z_tabIn C 1219 dL_law_33 (by decide) (by decide) (by decide) rfl (by decide) (lw_34 C hnc hns hW hi R K kk)
    · exact z_tabIn C 1232 dL_law_33 (by decide) (by decide) (by decide) rfl (by decide) (lw_35 C hnc hns hW hi R K kk)
    · exact z_tabIn C 1265 dL_law_33 (by decide) (by decide) (by decide) rfl (by decide) (lw_36 C hnc hns hW hi R K kk)
    · exact z_tabIn C 1278 dL_law_33 (by decide) (by decide) (by decide) rfl (by decide) (lw_37 C hnc hns hW hi R K kk)
    · exact z_tabIn C 1291 dL_law_33 (by decide) (by decide) (by decide) rfl (by decide) (lw_38 C hnc hns hW hi R K kk)
    · exact z_tabIn C 1344 dL_law_33 (by decide) (by decide) (by decide) rfl (by decide) (lw_39 C hnc hns hW hi R K kk)
    · exact z_tabIn C 1377 dL_law_33 (by decide) (by decide) (by decide) rfl (by decide) (lw_40 C hnc hns hW hi R K kk)
    · exact z_tabIn C 1420 dL_law_33 (by decide) (by decide) (by decide) rfl (by decide) (lw_41 C hnc hns hW hi R K kk)
    · exact z_tabIn C 1453 dL_law_33 (by decide) (by decide) (by decide) rfl (by decide) (lw_42 C hnc hns hW hi R K kk)
    · exact z_tabIn C 1476 dL_law_33 (by decide) (by decide) (by decide) rfl (by decide) (lw_43 C hnc hns hW hi R K kk)
    · exact z_tabIn C 1499 dL_law_33 (by decide) (by decide) (by decide) rfl (by decide) (lw_44 C hnc hns hW hi R K kk)
    · exact z_tabIn C 1522 dL_law_33 (by decide) (by decide) (by decide) rfl (by decide) (lw_45 C hnc hns hW hi R K kk)
    · exact z_tabIn C 1535 dL_law_33 (by decide) (by decide) (by decide) rfl (by decide) (lw_46 C hnc hns hW hi R K kk)
    · exact z_tabIn C 1548 dL_law_33 (by decide) (by decide) (by decide) rfl (by decide) (lw_47 C hnc hns hW hi R K kk)
theorem lw_loop {g : zG} {X : zX} {mn : String} {nc ns N : Nat} {sc : Nat → Int32} (C : zC g X (mL mn) 20 100 3000) (hnc : nc + 0 ≤ 100) (hns : ns + 0 ≤ 3000) (hW : LW g X N sc) (fin : ∀ (i : Nat) (σ : zSt), zZ g X nc ns σ 1577 (lwL i) []) : ∀ (m t : Nat) (I : Nat → Nat → Int) (J : Nat → Nat → Int64) (q : Nat × Nat), Rel I J q → N < 6 * t + 6 * m + 6 → 6 * t < N + 6 → zZ g X nc ns (zst I J q) 18 (lwL (6 * t)) [] := by
  have hN := hW.2.2.2
  intro m
  induction m with
  | zero =>
    intro t I J q R h1 h2
    refine z_iload_n C 0 rfl dL_law_18 rfl ?_
    refine z_aload_n C 3 rfl dL_law_19 rfl ?_
    refine z_slen C hW dL_law_20 ?_
    refine z_bipush C dL_law_21 (by decide) ?_
    refine z_isub C dL_law_23 ?_
    exact z_icmp_gt C 1577 dL_law_24 (by decide) (by omega) (by omega) (fun _ => fin _ _) (fun hh => absurd (show (N : Int) - 6 < ((6 * t : Nat) : Int) by omega) hh)
  | succ m ih =>
    intro t I J q R h1 h2
    refine z_iload_n C 0 rfl dL_law_18 rfl ?_
    refine z_aload_n C 3 rfl dL_law_19 rfl ?_
    refine z_slen C hW dL_law_20 ?_
    refine z_bipush C dL_law_21 (by decide) ?_
    refine z_isub C dL_law_23 ?_
    refine z_icmp_gt C 1577 dL_law_24 (by decide) (by omega) (by omega) (fun _ => fin _ _) (fun hh => ?_)
    refine z_aload_n C 3 rfl dL_law_27 rfl ?_
    refine z_iload_n C 0 rfl dL_law_28 rfl ?_
    refine z_sld C hW (6 * t) rfl (by omega) dL_law_29 ?_
    refine z_bipush C dL_law_30 (by decide) ?_
    refine z_iand C (iI (ar sc (6 * t)) &&& iI 63).toInt dL_law_32 (iI_of _) ?_
    refine zZ_st (zst_can R.2.2.2.2.2.2.2.2) ?_
    refine lw_body C hnc hns hW (by omega) (Rel_o R) CAN_o ⟨Int32.le_toInt _, by have := Int32.toInt_lt (iI (ar sc (6 * t)) &&& iI 63); omega⟩ (fun I2 J2 q2 R2 => ?_)
    obtain ⟨v1, ev1⟩ : ∃ v : Int, v = ((6 * t : Nat) : Int) + 6 := ⟨_, rfl⟩
    refine z_iinc C 0 v1 [(3, .int (iI v1)), (2, .ref 58), (1, .ref 0), (0, .ref 2000)] dL_law_1571 rfl ev1.symm (by show 3 < 4; decide) rfl ?_
    refine z_goto C 18 dL_law_1574 (by decide) ?_
    exact zZ_cast rfl (zLc (by omega) rfl) rfl (ih (t + 1) I2 J2 q2 R2 (by omega) (by omega))
/-! the world that the constructors leave -/
def b00 : zSt := ([], fun _ _ => 0, fun _ _ => 0, fun _ _ => none)
def wE1 : zSt := bX (zP b00 (5, 8))
def wE : zSt := bMs (zP wE1 (6, 30)) 8
theorem b00_z : zZr b00 := fun _ _ => ⟨fun _ => rfl, fun _ => rfl, fun _ => rfl⟩
theorem wE1_len : wE1.1.length = 58 := bX_len (zP_len rfl)
theorem wE1_z : zZr wE1 := bX_z (zP_last rfl) (zP_len rfl) (zZr_P b00_z)
theorem wE_lay : wE.1 = LAY := by decide +kernel
theorem wE_R0 : (List.range 74).all (fun i => (List.range 30).all (fun k => decide (tyAt (LAY.getD i (0, 0)).1 k = 2 → k < (LAY.getD i (0, 0)).2 → wE.2.2.2 i k = zRT (56, 57) i k))) = true := by decide +kernel
theorem lay_30 : ∀ p ∈ LAY, ∀ k, k < p.2 → tyAt p.1 k = 2 → k < 30 := by
  have h : ∀ p ∈ LAY, p.1 < 7 ∨ p.1 = 10 ∨ p.1 = 11 → p.2 ≤ 30 := by decide +kernel
  intro p hp k hk ht
  have h1 := h p hp
  by_cases h7 : p.1 < 7
  · have := h1 (.inl h7); omega
  · unfold tyAt at ht
    rw [if_neg h7] at ht
    have h12 := lay_kd p hp
    by_cases h8 : p.1 = 8
    · rw [if_pos h8] at ht; cases ht
    · rw [if_neg h8] at ht
      by_cases h9 : p.1 = 7 ∨ p.1 = 9
      · rw [if_pos h9] at ht; cases ht
      · have := h1 (by omega); omega
theorem wE_zst {g : zG} (H : Heap) (hH : zHp g wE H) : zHp g (zst wE.2.1 wE.2.2.1 (56, 57)) H := by
  refine zHp_tail (σ := wE) (σ' := zst wE.2.1 wE.2.2.1 (56, 57)) wE_lay.symm (by rw [wE_lay]; exact lay_ok) (fun _ _ _ _ _ _ _ => rfl) (fun _ _ _ _ _ _ _ => rfl) (fun i k kd n hi hk ht => ?_) H hH
  rw [wE_lay] at hi
  have h74 : i < 74 := (List.getElem?_eq_some_iff.mp hi).1
  have h30 := lay_30 _ (List.mem_of_getElem? hi) k hk ht
  have h1 := List.all_eq_true.mp wE_R0 i (List.mem_range.mpr h74)
  have h2 := List.all_eq_true.mp h1 k (List.mem_range.mpr h30)
  have e : LAY.getD i (0, 0) = (kd, n) := by rw [List.getD_eq_getElem?_getD, hi]; rfl
  rw [e] at h2
  exact of_decide_eq_true h2 ht hk
theorem wE_Rel : Rel wE.2.1 wE.2.2.1 (56, 57) := by
  refine ⟨.inl rfl, ⟨?_, ?_, ?_, ?_, ?_⟩, ⟨?_, ?_⟩, ?_, .inl ?_, ?_, ⟨?_, ?_⟩, fun z => absurd z ?_, ⟨?_, ?_, ?_, ?_, ⟨?_, ?_⟩, ?_, ?_, ?_⟩⟩
  · unfold gR gC7; decide +kernel
  · unfold gRS gC7 spR; decide +kernel
  · decide +kernel
  · unfold gHW; decide +kernel
  · decide +kernel
  · unfold gRL; decide +kernel
  · decide +kernel
  · unfold gTR; decide +kernel
  · decide +kernel
  · unfold K68; decide +kernel
  · unfold gH; decide +kernel
  · unfold gS; decide +kernel
  · decide +kernel
  · decide +kernel
  · decide +kernel
  · decide +kernel
  · decide +kernel
  · decide +kernel
  · decide +kernel
  · decide +kernel
  · decide +kernel
  · decide +kernel
theorem lw_begin {g : zG} {X : zX} {mn : String} {N : Nat} {sc : Nat → Int32} (C : zC g X (mL mn) 20 100 3000) (hO : zAo (xs X)) (hW : LW g X N sc) (fin : ∀ (i : Nat) (σ : zSt), zZ g X 74 1948 σ 1577 (lwL i) []) : zZ g X 0 0 b00 0 [(0, .ref 2000)] [] := by
  refine z_new (m := 0) C zCl5 dfX5 (zTb_of (tb_1 _ (List.mem_of_getElem? (i := 17) rfl)) rfl) (zTb_of (tb_1 _ (List.mem_of_getElem? (i := 18) rfl)) rfl) (zTb_of (tb_1 _ (List.mem_of_getElem? (i := 1) rfl)) rfl) b00_z rfl (by decide) (by decide) (by decide) dL_law_0 ?_
  refine z_dup C dL_law_3 rfl ?_
  refine zZ_callB0 C hO oX5_init iX5_init rfl rfl lkL_9 (c_X5_init (zP_last rfl) (zP_len rfl) (zZr_P b00_z)) (by decide) (by decide) (by decide) (Nat.le_of_ble_eq_true rfl) dL_law_4 ?_
  show zZ g X 58 928 wE1 7 [(0, .ref 2000)] [.ref 0]
  refine z_astore_n C [(1, .ref 0), (0, .ref 2000)] dL_law_7 rfl (by show 1 < 4; decide) rfl ?_
  refine z_new (m := 58) C zCl6 dfX6 (zTb_of (tb_4 _ (List.mem_of_getElem? (i := 103) rfl)) rfl) (zTb_of (tb_4 _ (List.mem_of_getElem? (i := 104) rfl)) rfl) (zTb_of (tb_1 _ (List.mem_of_getElem? (i := 7) rfl)) rfl) wE1_z wE1_len (by decide) (by decide) (by decide) dL_law_8 ?_
  refine z_dup C dL_law_11 rfl ?_
  refine zZ_callB0 C hO oX6_init iX6_init rfl rfl lkL_12 (c_X6_init (zP_last wE1_len) (zP_len wE1_len) (zZr_P wE1_z)) (by decide) (by decide) (by decide) (Nat.le_of_ble_eq_true rfl) dL_law_12 ?_
  show zZ g X 74 1948 wE 15 [(1, .ref 0), (0, .ref 2000)] [.ref 58]
  refine z_astore_n C [(2, .ref 58), (1, .ref 0), (0, .ref 2000)] dL_law_15 rfl (by show 2 < 4; decide) rfl ?_
  refine z_iconst C dL_law_16 ?_
  refine z_istore_n C (lwL 0) dL_law_17 rfl (by show 3 < 4; decide) rfl ?_
  refine zZ_st wE_zst ?_
  have hN := hW.2.2.2
  exact lw_loop C (by decide) (by decide) hW fin N 0 wE.2.1 wE.2.2.1 (56, 57) wE_Rel (by omega) (by omega)
