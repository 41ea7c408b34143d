/-! constructors (written by bw.py) -/
theorem lk_lt {σ : zSt} {i : Nat} {kd : Nat × Nat} (h : σ.1[i]? = some kd) : i < σ.1.length := (List.getElem?_eq_some_iff.mp h).1
theorem dfX0 : ∀ j, j < 10 → defaultValue (tyX0 j) = vp_V ((zft 0).map zdf) j := by
  intro j hj
  rcases (show j = 0 ∨ j = 1 ∨ j = 2 ∨ j = 3 ∨ j = 4 ∨ j = 5 ∨ j = 6 ∨ j = 7 ∨ j = 8 ∨ j = 9 by omega) with rfl | rfl | rfl | rfl | rfl | rfl | rfl | rfl | rfl | rfl <;> rfl
theorem dfX3 : ∀ j, j < 3 → defaultValue (tyX3 j) = vp_V ((zft 3).map zdf) j := by
  intro j hj
  rcases (show j = 0 ∨ j = 1 ∨ j = 2 by omega) with rfl | rfl | rfl <;> rfl
theorem dfX2 : ∀ j, j < 3 → defaultValue (tyX2 j) = vp_V ((zft 2).map zdf) j := by
  intro j hj
  rcases (show j = 0 ∨ j = 1 ∨ j = 2 by omega) with rfl | rfl | rfl <;> rfl
theorem dfX4 : ∀ j, j < 6 → defaultValue (tyX4 j) = vp_V ((zft 4).map zdf) j := by
  intro j hj
  rcases (show j = 0 ∨ j = 1 ∨ j = 2 ∨ j = 3 ∨ j = 4 ∨ j = 5 by omega) with rfl | rfl | rfl | rfl | rfl | rfl <;> rfl
theorem dfX1 : ∀ j, j < 6 → defaultValue (tyX1 j) = vp_V ((zft 1).map zdf) j := by
  intro j hj
  rcases (show j = 0 ∨ j = 1 ∨ j = 2 ∨ j = 3 ∨ j = 4 ∨ j = 5 by omega) with rfl | rfl | rfl | rfl | rfl | rfl <;> rfl
theorem dfX5 : ∀ j, j < 8 → defaultValue (tyX5 j) = vp_V ((zft 5).map zdf) j := by
  intro j hj
  rcases (show j = 0 ∨ j = 1 ∨ j = 2 ∨ j = 3 ∨ j = 4 ∨ j = 5 ∨ j = 6 ∨ j = 7 by omega) with rfl | rfl | rfl | rfl | rfl | rfl | rfl | rfl <;> rfl
theorem dfX6 : ∀ j, j < 30 → defaultValue (tyX6 j) = vp_V ((zft 6).map zdf) j := by
  intro j hj
  rcases (show j = 0 ∨ j = 1 ∨ j = 2 ∨ j = 3 ∨ j = 4 ∨ j = 5 ∨ j = 6 ∨ j = 7 ∨ j = 8 ∨ j = 9 ∨ j = 10 ∨ j = 11 ∨ j = 12 ∨ j = 13 ∨ j = 14 ∨ j = 15 ∨ j = 16 ∨ j = 17 ∨ j = 18 ∨ j = 19 ∨ j = 20 ∨ j = 21 ∨ j = 22 ∨ j = 23 ∨ j = 24 ∨ j = 25 ∨ j = 26 ∨ j = 27 ∨ j = 28 ∨ j = 29 by omega) with rfl | rfl | rfl | rfl | rfl | rfl | rfl | rfl | rfl | rfl | rfl | rfl | rfl | rfl | rfl | rfl | rfl | rfl | rfl | rfl | rfl | rfl | rfl | rfl | rfl | rfl | rfl | rfl | rfl | rfl <;> rfl
def bS (σ : zSt) (i : Nat) : zSt := zO (zP (zI (zI (σ) i 0 55) i 1 0) (7, 5)) i 2 (i + 1)
theorem bS_len {σ : zSt} {i j : Nat} (h : σ.1.length = j) : (bS σ i).1.length = j + 1 := (zP_len h)
theorem bS_old {σ : zSt} {i j : Nat} {kd : Nat × Nat} (h : σ.1[j]? = some kd) : (bS σ i).1[j]? = some kd := (zP_old h)
theorem bS_z {σ : zSt} {i : Nat} (hi : σ.1[i]? = some (3, 3)) (hl : σ.1.length = i + 1) (hz : zZr σ) : zZr (bS σ i) := (zZr_O (zZr_P (zZr_I (zZr_I hz (lk_lt hi)) (lk_lt hi))) (lk_lt (zP_old hi)))
theorem c_X3_init {g : zG} {σ : zSt} {i : Nat} (hi : σ.1[i]? = some (3, 3)) (hl : σ.1.length = i + 1) (hm : i + 1 < 74) (hz : zZr σ) : zRunB g mX3_init 1 1 5 [.ref i] σ (zIs none (bS σ i)) := by
  refine zRunB_intro rfl (Nat.le_of_ble_eq_true rfl) (fun X C hO hR => ?_)
  show zZ g X 0 0 _ 0 [(0, .ref i)] []
  refine z_aload_n C 0 rfl dX3_init_0 rfl ?_
  refine z_objInit C (zTb_of (tb_1 _ (List.mem_of_getElem? (i := 36) rfl)) rfl) (zTb_of (tb_1 _ (List.mem_of_getElem? (i := 23) rfl)) rfl) (zTb_of (tb_1 _ (List.mem_of_getElem? (i := 24) rfl)) rfl) (by decide) (Nat.le_of_ble_eq_true rfl) dX3_init_1 ?_
  refine z_aload_n C 0 rfl dX3_init_4 rfl ?_
  refine z_bipush C dX3_init_5 (by decide) ?_
  refine z_putI C zCl3 0 flX3_9 rfl rfl rfl (by exact hi) dX3_init_7 ?_
  refine z_aload_n C 0 rfl dX3_init_10 rfl ?_
  refine z_iconst C dX3_init_11 ?_
  refine z_putI C zCl3 1 flX3_15 rfl rfl rfl (by exact hi) dX3_init_12 ?_
  refine z_aload_n C 0 rfl dX3_init_15 rfl ?_
  refine z_iconst C dX3_init_16 ?_
  refine z_newI (n := 5) (m := i + 1) C (zTb_of (tb_1 _ (List.mem_of_getElem? (i := 55) rfl)) rfl) (by exact (zZr_I (zZr_I hz (lk_lt hi)) (lk_lt hi))) (by exact hl) (by omega) (by decide) (Nat.le_of_ble_eq_true rfl) (Nat.le_of_ble_eq_true rfl) rfl dX3_init_17 ?_
  refine z_putFR C zCl3 2 flX3_18 rfl ⟨rfl, rfl⟩ rfl rfl rfl (by exact (zP_old hi)) dX3_init_19 ?_
  exact zZ_vret C hR (Nat.le_of_ble_eq_true rfl) (Nat.le_of_ble_eq_true rfl) dX3_init_22 rfl ⟨rfl, rfl⟩
def bL (σ : zSt) (i : Nat) : zSt := zO (zP (zI (zI (σ) i 0 (-1)) i 1 0) (8, 40)) i 2 (i + 1)
theorem bL_len {σ : zSt} {i j : Nat} (h : σ.1.length = j) : (bL σ i).1.length = j + 1 := (zP_len h)
theorem bL_old {σ : zSt} {i j : Nat} {kd : Nat × Nat} (h : σ.1[j]? = some kd) : (bL σ i).1[j]? = some kd := (zP_old h)
theorem bL_z {σ : zSt} {i : Nat} (hi : σ.1[i]? = some (2, 3)) (hl : σ.1.length = i + 1) (hz : zZr σ) : zZr (bL σ i) := (zZr_O (zZr_P (zZr_I (zZr_I hz (lk_lt hi)) (lk_lt hi))) (lk_lt (zP_old hi)))
theorem c_X2_init {g : zG} {σ : zSt} {i : Nat} (hi : σ.1[i]? = some (2, 3)) (hl : σ.1.length = i + 1) (hm : i + 1 < 74) (hz : zZr σ) : zRunB g mX2_init 1 1 40 [.ref i] σ (zIs none (bL σ i)) := by
  refine zRunB_intro rfl (Nat.le_of_ble_eq_true rfl) (fun X C hO hR => ?_)
  show zZ g X 0 0 _ 0 [(0, .ref i)] []
  refine z_aload_n C 0 rfl dX2_init_0 rfl ?_
  refine z_objInit C (zTb_of (tb_1 _ (List.mem_of_getElem? (i := 140) rfl)) rfl) (zTb_of (tb_1 _ (List.mem_of_getElem? (i := 23) rfl)) rfl) (zTb_of (tb_1 _ (List.mem_of_getElem? (i := 24) rfl)) rfl) (by decide) (Nat.le_of_ble_eq_true rfl) dX2_init_1 ?_
  refine z_aload_n C 0 rfl dX2_init_4 rfl ?_
  refine z_iconst C dX2_init_5 ?_
  refine z_putI C zCl2 0 flX2_9 rfl rfl rfl (by exact hi) dX2_init_6 ?_
  refine z_aload_n C 0 rfl dX2_init_9 rfl ?_
  refine z_iconst C dX2_init_10 ?_
  refine z_putI C zCl2 1 flX2_15 rfl rfl rfl (by exact hi) dX2_init_11 ?_
  refine z_aload_n C 0 rfl dX2_init_14 rfl ?_
  refine z_bipush C dX2_init_15 (by decide) ?_
  refine z_newJ (n := 40) (m := i + 1) C (zTb_of (tb_1 _ (List.mem_of_getElem? (i := 154) rfl)) rfl) (by exact (zZr_I (zZr_I hz (lk_lt hi)) (lk_lt hi))) (by exact hl) (by omega) (by decide) (Nat.le_of_ble_eq_true rfl) (Nat.le_of_ble_eq_true rfl) rfl dX2_init_17 ?_
  refine z_putFR C zCl2 2 flX2_18 rfl ⟨rfl, rfl⟩ rfl rfl rfl (by exact (zP_old hi)) dX2_init_19 ?_
  exact zZ_vret C hR (Nat.le_of_ble_eq_true rfl) (Nat.le_of_ble_eq_true rfl) dX2_init_22 rfl ⟨rfl, rfl⟩
def bH (σ : zSt) (i : Nat) : zSt := zO (bS (zP (zO (zP (zO (zP (zI (zJ (zI (zI (zI (zI (zI (σ) i 0 6) i 1 0) i 2 2) i 3 0) i 4 1) i 5 0) i 6 0) (7, 5)) i 7 (i + 1)) (7, 5)) i 8 (i + 2)) (3, 3)) (i + 3)) i 9 (i + 3)
theorem bH_len {σ : zSt} {i j : Nat} (h : σ.1.length = j) : (bH σ i).1.length = j + 4 := (bS_len (zP_len (zP_len (zP_len h))))
theorem bH_old {σ : zSt} {i j : Nat} {kd : Nat × Nat} (h : σ.1[j]? = some kd) : (bH σ i).1[j]? = some kd := (bS_old (zP_old (zP_old (zP_old h))))
theorem bH_z {σ : zSt} {i : Nat} (hi : σ.1[i]? = some (0, 10)) (hl : σ.1.length = i + 1) (hz : zZr σ) : zZr (bH σ i) := (zZr_O (bS_z (zP_last (zP_len (zP_len hl))) (zP_len (zP_len (zP_len hl))) (zZr_P (zZr_O (zZr_P (zZr_O (zZr_P (zZr_I (zZr_J (zZr_I (zZr_I (zZr_I (zZr_I (zZr_I hz (lk_lt hi)) (lk_lt hi)) (lk_lt hi)) (lk_lt hi)) (lk_lt hi)) (lk_lt hi)) (lk_lt hi))) (lk_lt (zP_old hi)))) (lk_lt (zP_old (zP_old hi)))))) (lk_lt (bS_old (zP_old (zP_old (zP_old hi))))))
theorem c_X0_init {g : zG} {σ : zSt} {i : Nat} (hi : σ.1[i]? = some (0, 10)) (hl : σ.1.length = i + 1) (hm : i + 4 < 74) (hz : zZr σ) : zRunB g mX0_init 2 4 18 [.ref i] σ (zIs none (bH σ i)) := by
  refine zRunB_intro rfl (Nat.le_of_ble_eq_true rfl) (fun X C hO hR => ?_)
  show zZ g X 0 0 _ 0 [(0, .ref i)] []
  refine z_aload_n C 0 rfl dX0_init_0 rfl ?_
  refine z_objInit C (zTb_of (tb_1 _ (List.mem_of_getElem? (i := 30) rfl)) rfl) (zTb_of (tb_1 _ (List.mem_of_getElem? (i := 23) rfl)) rfl) (zTb_of (tb_1 _ (List.mem_of_getElem? (i := 24) rfl)) rfl) (by decide) (Nat.le_of_ble_eq_true rfl) dX0_init_1 ?_
  refine z_aload_n C 0 rfl dX0_init_4 rfl ?_
  refine z_bipush C dX0_init_5 (by decide) ?_
  refine z_putI C zCl0 0 flX0_9 rfl rfl rfl (by exact hi) dX0_init_7 ?_
  refine z_aload_n C 0 rfl dX0_init_10 rfl ?_
  refine z_iconst C dX0_init_11 ?_
  refine z_putI C zCl0 1 flX0_15 rfl rfl rfl (by exact hi) dX0_init_12 ?_
  refine z_aload_n C 0 rfl dX0_init_15 rfl ?_
  refine z_iconst C dX0_init_16 ?_
  refine z_putI C zCl0 2 flX0_18 rfl rfl rfl (by exact hi) dX0_init_17 ?_
  refine z_aload_n C 0 rfl dX0_init_20 rfl ?_
  refine z_iconst C dX0_init_21 ?_
  refine z_putI C zCl0 3 flX0_21 rfl rfl rfl (by exact hi) dX0_init_22 ?_
  refine z_aload_n C 0 rfl dX0_init_25 rfl ?_
  refine z_iconst C dX0_init_26 ?_
  refine z_putI C zCl0 4 flX0_24 rfl rfl rfl (by exact hi) dX0_init_27 ?_
  refine z_aload_n C 0 rfl dX0_init_30 rfl ?_
  refine z_lconst C 0 dX0_init_31 rfl ?_
  refine z_putJ C zCl0 5 flX0_27 rfl rfl rfl (by exact hi) dX0_init_32 ?_
  refine z_aload_n C 0 rfl dX0_init_35 rfl ?_
  refine z_iconst C dX0_init_36 ?_
  refine z_putI C zCl0 6 flX0_31 rfl rfl rfl (by exact hi) dX0_init_37 ?_
  refine z_aload_n C 0 rfl dX0_init_40 rfl ?_
  refine z_iconst C dX0_init_41 ?_
  refine z_newI (n := 5) (m := i + 1) C (zTb_of (tb_1 _ (List.mem_of_getElem? (i := 55) rfl)) rfl) (by exact (zZr_I (zZr_J (zZr_I (zZr_I (zZr_I (zZr_I (zZr_I hz (lk_lt hi)) (lk_lt hi)) (lk_lt hi)) (lk_lt hi)) (lk_lt hi)) (lk_lt hi)) (lk_lt hi))) (by exact hl) (by omega) (by decide) (Nat.le_of_ble_eq_true rfl) (Nat.le_of_ble_eq_true rfl) rfl dX0_init_42 ?_
  refine z_putFR C zCl0 7 flX0_34 rfl ⟨rfl, rfl⟩ rfl rfl rfl (by exact (zP_old hi)) dX0_init_44 ?_
  refine z_aload_n C 0 rfl dX0_init_47 rfl ?_
  refine z_iconst C dX0_init_48 ?_
  refine z_newI (n := 5) (m := i + 2) C (zTb_of (tb_1 _ (List.mem_of_getElem? (i := 55) rfl)) rfl) (by exact (zZr_O (zZr_P (zZr_I (zZr_J (zZr_I (zZr_I (zZr_I (zZr_I (zZr_I hz (lk_lt hi)) (lk_lt hi)) (lk_lt hi)) (lk_lt hi)) (lk_lt hi)) (lk_lt hi)) (lk_lt hi))) (lk_lt (zP_old hi)))) (by exact (zP_len hl)) (by omega) (by decide) (Nat.le_of_ble_eq_true rfl) (Nat.le_of_ble_eq_true rfl) rfl dX0_init_49 ?_
  refine z_putFR C zCl0 8 flX0_38 rfl ⟨rfl, rfl⟩ rfl rfl rfl (by exact (zP_old (zP_old hi))) dX0_init_51 ?_
  refine z_aload_n C 0 rfl dX0_init_54 rfl ?_
  refine z_new (m := i + 3) C zCl3 dfX3 (zTb_of (tb_1 _ (List.mem_of_getElem? (i := 31) rfl)) rfl) (zTb_of (tb_1 _ (List.mem_of_getElem? (i := 32) rfl)) rfl) (zTb_of (tb_1 _ (List.mem_of_getElem? (i := 3) rfl)) rfl) (by exact (zZr_O (zZr_P (zZr_O (zZr_P (zZr_I (zZr_J (zZr_I (zZr_I (zZr_I (zZr_I (zZr_I hz (lk_lt hi)) (lk_lt hi)) (lk_lt hi)) (lk_lt hi)) (lk_lt hi)) (lk_lt hi)) (lk_lt hi))) (lk_lt (zP_old hi)))) (lk_lt (zP_old (zP_old hi))))) (by exact (zP_len (zP_len hl))) (by omega) (Nat.le_of_ble_eq_true rfl) (Nat.le_of_ble_eq_true rfl) dX0_init_55 ?_
  refine z_dup C dX0_init_58 rfl ?_
  refine zZ_callB0 C hO oX3_init iX3_init rfl rfl lkX0_43 (c_X3_init (by exact (zP_last (zP_len (zP_len hl)))) (by exact (zP_len (zP_len (zP_len hl)))) (by omega) (by exact (zZr_P (zZr_O (zZr_P (zZr_O (zZr_P (zZr_I (zZr_J (zZr_I (zZr_I (zZr_I (zZr_I (zZr_I hz (lk_lt hi)) (lk_lt hi)) (lk_lt hi)) (lk_lt hi)) (lk_lt hi)) (lk_lt hi)) (lk_lt hi))) (lk_lt (zP_old hi)))) (lk_lt (zP_old (zP_old hi))))))) (by decide) (Nat.le_of_ble_eq_true rfl) (Nat.le_of_ble_eq_true rfl) (Nat.le_of_ble_eq_true rfl) dX0_init_59 ?_
  refine z_putFR C zCl0 9 flX0_44 rfl ⟨rfl, rfl⟩ rfl rfl rfl (by exact (bS_old (zP_old (zP_old (zP_old hi))))) dX0_init_62 ?_
  exact zZ_vret C hR (Nat.le_of_ble_eq_true rfl) (Nat.le_of_ble_eq_true rfl) dX0_init_65 rfl ⟨rfl, rfl⟩
def bT (σ : zSt) (i : Nat) : zSt := zI (zI (zI (zO (bH (zP (zI (zO (zP (σ) (7, 250)) i 0 (i + 1)) i 1 0) (0, 10)) (i + 2)) i 2 (i + 2)) i 3 0) i 4 0) i 5 0
theorem bT_len {σ : zSt} {i j : Nat} (h : σ.1.length = j) : (bT σ i).1.length = j + 6 := (bH_len (zP_len (zP_len h)))
theorem bT_old {σ : zSt} {i j : Nat} {kd : Nat × Nat} (h : σ.1[j]? = some kd) : (bT σ i).1[j]? = some kd := (bH_old (zP_old (zP_old h)))
theorem bT_z {σ : zSt} {i : Nat} (hi : σ.1[i]? = some (4, 6)) (hl : σ.1.length = i + 1) (hz : zZr σ) : zZr (bT σ i) := (zZr_I (zZr_I (zZr_I (zZr_O (bH_z (zP_last (zP_len hl)) (zP_len (zP_len hl)) (zZr_P (zZr_I (zZr_O (zZr_P hz) (lk_lt (zP_old hi))) (lk_lt (zP_old hi))))) (lk_lt (bH_old (zP_old (zP_old hi))))) (lk_lt (bH_old (zP_old (zP_old hi))))) (lk_lt (bH_old (zP_old (zP_old hi))))) (lk_lt (bH_old (zP_old (zP_old hi)))))
theorem c_X4_init {g : zG} {σ : zSt} {i : Nat} (hi : σ.1[i]? = some (4, 6)) (hl : σ.1.length = i + 1) (hm : i + 6 < 74) (hz : zZr σ) : zRunB g mX4_init 3 6 278 [.ref i] σ (zIs none (bT σ i)) := by
  refine zRunB_intro rfl (Nat.le_of_ble_eq_true rfl) (fun X C hO hR => ?_)
  show zZ g X 0 0 _ 0 [(0, .ref i)] []
  refine z_aload_n C 0 rfl dX4_init_0 rfl ?_
  refine z_objInit C (zTb_of (tb_1 _ (List.mem_of_getElem? (i := 109) rfl)) rfl) (zTb_of (tb_1 _ (List.mem_of_getElem? (i := 23) rfl)) rfl) (zTb_of (tb_1 _ (List.mem_of_getElem? (i := 24) rfl)) rfl) (by decide) (Nat.le_of_ble_eq_true rfl) dX4_init_1 ?_
  refine z_aload_n C 0 rfl dX4_init_4 rfl ?_
  refine z_sipush C dX4_init_5 (by decide) ?_
  refine z_newI (n := 250) (m := i + 1) C (zTb_of (tb_1 _ (List.mem_of_getElem? (i := 55) rfl)) rfl) (by exact hz) (by exact hl) (by omega) (by decide) (Nat.le_of_ble_eq_true rfl) (Nat.le_of_ble_eq_true rfl) rfl dX4_init_8 ?_
  refine z_putFR C zCl4 0 flX4_9 rfl ⟨rfl, rfl⟩ rfl rfl rfl (by exact (zP_old hi)) dX4_init_10 ?_
  refine z_aload_n C 0 rfl dX4_init_13 rfl ?_
  refine z_iconst C dX4_init_14 ?_
  refine z_putI C zCl4 1 flX4_15 rfl rfl rfl (by exact (zP_old hi)) dX4_init_15 ?_
  refine z_aload_n C 0 rfl dX4_init_18 rfl ?_
  refine z_new (m := i + 2) C zCl0 dfX0 (zTb_of (tb_1 _ (List.mem_of_getElem? (i := 110) rfl)) rfl) (zTb_of (tb_1 _ (List.mem_of_getElem? (i := 26) rfl)) rfl) (zTb_of (tb_1 _ (List.mem_of_getElem? (i := 2) rfl)) rfl) (by exact (zZr_I (zZr_O (zZr_P hz) (lk_lt (zP_old hi))) (lk_lt (zP_old hi)))) (by exact (zP_len hl)) (by omega) (Nat.le_of_ble_eq_true rfl) (Nat.le_of_ble_eq_true rfl) dX4_init_19 ?_
  refine z_dup C dX4_init_22 rfl ?_
  refine zZ_callB0 C hO oX0_init iX0_init rfl rfl lkX4_21 (c_X0_init (by exact (zP_last (zP_len hl))) (by exact (zP_len (zP_len hl))) (by omega) (by exact (zZr_P (zZr_I (zZr_O (zZr_P hz) (lk_lt (zP_old hi))) (lk_lt (zP_old hi)))))) (by decide) (Nat.le_of_ble_eq_true rfl) (Nat.le_of_ble_eq_true rfl) (Nat.le_of_ble_eq_true rfl) dX4_init_23 ?_
  refine z_putFR C zCl4 2 flX4_22 rfl ⟨rfl, rfl⟩ rfl rfl rfl (by exact (bH_old (zP_old (zP_old hi)))) dX4_init_26 ?_
  refine z_aload_n C 0 rfl dX4_init_29 rfl ?_
  refine z_iconst C dX4_init_30 ?_
  refine z_putI C zCl4 3 flX4_26 rfl rfl rfl (by exact (bH_old (zP_old (zP_old hi)))) dX4_init_31 ?_
  refine z_aload_n C 0 rfl dX4_init_34 rfl ?_
  refine z_iconst C dX4_init_35 ?_
  refine z_putI C zCl4 4 flX4_29 rfl rfl rfl (by exact (bH_old (zP_old (zP_old hi)))) dX4_init_36 ?_
  refine z_aload_n C 0 rfl dX4_init_39 rfl ?_
  refine z_iconst C dX4_init_40 ?_
  refine z_putI C zCl4 5 flX4_32 rfl rfl rfl (by exact (bH_old (zP_old (zP_old hi)))) dX4_init_41 ?_
  exact zZ_vret C hR (Nat.le_of_ble_eq_true rfl) (Nat.le_of_ble_eq_true rfl) dX4_init_44 rfl ⟨rfl, rfl⟩
