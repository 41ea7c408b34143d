/-! the class's and the reference's constructors (written by bw2.py) -/
def bX0 (σ : zSt) : zSt := zO (zP (zO (bT (zP (zI (zO (bH (zP (zO (bH (zP (σ) (0, 10)) 1) 0 0 1) (0, 10)) 6) 0 1 6) 0 2 0) (4, 6)) 11) 0 3 11) (10, 8)) 0 4 18
def bXs (σ : zSt) : Nat → zSt
  | 0 => bX0 σ
  | e + 1 => zO (bL (zP (bXs σ e) (2, 3)) (19 + 2 * e)) 18 e (19 + 2 * e)
theorem bX0_len {σ : zSt} (hl : σ.1.length = 1) : (bX0 σ).1.length = 19 := (zP_len (bT_len (zP_len (bH_len (zP_len (bH_len (zP_len hl)))))))
theorem bX0_old {σ : zSt} {j : Nat} {kd : Nat × Nat} (h : σ.1[j]? = some kd) : (bX0 σ).1[j]? = some kd := (zP_old (bT_old (zP_old (bH_old (zP_old (bH_old (zP_old h)))))))
theorem bX0_z {σ : zSt} (hi : σ.1[0]? = some (5, 8)) (hl : σ.1.length = 1) (hz : zZr σ) : zZr (bX0 σ) := (zZr_O (zZr_P (zZr_O (bT_z (zP_last (bH_len (zP_len (bH_len (zP_len hl))))) (zP_len (bH_len (zP_len (bH_len (zP_len hl))))) (zZr_P (zZr_I (zZr_O (bH_z (zP_last (bH_len (zP_len hl))) (zP_len (bH_len (zP_len hl))) (zZr_P (zZr_O (bH_z (zP_last hl) (zP_len hl) (zZr_P hz)) (lk_lt (bH_old (zP_old hi)))))) (lk_lt (bH_old (zP_old (bH_old (zP_old hi)))))) (lk_lt (bH_old (zP_old (bH_old (zP_old hi)))))))) (lk_lt (bT_old (zP_old (bH_old (zP_old (bH_old (zP_old hi))))))))) (lk_lt (zP_old (bT_old (zP_old (bH_old (zP_old (bH_old (zP_old hi)))))))))
theorem bX0_row {σ : zSt} (hl : σ.1.length = 1) : (bX0 σ).1[18]? = some (10, 8) := (zP_last (bT_len (zP_len (bH_len (zP_len (bH_len (zP_len hl)))))))
theorem bXs_len {σ : zSt} (hl : σ.1.length = 1) : ∀ e, (bXs σ e).1.length = 19 + 2 * e
  | 0 => bX0_len hl
  | e + 1 => (bL_len (zP_len (bXs_len hl e)))
theorem bXs_old {σ : zSt} {j : Nat} {kd : Nat × Nat} (h : (bX0 σ).1[j]? = some kd) : ∀ e, (bXs σ e).1[j]? = some kd
  | 0 => h
  | e + 1 => bL_old (zP_old (bXs_old h e))
theorem bXs_z {σ : zSt} (hi : σ.1[0]? = some (5, 8)) (hl : σ.1.length = 1) (hz : zZr σ) : ∀ e, zZr (bXs σ e)
  | 0 => bX0_z hi hl hz
  | e + 1 => zZr_O (bL_z (zP_last (bXs_len hl e)) (zP_len (bXs_len hl e)) (zZr_P (bXs_z hi hl hz e))) (lk_lt (bL_old (zP_old (bXs_old (bX0_row hl) e))))
theorem bXs_ref {σ : zSt} : ∀ e, (bXs σ e).2.2.2 0 4 = some 18
  | 0 => by
    show (bX0 σ).2.2.2 0 4 = some 18
    unfold bX0
    first | rfl | exact zu_s | simp [zu]
  | e + 1 => by
    show zu (bL (zP (bXs σ e) (2, 3)) (19 + 2 * e)).2.2.2 18 e (some (19 + 2 * e)) 0 4 = some 18
    rw [zu_n (fun z => absurd z.1 (by omega)), bL_ref (by omega)]
    exact bXs_ref e
def bX (σ : zSt) : zSt := zO (bV (zP (zO (bS (zP (zO (zP (bXs σ 8) (7, 5)) 0 5 35) (3, 3)) 36) 0 6 36) (1, 6)) 38) 0 7 38
theorem bX_len {σ : zSt} (hl : σ.1.length = 1) : (bX σ).1.length = 58 := (bV_len (zP_len (bS_len (zP_len (zP_len (bXs_len hl 8))))))
theorem bX_old {σ : zSt} {j : Nat} {kd : Nat × Nat} (h : σ.1[j]? = some kd) : (bX σ).1[j]? = some kd := (bV_old (zP_old (bS_old (zP_old (zP_old (bXs_old (bX0_old h) 8))))))
theorem bX_z {σ : zSt} (hi : σ.1[0]? = some (5, 8)) (hl : σ.1.length = 1) (hz : zZr σ) : zZr (bX σ) := (zZr_O (bV_z (zP_last (bS_len (zP_len (zP_len (bXs_len hl 8))))) (zP_len (bS_len (zP_len (zP_len (bXs_len hl 8))))) (zZr_P (zZr_O (bS_z (zP_last (zP_len (bXs_len hl 8))) (zP_len (zP_len (bXs_len hl 8))) (zZr_P (zZr_O (zZr_P (bXs_z hi hl hz 8)) (lk_lt (zP_old (bXs_old (bX0_old hi) 8)))))) (lk_lt (bS_old (zP_old (zP_old (bXs_old (bX0_old hi) 8)))))))) (lk_lt (bV_old (zP_old (bS_old (zP_old (zP_old (bXs_old (bX0_old hi) 8))))))))
theorem c_X5_init {g : zG} {σ : zSt} (hi : σ.1[0]? = some (5, 8)) (hl : σ.1.length = 1) (hz : zZr σ) : zRunB g mX5_init 4 57 920 [.ref 0] σ (zIs none (bX σ)) := by
  refine zRunB_intro rfl (Nat.le_of_ble_eq_true rfl) (fun X C hO hR => ?_)
  show zZ g X 0 0 _ 0 [(0, .ref 0)] []
  refine z_aload_n C 0 rfl dX5_init_0 rfl ?_
  refine z_objInit C (zTb_of (tb_1 _ (List.mem_of_getElem? (i := 22) rfl)) rfl) (zTb_of (tb_1 _ (List.mem_of_getElem? (i := 23) rfl)) rfl) (zTb_of (tb_1 _ (List.mem_of_getElem? (i := 24) rfl)) rfl) (by decide) (Nat.le_of_ble_eq_true rfl) dX5_init_1 ?_
  refine z_aload_n C 0 rfl dX5_init_4 rfl ?_
  refine z_new (m := 1) C zCl0 dfX0 (zTb_of (tb_1 _ (List.mem_of_getElem? (i := 25) rfl)) rfl) (zTb_of (tb_1 _ (List.mem_of_getElem? (i := 26) rfl)) rfl) (zTb_of (tb_1 _ (List.mem_of_getElem? (i := 2) rfl)) rfl) (by exact hz) (by exact hl) (by omega) (by first | exact Nat.le_of_ble_eq_true rfl | omega) (by first | exact Nat.le_of_ble_eq_true rfl | omega) dX5_init_5 ?_
  refine z_dup C dX5_init_8 rfl ?_
  refine zZ_callB0 C hO oX0_init iX0_init rfl rfl lkX5_9 (c_X0_init (by exact (zP_last hl)) (by exact (zP_len hl)) (by omega) (by exact (zZr_P hz))) (by decide) (by first | exact Nat.le_of_ble_eq_true rfl | omega) (by first | exact Nat.le_of_ble_eq_true rfl | omega) (Nat.le_of_ble_eq_true rfl) dX5_init_9 ?_
  refine z_putFR C zCl5 0 flX5_10 rfl ⟨rfl, rfl⟩ rfl rfl rfl (by exact (bH_old (zP_old hi))) dX5_init_12 ?_
  refine z_aload_n C 0 rfl dX5_init_15 rfl ?_
  refine z_new (m := 6) C zCl0 dfX0 (zTb_of (tb_1 _ (List.mem_of_getElem? (i := 25) rfl)) rfl) (zTb_of (tb_1 _ (List.mem_of_getElem? (i := 26) rfl)) rfl) (zTb_of (tb_1 _ (List.mem_of_getElem? (i := 2) rfl)) rfl) (by exact (zZr_O (bH_z (zP_last hl) (zP_len hl) (zZr_P hz)) (lk_lt (bH_old (zP_old hi))))) (by exact (bH_len (zP_len hl))) (by omega) (by first | exact Nat.le_of_ble_eq_true rfl | omega) (by first | exact Nat.le_of_ble_eq_true rfl | omega) dX5_init_16 ?_
  refine z_dup C dX5_init_19 rfl ?_
  refine zZ_callB0 C hO oX0_init iX0_init rfl rfl lkX5_9 (c_X0_init (by exact (zP_last (bH_len (zP_len hl)))) (by exact (zP_len (bH_len (zP_len hl)))) (by omega) (by exact (zZr_P (zZr_O (bH_z (zP_last hl) (zP_len hl) (zZr_P hz)) (lk_lt (bH_old (zP_old hi))))))) (by decide) (by first | exact Nat.le_of_ble_eq_true rfl | omega) (by first | exact Nat.le_of_ble_eq_true rfl | omega) (Nat.le_of_ble_eq_true rfl) dX5_init_20 ?_
  refine z_putFR C zCl5 1 flX5_16 rfl ⟨rfl, rfl⟩ rfl rfl rfl (by exact (bH_old (zP_old (bH_old (zP_old hi))))) dX5_init_23 ?_
  refine z_aload_n C 0 rfl dX5_init_26 rfl ?_
  refine z_iconst C dX5_init_27 ?_
  refine z_putZ C zCl5 2 flX5_19 rfl rfl rfl (by exact (bH_old (zP_old (bH_old (zP_old hi))))) (Or.inl rfl) dX5_init_28 ?_
  refine z_aload_n C 0 rfl dX5_init_31 rfl ?_
  refine z_new (m := 11) C zCl4 dfX4 (zTb_of (tb_1 _ (List.mem_of_getElem? (i := 104) rfl)) rfl) (zTb_of (tb_1 _ (List.mem_of_getElem? (i := 105) rfl)) rfl) (zTb_of (tb_1 _ (List.mem_of_getElem? (i := 4) rfl)) rfl) (by exact (zZr_I (zZr_O (bH_z (zP_last (bH_len (zP_len hl))) (zP_len (bH_len (zP_len hl))) (zZr_P (zZr_O (bH_z (zP_last hl) (zP_len hl) (zZr_P hz)) (lk_lt (bH_old (zP_old hi)))))) (lk_lt (bH_old (zP_old (bH_old (zP_old hi)))))) (lk_lt (bH_old (zP_old (bH_old (zP_old hi))))))) (by exact (bH_len (zP_len (bH_len (zP_len hl))))) (by omega) (by first | exact Nat.le_of_ble_eq_true rfl | omega) (by first | exact Nat.le_of_ble_eq_true rfl | omega) dX5_init_32 ?_
  refine z_dup C dX5_init_35 rfl ?_
  refine zZ_callB0 C hO oX4_init iX4_init rfl rfl lkX5_25 (c_X4_init (by exact (zP_last (bH_len (zP_len (bH_len (zP_len hl)))))) (by exact (zP_len (bH_len (zP_len (bH_len (zP_len hl)))))) (by omega) (by exact (zZr_P (zZr_I (zZr_O (bH_z (zP_last (bH_len (zP_len hl))) (zP_len (bH_len (zP_len hl))) (zZr_P (zZr_O (bH_z (zP_last hl) (zP_len hl) (zZr_P hz)) (lk_lt (bH_old (zP_old hi)))))) (lk_lt (bH_old (zP_old (bH_old (zP_old hi)))))) (lk_lt (bH_old (zP_old (bH_old (zP_old hi))))))))) (by decide) (by first | exact Nat.le_of_ble_eq_true rfl | omega) (by first | exact Nat.le_of_ble_eq_true rfl | omega) (Nat.le_of_ble_eq_true rfl) dX5_init_36 ?_
  refine z_putFR C zCl5 3 flX5_26 rfl ⟨rfl, rfl⟩ rfl rfl rfl (by exact (bT_old (zP_old (bH_old (zP_old (bH_old (zP_old hi))))))) dX5_init_39 ?_
  refine z_aload_n C 0 rfl dX5_init_42 rfl ?_
  refine z_bipush C dX5_init_43 (by decide) ?_
  refine z_anew (n := 8) (m := 18) C 3 10 rfl hO.1 (zTb_of (tb_1 _ (List.mem_of_getElem? (i := 134) rfl)) rfl) (by exact (zZr_O (bT_z (zP_last (bH_len (zP_len (bH_len (zP_len hl))))) (zP_len (bH_len (zP_len (bH_len (zP_len hl))))) (zZr_P (zZr_I (zZr_O (bH_z (zP_last (bH_len (zP_len hl))) (zP_len (bH_len (zP_len hl))) (zZr_P (zZr_O (bH_z (zP_last hl) (zP_len hl) (zZr_P hz)) (lk_lt (bH_old (zP_old hi)))))) (lk_lt (bH_old (zP_old (bH_old (zP_old hi)))))) (lk_lt (bH_old (zP_old (bH_old (zP_old hi)))))))) (lk_lt (bT_old (zP_old (bH_old (zP_old (bH_old (zP_old hi))))))))) (by exact (bT_len (zP_len (bH_len (zP_len (bH_len (zP_len hl))))))) (by omega) (by decide) (Nat.le_of_ble_eq_true rfl) (Nat.le_of_ble_eq_true rfl) zE_10 rfl dX5_init_45 ?_
  refine z_putFR C zCl5 4 flX5_32 rfl ⟨rfl, rfl⟩ rfl rfl rfl (by exact (zP_old (bT_old (zP_old (bH_old (zP_old (bH_old (zP_old hi)))))))) dX5_init_48 ?_
  refine z_iconst C dX5_init_51 ?_
  refine z_istore_n C [(1, .int (iI 0)), (0, .ref 0)] dX5_init_52 rfl (by decide) rfl ?_
  refine zZ_nc (nc' := (fun e : Nat => 18 + 2 * e) 0) (ns' := (fun e : Nat => 348 + 43 * e) 0) rfl rfl (zZ_cast (σ' := bXs σ 0) (L' := (fun e : Nat => [(1, .int (iI (e : Int))), (0, .ref 0)]) 0) rfl rfl rfl ?_)
  refine zforB 8 (fun e => 18 + 2 * e) (fun e => 348 + 43 * e) (bXs σ) (fun e : Nat => [(1, .int (iI (e : Int))), (0, .ref 0)]) ?_ ?_
  · intro e he kke
    refine zZ_nc (nc' := 18 + 2 * e) (ns' := 348 + 43 * e) rfl rfl ?_
    show zZ g X _ _ _ 53 [(1, .int (iI (e : Int))), (0, .ref 0)] []
    refine z_iload_n C 0 rfl dX5_init_53 rfl ?_
    refine z_bipush C dX5_init_54 (by decide) ?_
    refine z_icmp_ge C 78 dX5_init_56 (by decide) (by omega) (by omega) (fun hh => absurd hh (by omega)) (fun _ => ?_)
    refine z_aload_n C 1 rfl dX5_init_59 rfl ?_
    refine z_getR C zCl5 4 flX5_32 rfl (by exact (bXs_old (bX0_old hi) e)) (bXs_ref e) dX5_init_60 ?_
    refine z_iload_n C 0 rfl dX5_init_63 rfl ?_
    refine z_new (m := 19 + 2 * e) C zCl2 dfX2 (zTb_of (tb_1 _ (List.mem_of_getElem? (i := 134) rfl)) rfl) (zTb_of (tb_1 _ (List.mem_of_getElem? (i := 136) rfl)) rfl) (zTb_of (tb_1 _ (List.mem_of_getElem? (i := 5) rfl)) rfl) (by exact (bXs_z hi hl hz e)) (by exact (bXs_len hl e)) (by omega) (by first | exact Nat.le_of_ble_eq_true rfl | omega) (by first | exact Nat.le_of_ble_eq_true rfl | omega) dX5_init_64 ?_
    refine z_dup C dX5_init_67 rfl ?_
    refine zZ_callB0 C hO oX2_init iX2_init rfl rfl lkX5_36 (c_X2_init (by exact (zP_last (bXs_len hl e))) (by exact (zP_len (bXs_len hl e))) (by omega) (by exact (zZr_P (bXs_z hi hl hz e)))) (by decide) (by first | exact Nat.le_of_ble_eq_true rfl | omega) (by first | exact Nat.le_of_ble_eq_true rfl | omega) (Nat.le_of_ble_eq_true rfl) dX5_init_68 ?_
    refine z_aast C e 3 (19 + 2 * e) rfl rfl (fun τ => zE_10) (by exact (bL_old (zP_old (bXs_old (bX0_row hl) e)))) he (by decide) (by exact (bL_old (zP_last (bXs_len hl e)))) (by decide) rfl dX5_init_71 ?_
    obtain ⟨v1, ev1⟩ : ∃ v : Int, v = (e : Int) + 1 := ⟨_, rfl⟩
    refine z_iinc C 0 v1 [(1, .int (iI v1)), (0, .ref 0)] dX5_init_72 rfl ev1.symm (by decide) rfl ?_
    refine z_goto C 53 dX5_init_75 (by decide) ?_
    exact zZ_nc (by omega) (by omega) (zZ_cast rfl (zLc (by omega) rfl) rfl kke)
  · refine zZ_nc (nc' := 34) (ns' := 692) rfl rfl ?_
    show zZ g X _ _ _ 53 [(1, .int (iI ((8 : Nat) : Int))), (0, .ref 0)] []
    refine z_iload_n C 0 rfl dX5_init_53 rfl ?_
    refine z_bipush C dX5_init_54 (by decide) ?_
    refine z_icmp_ge C 78 dX5_init_56 (by decide) (by omega) (by omega) (fun _ => ?_) (fun hh => absurd (by decide) hh)
    refine z_aload_n C 1 rfl dX5_init_78 rfl ?_
    refine z_iconst C dX5_init_79 ?_
    refine z_newI (n := 5) (m := 35) C (zTb_of (tb_1 _ (List.mem_of_getElem? (i := 55) rfl)) rfl) (by exact (bXs_z hi hl hz 8)) (by exact (bXs_len hl 8)) (by omega) (by decide) (Nat.le_of_ble_eq_true rfl) (Nat.le_of_ble_eq_true rfl) rfl dX5_init_80 ?_
    refine z_putFR C zCl5 5 flX5_37 rfl ⟨rfl, rfl⟩ rfl rfl rfl (by exact (zP_old (bXs_old (bX0_old hi) 8))) dX5_init_82 ?_
    refine z_aload_n C 1 rfl dX5_init_85 rfl ?_
    refine z_new (m := 36) C zCl3 dfX3 (zTb_of (tb_1 _ (List.mem_of_getElem? (i := 155) rfl)) rfl) (zTb_of (tb_1 _ (List.mem_of_getElem? (i := 32) rfl)) rfl) (zTb_of (tb_1 _ (List.mem_of_getElem? (i := 3) rfl)) rfl) (by exact (zZr_O (zZr_P (bXs_z hi hl hz 8)) (lk_lt (zP_old (bXs_old (bX0_old hi) 8))))) (by exact (zP_len (bXs_len hl 8))) (by omega) (by first | exact Nat.le_of_ble_eq_true rfl | omega) (by first | exact Nat.le_of_ble_eq_true rfl | omega) dX5_init_86 ?_
    refine z_dup C dX5_init_89 rfl ?_
    refine zZ_callB0 C hO oX3_init iX3_init rfl rfl lkX5_43 (c_X3_init (by exact (zP_last (zP_len (bXs_len hl 8)))) (by exact (zP_len (zP_len (bXs_len hl 8)))) (by omega) (by exact (zZr_P (zZr_O (zZr_P (bXs_z hi hl hz 8)) (lk_lt (zP_old (bXs_old (bX0_old hi) 8))))))) (by decide) (by first | exact Nat.le_of_ble_eq_true rfl | omega) (by first | exact Nat.le_of_ble_eq_true rfl | omega) (Nat.le_of_ble_eq_true rfl) dX5_init_90 ?_
    refine z_putFR C zCl5 6 flX5_44 rfl ⟨rfl, rfl⟩ rfl rfl rfl (by exact (bS_old (zP_old (zP_old (bXs_old (bX0_old hi) 8))))) dX5_init_93 ?_
    refine z_aload_n C 1 rfl dX5_init_96 rfl ?_
    refine z_new (m := 38) C zCl1 dfX1 (zTb_of (tb_1 _ (List.mem_of_getElem? (i := 157) rfl)) rfl) (zTb_of (tb_1 _ (List.mem_of_getElem? (i := 158) rfl)) rfl) (zTb_of (tb_1 _ (List.mem_of_getElem? (i := 6) rfl)) rfl) (by exact (zZr_O (bS_z (zP_last (zP_len (bXs_len hl 8))) (zP_len (zP_len (bXs_len hl 8))) (zZr_P (zZr_O (zZr_P (bXs_z hi hl hz 8)) (lk_lt (zP_old (bXs_old (bX0_old hi) 8)))))) (lk_lt (bS_old (zP_old (zP_old (bXs_old (bX0_old hi) 8))))))) (by exact (bS_len (zP_len (zP_len (bXs_len hl 8))))) (by omega) (by first | exact Nat.le_of_ble_eq_true rfl | omega) (by first | exact Nat.le_of_ble_eq_true rfl | omega) dX5_init_97 ?_
    refine z_dup C dX5_init_100 rfl ?_
    refine zZ_callB0 C hO oX1_init iX1_init rfl rfl lkX5_50 (c_X1_init (by exact (zP_last (bS_len (zP_len (zP_len (bXs_len hl 8)))))) (by exact (zP_len (bS_len (zP_len (zP_len (bXs_len hl 8)))))) (by omega) (by exact (zZr_P (zZr_O (bS_z (zP_last (zP_len (bXs_len hl 8))) (zP_len (zP_len (bXs_len hl 8))) (zZr_P (zZr_O (zZr_P (bXs_z hi hl hz 8)) (lk_lt (zP_old (bXs_old (bX0_old hi) 8)))))) (lk_lt (bS_old (zP_old (zP_old (bXs_old (bX0_old hi) 8))))))))) (by decide) (by first | exact Nat.le_of_ble_eq_true rfl | omega) (by first | exact Nat.le_of_ble_eq_true rfl | omega) (Nat.le_of_ble_eq_true rfl) dX5_init_101 ?_
    refine z_putFR C zCl5 7 flX5_51 rfl ⟨rfl, rfl⟩ rfl rfl rfl (by exact (bV_old (zP_old (bS_old (zP_old (zP_old (bXs_old (bX0_old hi) 8))))))) dX5_init_104 ?_
    exact zZ_vret C hR (Nat.le_of_ble_eq_true rfl) (Nat.le_of_ble_eq_true rfl) dX5_init_107 rfl ⟨rfl, rfl⟩
def bM0 (σ : zSt) : zSt := zI (zI (zI (zI (zO (zP (zO (zP (zO (zP (zO (zP (zO (zP (zO (zP (zO (zP (zO (zP (zO (zP (zO (zP (zO (zP (zO (zP (zO (zP (zO (zP (zO (zP (σ) (9, 67)) 58 1 59) (7, 5)) 58 6 60) (7, 5)) 58 7 61) (7, 5)) 58 8 62) (7, 250)) 58 13 63) (7, 8)) 58 18 64) (7, 8)) 58 19 65) (8, 320)) 58 20 66) (7, 7)) 58 21 67) (7, 90)) 58 23 68) (7, 90)) 58 24 69) (7, 56)) 58 25 70) (7, 6)) 58 26 71) (7, 6)) 58 27 72) (7, 67)) 58 29 73) 58 0 6) 58 3 55) 58 9 2) 58 11 1
def bMs (σ : zSt) : Nat → zSt
  | 0 => bM0 σ
  | e + 1 => zI (bMs σ e) 64 e (-1)
theorem bM0_len {σ : zSt} (hl : σ.1.length = 59) : (bM0 σ).1.length = 74 := (zP_len (zP_len (zP_len (zP_len (zP_len (zP_len (zP_len (zP_len (zP_len (zP_len (zP_len (zP_len (zP_len (zP_len (zP_len hl)))))))))))))))
theorem bM0_hi {σ : zSt} (hi : σ.1[58]? = some (6, 30)) : (bM0 σ).1[58]? = some (6, 30) := (zP_old (zP_old (zP_old (zP_old (zP_old (zP_old (zP_old (zP_old (zP_old (zP_old (zP_old (zP_old (zP_old (zP_old (zP_old hi)))))))))))))))
theorem bM0_64 {σ : zSt} (hl : σ.1.length = 59) : (bM0 σ).1[64]? = some (7, 8) := (zP_old (zP_old (zP_old (zP_old (zP_old (zP_old (zP_old (zP_old (zP_old (zP_last (zP_len (zP_len (zP_len (zP_len (zP_len hl)))))))))))))))
theorem bMs_1 {σ : zSt} : ∀ e, (bMs σ e).1 = (bM0 σ).1
  | 0 => rfl
  | e + 1 => bMs_1 e
theorem bMs_R {σ : zSt} : ∀ e, (bMs σ e).2.2.2 = (bM0 σ).2.2.2
  | 0 => rfl
  | e + 1 => bMs_R e
theorem bM0_R {σ : zSt} : (bM0 σ).2.2.2 58 18 = some 64 := by
  unfold bM0
  simp [zu, zP]
theorem c_X6_init {g : zG} {σ : zSt} (hi : σ.1[58]? = some (6, 30)) (hl : σ.1.length = 59) (hz : zZr σ) : zRunB g mX6_init 1 15 990 [.ref 58] σ (zIs none (bMs σ 8)) := by
  refine zRunB_intro rfl (Nat.le_of_ble_eq_true rfl) (fun X C hO hR => ?_)
  show zZ g X 0 0 _ 0 [(0, .ref 58)] []
  refine z_aload_n C 0 rfl dX6_init_0 rfl ?_
  refine z_objInit C (zTb_of (tb_4 _ (List.mem_of_getElem? (i := 108) rfl)) rfl) (zTb_of (tb_1 _ (List.mem_of_getElem? (i := 23) rfl)) rfl) (zTb_of (tb_1 _ (List.mem_of_getElem? (i := 24) rfl)) rfl) (by decide) (Nat.le_of_ble_eq_true rfl) dX6_init_1 ?_
  refine z_aload_n C 0 rfl dX6_init_4 rfl ?_
  refine z_bipush C dX6_init_5 (by decide) ?_
  refine z_newZ (n := 67) (m := 59) C (zTb_of (tb_4 _ (List.mem_of_getElem? (i := 200) rfl)) rfl) (by exact hz) (by exact hl) (by omega) (by decide) (Nat.le_of_ble_eq_true rfl) (Nat.le_of_ble_eq_true rfl) rfl dX6_init_7 ?_
  refine z_putFR C zCl6 1 flX6_7 rfl ⟨rfl, rfl⟩ rfl rfl rfl (by exact (zP_old hi)) dX6_init_9 ?_
  refine z_aload_n C 0 rfl dX6_init_12 rfl ?_
  refine z_iconst C dX6_init_13 ?_
  refine z_newI (n := 5) (m := 60) C (zTb_of (tb_1 _ (List.mem_of_getElem? (i := 55) rfl)) rfl) (by exact (zZr_O (zZr_P hz) (lk_lt (zP_old hi)))) (by exact (zP_len hl)) (by omega) (by decide) (Nat.le_of_ble_eq_true rfl) (Nat.le_of_ble_eq_true rfl) rfl dX6_init_14 ?_
  refine z_putFR C zCl6 6 flX6_13 rfl ⟨rfl, rfl⟩ rfl rfl rfl (by exact (zP_old (zP_old hi))) dX6_init_16 ?_
  refine z_aload_n C 0 rfl dX6_init_19 rfl ?_
  refine z_iconst C dX6_init_20 ?_
  refine z_newI (n := 5) (m := 61) C (zTb_of (tb_1 _ (List.mem_of_getElem? (i := 55) rfl)) rfl) (by exact (zZr_O (zZr_P (zZr_O (zZr_P hz) (lk_lt (zP_old hi)))) (lk_lt (zP_old (zP_old hi))))) (by exact (zP_len (zP_len hl))) (by omega) (by decide) (Nat.le_of_ble_eq_true rfl) (Nat.le_of_ble_eq_true rfl) rfl dX6_init_21 ?_
  refine z_putFR C zCl6 7 flX6_17 rfl ⟨rfl, rfl⟩ rfl rfl rfl (by exact (zP_old (zP_old (zP_old hi)))) dX6_init_23 ?_
  refine z_aload_n C 0 rfl dX6_init_26 rfl ?_
  refine z_iconst C dX6_init_27 ?_
  refine z_newI (n := 5) (m := 62) C (zTb_of (tb_1 _ (List.mem_of_getElem? (i := 55) rfl)) rfl) (by exact (zZr_O (zZr_P (zZr_O (zZr_P (zZr_O (zZr_P hz) (lk_lt (zP_old hi)))) (lk_lt (zP_old (zP_old hi))))) (lk_lt (zP_old (zP_old (zP_old hi)))))) (by exact (zP_len (zP_len (zP_len hl)))) (by omega) (by decide) (Nat.le_of_ble_eq_true rfl) (Nat.le_of_ble_eq_true rfl) rfl dX6_init_28 ?_
  refine z_putFR C zCl6 8 flX6_20 rfl ⟨rfl, rfl⟩ rfl rfl rfl (by exact (zP_old (zP_old (zP_old (zP_old hi))))) dX6_init_30 ?_
  refine z_aload_n C 0 rfl dX6_init_33 rfl ?_
  refine z_sipush C dX6_init_34 (by decide) ?_
  refine z_newI (n := 250) (m := 63) C (zTb_of (tb_1 _ (List.mem_of_getElem? (i := 55) rfl)) rfl) (by exact (zZr_O (zZr_P (zZr_O (zZr_P (zZr_O (zZr_P (zZr_O (zZr_P hz) (lk_lt (zP_old hi)))) (lk_lt (zP_old (zP_old hi))))) (lk_lt (zP_old (zP_old (zP_old hi)))))) (lk_lt (zP_old (zP_old (zP_old (zP_old hi))))))) (by exact (zP_len (zP_len (zP_len (zP_len hl))))) (by omega) (by decide) (Nat.le_of_ble_eq_true rfl) (Nat.le_of_ble_eq_true rfl) rfl dX6_init_37 ?_
  refine z_putFR C zCl6 13 flX6_23 rfl ⟨rfl, rfl⟩ rfl rfl rfl (by exact (zP_old (zP_old (zP_old (zP_old (zP_old hi)))))) dX6_init_39 ?_
  refine z_aload_n C 0 rfl dX6_init_42 rfl ?_
  refine z_bipush C dX6_init_43 (by decide) ?_
  refine z_newI (n := 8) (m := 64) C (zTb_of (tb_1 _ (List.mem_of_getElem? (i := 55) rfl)) rfl) (by exact (zZr_O (zZr_P (zZr_O (zZr_P (zZr_O (zZr_P (zZr_O (zZr_P (zZr_O (zZr_P hz) (lk_lt (zP_old hi)))) (lk_lt (zP_old (zP_old hi))))) (lk_lt (zP_old (zP_old (zP_old hi)))))) (lk_lt (zP_old (zP_old (zP_old (zP_old hi))))))) (lk_lt (zP_old (zP_old (zP_old (zP_old (zP_old hi)))))))) (by exact (zP_len (zP_len (zP_len (zP_len (zP_len hl)))))) (by omega) (by decide) (Nat.le_of_ble_eq_true rfl) (Nat.le_of_ble_eq_true rfl) rfl dX6_init_45 ?_
  refine z_putFR C zCl6 18 flX6_26 rfl ⟨rfl, rfl⟩ rfl rfl rfl (by exact (zP_old (zP_old (zP_old (zP_old (zP_old (zP_old hi))))))) dX6_init_47 ?_
  refine z_aload_n C 0 rfl dX6_init_50 rfl ?_
  refine z_bipush C dX6_init_51 (by decide) ?_
  refine z_newI (n := 8) (m := 65) C (zTb_of (tb_1 _ (List.mem_of_getElem? (i := 55) rfl)) rfl) (by exact (zZr_O (zZr_P (zZr_O (zZr_P (zZr_O (zZr_P (zZr_O (zZr_P (zZr_O (zZr_P (zZr_O (zZr_P hz) (lk_lt (zP_old hi)))) (lk_lt (zP_old (zP_old hi))))) (lk_lt (zP_old (zP_old (zP_old hi)))))) (lk_lt (zP_old (zP_old (zP_old (zP_old hi))))))) (lk_lt (zP_old (zP_old (zP_old (zP_old (zP_old hi)))))))) (lk_lt (zP_old (zP_old (zP_old (zP_old (zP_old (zP_old hi))))))))) (by exact (zP_len (zP_len (zP_len (zP_len (zP_len (zP_len hl))))))) (by omega) (by decide) (Nat.le_of_ble_eq_true rfl) (Nat.le_of_ble_eq_true rfl) rfl dX6_init_53 ?_
  refine z_putFR C zCl6 19 flX6_29 rfl ⟨rfl, rfl⟩ rfl rfl rfl (by exact (zP_old (zP_old (zP_old (zP_old (zP_old (zP_old (zP_old hi)))))))) dX6_init_55 ?_
  refine z_aload_n C 0 rfl dX6_init_58 rfl ?_
  refine z_sipush C dX6_init_59 (by decide) ?_
  refine z_newJ (n := 320) (m := 66) C (zTb_of (tb_1 _ (List.mem_of_getElem? (i := 154) rfl)) rfl) (by exact (zZr_O (zZr_P (zZr_O (zZr_P (zZr_O (zZr_P (zZr_O (zZr_P (zZr_O (zZr_P (zZr_O (zZr_P (zZr_O (zZr_P hz) (lk_lt (zP_old hi)))) (lk_lt (zP_old (zP_old hi))))) (lk_lt (zP_old (zP_old (zP_old hi)))))) (lk_lt (zP_old (zP_old (zP_old (zP_old hi))))))) (lk_lt (zP_old (zP_old (zP_old (zP_old (zP_old hi)))))))) (lk_lt (zP_old (zP_old (zP_old (zP_old (zP_old (zP_old hi))))))))) (lk_lt (zP_old (zP_old (zP_old (zP_old (zP_old (zP_old (zP_old hi)))))))))) (by exact (zP_len (zP_len (zP_len (zP_len (zP_len (zP_len (zP_len hl)))))))) (by omega) (by decide) (Nat.le_of_ble_eq_true rfl) (Nat.le_of_ble_eq_true rfl) rfl dX6_init_62 ?_
  refine z_putFR C zCl6 20 flX6_32 rfl ⟨rfl, rfl⟩ rfl rfl rfl (by exact (zP_old (zP_old (zP_old (zP_old (zP_old (zP_old (zP_old (zP_old hi))))))))) dX6_init_64 ?_
  refine z_aload_n C 0 rfl dX6_init_67 rfl ?_
  refine z_bipush C dX6_init_68 (by decide) ?_
  refine z_newI (n := 7) (m := 67) C (zTb_of (tb_1 _ (List.mem_of_getElem? (i := 55) rfl)) rfl) (by exact (zZr_O (zZr_P (zZr_O (zZr_P (zZr_O (zZr_P (zZr_O (zZr_P (zZr_O (zZr_P (zZr_O (zZr_P (zZr_O (zZr_P (zZr_O (zZr_P hz) (lk_lt (zP_old hi)))) (lk_lt (zP_old (zP_old hi))))) (lk_lt (zP_old (zP_old (zP_old hi)))))) (lk_lt (zP_old (zP_old (zP_old (zP_old hi))))))) (lk_lt (zP_old (zP_old (zP_old (zP_old (zP_old hi)))))))) (lk_lt (zP_old (zP_old (zP_old (zP_old (zP_old (zP_old hi))))))))) (lk_lt (zP_old (zP_old (zP_old (zP_old (zP_old (zP_old (zP_old hi)))))))))) (lk_lt (zP_old (zP_old (zP_old (zP_old (zP_old (zP_old (zP_old (zP_old hi))))))))))) (by exact (zP_len (zP_len (zP_len (zP_len (zP_len (zP_len (zP_len (zP_len hl))))))))) (by omega) (by decide) (Nat.le_of_ble_eq_true rfl) (Nat.le_of_ble_eq_true rfl) rfl dX6_init_70 ?_
  refine z_putFR C zCl6 21 flX6_36 rfl ⟨rfl, rfl⟩ rfl rfl rfl (by exact (zP_old (zP_old (zP_old (zP_old (zP_old (zP_old (zP_old (zP_old (zP_old hi)))))))))) dX6_init_72 ?_
  refine z_aload_n C 0 rfl dX6_init_75 rfl ?_
  refine z_bipush C dX6_init_76 (by decide) ?_
  refine z_newI (n := 90) (m := 68) C (zTb_of (tb_1 _ (List.mem_of_getElem? (i := 55) rfl)) rfl) (by exact (zZr_O (zZr_P (zZr_O (zZr_P (zZr_O (zZr_P (zZr_O (zZr_P (zZr_O (zZr_P (zZr_O (zZr_P (zZr_O (zZr_P (zZr_O (zZr_P (zZr_O (zZr_P hz) (lk_lt (zP_old hi)))) (lk_lt (zP_old (zP_old hi))))) (lk_lt (zP_old (zP_old (zP_old hi)))))) (lk_lt (zP_old (zP_old (zP_old (zP_old hi))))))) (lk_lt (zP_old (zP_old (zP_old (zP_old (zP_old hi)))))))) (lk_lt (zP_old (zP_old (zP_old (zP_old (zP_old (zP_old hi))))))))) (lk_lt (zP_old (zP_old (zP_old (zP_old (zP_old (zP_old (zP_old hi)))))))))) (lk_lt (zP_old (zP_old (zP_old (zP_old (zP_old (zP_old (zP_old (zP_old hi))))))))))) (lk_lt (zP_old (zP_old (zP_old (zP_old (zP_old (zP_old (zP_old (zP_old (zP_old hi)))))))))))) (by exact (zP_len (zP_len (zP_len (zP_len (zP_len (zP_len (zP_len (zP_len (zP_len hl)))))))))) (by omega) (by decide) (Nat.le_of_ble_eq_true rfl) (Nat.le_of_ble_eq_true rfl) rfl dX6_init_78 ?_
  refine z_putFR C zCl6 23 flX6_39 rfl ⟨rfl, rfl⟩ rfl rfl rfl (by exact (zP_old (zP_old (zP_old (zP_old (zP_old (zP_old (zP_old (zP_old (zP_old (zP_old hi))))))))))) dX6_init_80 ?_
  refine z_aload_n C 0 rfl dX6_init_83 rfl ?_
  refine z_bipush C dX6_init_84 (by decide) ?_
  refine z_newI (n := 90) (m := 69) C (zTb_of (tb_1 _ (List.mem_of_getElem? (i := 55) rfl)) rfl) (by exact (zZr_O (zZr_P (zZr_O (zZr_P (zZr_O (zZr_P (zZr_O (zZr_P (zZr_O (zZr_P (zZr_O (zZr_P (zZr_O (zZr_P (zZr_O (zZr_P (zZr_O (zZr_P (zZr_O (zZr_P hz) (lk_lt (zP_old hi)))) (lk_lt (zP_old (zP_old hi))))) (lk_lt (zP_old (zP_old (zP_old hi)))))) (lk_lt (zP_old (zP_old (zP_old (zP_old hi))))))) (lk_lt (zP_old (zP_old (zP_old (zP_old (zP_old hi)))))))) (lk_lt (zP_old (zP_old (zP_old (zP_old (zP_old (zP_old hi))))))))) (lk_lt (zP_old (zP_old (zP_old (zP_old (zP_old (zP_old (zP_old hi)))))))))) (lk_lt (zP_old (zP_old (zP_old (zP_old (zP_old (zP_old (zP_old (zP_old hi))))))))))) (lk_lt (zP_old (zP_old (zP_old (zP_old (zP_old (zP_old (zP_old (zP_old (zP_old hi)))))))))))) (lk_lt (zP_old (zP_old (zP_old (zP_old (zP_old (zP_old (zP_old (zP_old (zP_old (zP_old hi))))))))))))) (by exact (zP_len (zP_len (zP_len (zP_len (zP_len (zP_len (zP_len (zP_len (zP_len (zP_len hl))))))))))) (by omega) (by decide) (Nat.le_of_ble_eq_true rfl) (Nat.le_of_ble_eq_true rfl) rfl dX6_init_86 ?_
  refine z_putFR C zCl6 24 flX6_42 rfl ⟨rfl, rfl⟩ rfl rfl rfl (by exact (zP_old (zP_old (zP_old (zP_old (zP_old (zP_old (zP_old (zP_old (zP_old (zP_old (zP_old hi)))))))))))) dX6_init_88 ?_
  refine z_aload_n C 0 rfl dX6_init_91 rfl ?_
  refine z_bipush C dX6_init_92 (by decide) ?_
  refine z_newI (n := 56) (m := 70) C (zTb_of (tb_1 _ (List.mem_of_getElem? (i := 55) rfl)) rfl) (by exact (zZr_O (zZr_P (zZr_O (zZr_P (zZr_O (zZr_P (zZr_O (zZr_P (zZr_O (zZr_P (zZr_O (zZr_P (zZr_O (zZr_P (zZr_O (zZr_P (zZr_O (zZr_P (zZr_O (zZr_P (zZr_O (zZr_P hz) (lk_lt (zP_old hi)))) (lk_lt (zP_old (zP_old hi))))) (lk_lt (zP_old (zP_old (zP_old hi)))))) (lk_lt (zP_old (zP_old (zP_old (zP_old hi))))))) (lk_lt (zP_old (zP_old (zP_old (zP_old (zP_old hi)))))))) (lk_lt (zP_old (zP_old (zP_old (zP_old (zP_old (zP_old hi))))))))) (lk_lt (zP_old (zP_old (zP_old (zP_old (zP_old (zP_old (zP_old hi)))))))))) (lk_lt (zP_old (zP_old (zP_old (zP_old (zP_old (zP_old (zP_old (zP_old hi))))))))))) (lk_lt (zP_old (zP_old (zP_old (zP_old (zP_old (zP_old (zP_old (zP_old (zP_old hi)))))))))))) (lk_lt (zP_old (zP_old (zP_old (zP_old (zP_old (zP_old (zP_old (zP_old (zP_old (zP_old hi))))))))))))) (lk_lt (zP_old (zP_old (zP_old (zP_old (zP_old (zP_old (zP_old (zP_old (zP_old (zP_old (zP_old hi)))))))))))))) (by exact (zP_len (zP_len (zP_len (zP_len (zP_len (zP_len (zP_len (zP_len (zP_len (zP_len (zP_len hl)))))))))))) (by omega) (by decide) (Nat.le_of_ble_eq_true rfl) (Nat.le_of_ble_eq_true rfl) rfl dX6_init_94 ?_
  refine z_putFR C zCl6 25 flX6_45 rfl ⟨rfl, rfl⟩ rfl rfl rfl (by exact (zP_old (zP_old (zP_old (zP_old (zP_old (zP_old (zP_old (zP_old (zP_old (zP_old (zP_old (zP_old hi))))))))))))) dX6_init_96 ?_
  refine z_aload_n C 0 rfl dX6_init_99 rfl ?_
  refine z_bipush C dX6_init_100 (by decide) ?_
  refine z_newI (n := 6) (m := 71) C (zTb_of (tb_1 _ (List.mem_of_getElem? (i := 55) rfl)) rfl) (by exact (zZr_O (zZr_P (zZr_O (zZr_P (zZr_O (zZr_P (zZr_O (zZr_P (zZr_O (zZr_P (zZr_O (zZr_P (zZr_O (zZr_P (zZr_O (zZr_P (zZr_O (zZr_P (zZr_O (zZr_P (zZr_O (zZr_P (zZr_O (zZr_P hz) (lk_lt (zP_old hi)))) (lk_lt (zP_old (zP_old hi))))) (lk_lt (zP_old (zP_old (zP_old hi)))))) (lk_lt (zP_old (zP_old (zP_old (zP_old hi))))))) (lk_lt (zP_old (zP_old (zP_old (zP_old (zP_old hi)))))))) (lk_lt (zP_old (zP_old (zP_old (zP_old (zP_old (zP_old hi))))))))) (lk_lt (zP_old (zP_old (zP_old (zP_old (zP_old (zP_old (zP_old hi)))))))))) (lk_lt (zP_old (zP_old (zP_old (zP_old (zP_old (zP_old (zP_old (zP_old hi))))))))))) (lk_lt (zP_old (zP_old (zP_old (zP_old (zP_old (zP_old (zP_old (zP_old (zP_old hi)))))))))))) (lk_lt (zP_old (zP_old (zP_old (zP_old (zP_old (zP_old (zP_old (zP_old (zP_old (zP_old hi))))))))))))) (lk_lt (zP_old (zP_old (zP_old (zP_old (zP_old (zP_old (zP_old (zP_old (zP_old (zP_old (zP_old hi)))))))))))))) (lk_lt (zP_old (zP_old (zP_old (zP_old (zP_old (zP_old (zP_old (zP_old (zP_old (zP_old (zP_old (zP_old hi))))))))))))))) (by exact (zP_len (zP_len (zP_len (zP_len (zP_len (zP_len (zP_len (zP_len (zP_len (zP_len (zP_len (zP_len hl))))))))))))) (by omega) (by decide) (Nat.le_of_ble_eq_true rfl) (Nat.le_of_ble_eq_true rfl) rfl dX6_init_102 ?_
  refine z_putFR C zCl6 26 flX6_48 rfl ⟨rfl, rfl⟩ rfl rfl rfl (by exact (zP_old (zP_old (zP_old (zP_old (zP_old (zP_old (zP_old (zP_old (zP_old (zP_old (zP_old (zP_old (zP_old hi)))))))))))))) dX6_init_104 ?_
  refine z_aload_n C 0 rfl dX6_init_107 rfl ?_
  refine z_bipush C dX6_init_108 (by decide) ?_
  refine z_newI (n := 6) (m := 72) C (zTb_of (tb_1 _ (List.mem_of_getElem? (i := 55) rfl)) rfl) (by exact (zZr_O (zZr_P (zZr_O (zZr_P (zZr_O (zZr_P (zZr_O (zZr_P (zZr_O (zZr_P (zZr_O (zZr_P (zZr_O (zZr_P (zZr_O (zZr_P (zZr_O (zZr_P (zZr_O (zZr_P (zZr_O (zZr_P (zZr_O (zZr_P (zZr_O (zZr_P hz) (lk_lt (zP_old hi)))) (lk_lt (zP_old (zP_old hi))))) (lk_lt (zP_old (zP_old (zP_old hi)))))) (lk_lt (zP_old (zP_old (zP_old (zP_old hi))))))) (lk_lt (zP_old (zP_old (zP_old (zP_old (zP_old hi)))))))) (lk_lt (zP_old (zP_old (zP_old (zP_old (zP_old (zP_old hi))))))))) (lk_lt (zP_old (zP_old (zP_old (zP_old (zP_old (zP_old (zP_old hi)))))))))) (lk_lt (zP_old (zP_old (zP_old (zP_old (zP_old (zP_old (zP_old (zP_old hi))))))))))) (lk_lt (zP_old (zP_old (zP_old (zP_old (zP_old (zP_old (zP_old (zP_old (zP_old hi)))))))))))) (lk_lt (zP_old (zP_old (zP_old (zP_old (zP_old (zP_old (zP_old (zP_old (zP_old (zP_old hi))))))))))))) (lk_lt (zP_old (zP_old (zP_old (zP_old (zP_old (zP_old (zP_old (zP_old (zP_old (zP_old (zP_old hi)))))))))))))) (lk_lt (zP_old (zP_old (zP_old (zP_old (zP_old (zP_old (zP_old (zP_old (zP_old (zP_old (zP_old (zP_old hi))))))))))))))) (lk_lt (zP_old (zP_old (zP_old (zP_old (zP_old (zP_old (zP_old (zP_old (zP_old (zP_old (zP_old (zP_old (zP_old hi)))))))))))))))) (by exact (zP_len (zP_len (zP_len (zP_len (zP_len (zP_len (zP_len (zP_len (zP_len (zP_len (zP_len (zP_len (zP_len hl)))))))))))))) (by omega) (by decide) (Nat.le_of_ble_eq_true rfl) (Nat.le_of_ble_eq_true rfl) rfl dX6_init_110 ?_
  refine z_putFR C zCl6 27 flX6_51 rfl ⟨rfl, rfl⟩ rfl rfl rfl (by exact (zP_old (zP_old (zP_old (zP_old (zP_old (zP_old (zP_old (zP_old (zP_old (zP_old (zP_old (zP_old (zP_old (zP_old hi))))))))))))))) dX6_init_112 ?_
  refine z_aload_n C 0 rfl dX6_init_115 rfl ?_
  refine z_bipush C dX6_init_116 (by decide) ?_
  refine z_newI (n := 67) (m := 73) C (zTb_of (tb_1 _ (List.mem_of_getElem? (i := 55) rfl)) rfl) (by exact (zZr_O (zZr_P (zZr_O (zZr_P (zZr_O (zZr_P (zZr_O (zZr_P (zZr_O (zZr_P (zZr_O (zZr_P (zZr_O (zZr_P (zZr_O (zZr_P (zZr_O (zZr_P (zZr_O (zZr_P (zZr_O (zZr_P (zZr_O (zZr_P (zZr_O (zZr_P (zZr_O (zZr_P hz) (lk_lt (zP_old hi)))) (lk_lt (zP_old (zP_old hi))))) (lk_lt (zP_old (zP_old (zP_old hi)))))) (lk_lt (zP_old (zP_old (zP_old (zP_old hi))))))) (lk_lt (zP_old (zP_old (zP_old (zP_old (zP_old hi)))))))) (lk_lt (zP_old (zP_old (zP_old (zP_old (zP_old (zP_old hi))))))))) (lk_lt (zP_old (zP_old (zP_old (zP_old (zP_old (zP_old (zP_old hi)))))))))) (lk_lt (zP_old (zP_old (zP_old (zP_old (zP_old (zP_old (zP_old (zP_old hi))))))))))) (lk_lt (zP_old (zP_old (zP_old (zP_old (zP_old (zP_old (zP_old (zP_old (zP_old hi)))))))))))) (lk_lt (zP_old (zP_old (zP_old (zP_old (zP_old (zP_old (zP_old (zP_old (zP_old (zP_old hi))))))))))))) (lk_lt (zP_old (zP_old (zP_old (zP_old (zP_old (zP_old (zP_old (zP_old (zP_old (zP_old (zP_old hi)))))))))))))) (lk_lt (zP_old (zP_old (zP_old (zP_old (zP_old (zP_old (zP_old (zP_old (zP_old (zP_old (zP_old (zP_old hi))))))))))))))) (lk_lt (zP_old (zP_old (zP_old (zP_old (zP_old (zP_old (zP_old (zP_old (zP_old (zP_old (zP_old (zP_old (zP_old hi)))))))))))))))) (lk_lt (zP_old (zP_old (zP_old (zP_old (zP_old (zP_old (zP_old (zP_old (zP_old (zP_old (zP_old (zP_old (zP_old (zP_old hi))))))))))))))))) (by exact (zP_len (zP_len (zP_len (zP_len (zP_len (zP_len (zP_len (zP_len (zP_len (zP_len (zP_len (zP_len (zP_len (zP_len hl))))))))))))))) (by omega) (by decide) (Nat.le_of_ble_eq_true rfl) (Nat.le_of_ble_eq_true rfl) rfl dX6_init_118 ?_
  refine z_putFR C zCl6 29 flX6_54 rfl ⟨rfl, rfl⟩ rfl rfl rfl (by exact (zP_old (zP_old (zP_old (zP_old (zP_old (zP_old (zP_old (zP_old (zP_old (zP_old (zP_old (zP_old (zP_old (zP_old (zP_old hi)))))))))))))))) dX6_init_120 ?_
  refine z_aload_n C 0 rfl dX6_init_123 rfl ?_
  refine z_bipush C dX6_init_124 (by decide) ?_
  refine z_putI C zCl6 0 flX6_57 rfl rfl rfl (by exact (zP_old (zP_old (zP_old (zP_old (zP_old (zP_old (zP_old (zP_old (zP_old (zP_old (zP_old (zP_old (zP_old (zP_old (zP_old hi)))))))))))))))) dX6_init_126 ?_
  refine z_aload_n C 0 rfl dX6_init_129 rfl ?_
  refine z_bipush C dX6_init_130 (by decide) ?_
  refine z_putI C zCl6 3 flX6_61 rfl rfl rfl (by exact (zP_old (zP_old (zP_old (zP_old (zP_old (zP_old (zP_old (zP_old (zP_old (zP_old (zP_old (zP_old (zP_old (zP_old (zP_old hi)))))))))))))))) dX6_init_132 ?_
  refine z_aload_n C 0 rfl dX6_init_135 rfl ?_
  refine z_iconst C dX6_init_136 ?_
  refine z_putI C zCl6 9 flX6_64 rfl rfl rfl (by exact (zP_old (zP_old (zP_old (zP_old (zP_old (zP_old (zP_old (zP_old (zP_old (zP_old (zP_old (zP_old (zP_old (zP_old (zP_old hi)))))))))))))))) dX6_init_137 ?_
  refine z_aload_n C 0 rfl dX6_init_140 rfl ?_
  refine z_iconst C dX6_init_141 ?_
  refine z_putI C zCl6 11 flX6_67 rfl rfl rfl (by exact (zP_old (zP_old (zP_old (zP_old (zP_old (zP_old (zP_old (zP_old (zP_old (zP_old (zP_old (zP_old (zP_old (zP_old (zP_old hi)))))))))))))))) dX6_init_142 ?_
  refine z_iconst C dX6_init_145 ?_
  refine z_istore_n C [(1, .int (iI 0)), (0, .ref 58)] dX6_init_146 rfl (by decide) rfl ?_
  refine zZ_nc (nc' := 15) (ns' := 990) rfl rfl (zZ_cast (σ' := bMs σ 0) (L' := (fun e : Nat => [(1, .int (iI (e : Int))), (0, .ref 58)]) 0) rfl rfl rfl ?_)
  refine zfor 8 (fun _ => True) (bMs σ) (fun e : Nat => [(1, .int (iI (e : Int))), (0, .ref 58)]) trivial ?_ ?_
  · intro e he _ kke
    show zZ g X _ _ _ 147 [(1, .int (iI (e : Int))), (0, .ref 58)] []
    refine z_iload_n C 0 rfl dX6_init_147 rfl ?_
    refine z_bipush C dX6_init_148 (by decide) ?_
    refine z_icmp_ge C 166 dX6_init_150 (by decide) (by omega) (by omega) (fun hh => absurd hh (by omega)) (fun _ => ?_)
    refine z_aload_n C 1 rfl dX6_init_153 rfl ?_
    refine z_getR C zCl6 18 flX6_26 rfl (by rw [bMs_1]; exact bM0_hi hi) (by rw [bMs_R]; exact bM0_R) dX6_init_154 ?_
    refine z_iload_n C 0 rfl dX6_init_157 rfl ?_
    refine z_iconst C dX6_init_158 ?_
    refine z_iast C e rfl (by rw [bMs_1]; exact bM0_64 hl) he (by decide) dX6_init_159 ?_
    obtain ⟨v1, ev1⟩ : ∃ v : Int, v = (e : Int) + 1 := ⟨_, rfl⟩
    refine z_iinc C 0 v1 [(1, .int (iI v1)), (0, .ref 58)] dX6_init_160 rfl ev1.symm (by decide) rfl ?_
    refine z_goto C 147 dX6_init_163 (by decide) ?_
    exact zZ_cast rfl (zLc (by omega) rfl) rfl (kke trivial)
  · intro _
    show zZ g X _ _ _ 147 [(1, .int (iI ((8 : Nat) : Int))), (0, .ref 58)] []
    refine z_iload_n C 0 rfl dX6_init_147 rfl ?_
    refine z_bipush C dX6_init_148 (by decide) ?_
    refine z_icmp_ge C 166 dX6_init_150 (by decide) (by omega) (by omega) (fun _ => ?_) (fun hh => absurd (by decide) hh)
    exact zZ_vret C hR (Nat.le_of_ble_eq_true rfl) (Nat.le_of_ble_eq_true rfl) dX6_init_166 rfl ⟨rfl, rfl⟩
