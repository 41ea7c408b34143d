/-! constructors with loops (written by bw2.py) -/
theorem zforB {g : zG} {X : zX} {pc : Nat} {S : List Value} (N : Nat) (nf sf : Nat → Nat) (σf : Nat → zSt) (Lf : Nat → List (Nat × Value)) (step : ∀ e, e < N → zZ g X (nf (e + 1)) (sf (e + 1)) (σf (e + 1)) pc (Lf (e + 1)) S → zZ g X (nf e) (sf e) (σf e) pc (Lf e) S) (exit : zZ g X (nf N) (sf N) (σf N) pc (Lf N) S) : zZ g X (nf 0) (sf 0) (σf 0) pc (Lf 0) S := by
  have key : ∀ n e, e + n = N → zZ g X (nf e) (sf e) (σf e) pc (Lf e) S := by
    intro n
    induction n with
    | zero =>
      intro e he
      have : e = N := by omega
      subst this
      exact exit
    | succ n ih =>
      intro e he
      exact step e (by omega) (ih (e + 1) (by omega))
  exact key N 0 (by omega)
theorem zZ_nc {g : zG} {X : zX} {nc nc' ns ns' : Nat} {σ : zSt} {pc : Nat} {L : List (Nat × Value)} {S : List Value} (h1 : nc = nc') (h2 : ns = ns') (k : zZ g X nc' ns' σ pc L S) : zZ g X nc ns σ pc L S := by
  subst h1; subst h2; exact k
theorem bS_ref {σ : zSt} {i a k : Nat} (h : a ≠ i) : (bS σ i).2.2.2 a k = σ.2.2.2 a k := zu_n (fun z => h z.1)
theorem bL_ref {σ : zSt} {i a k : Nat} (h : a ≠ i) : (bL σ i).2.2.2 a k = σ.2.2.2 a k := zu_n (fun z => h z.1)
def bV0 (σ : zSt) (i : Nat) : zSt := zO (zP (σ) (11, 7)) i 0 (i + 1)
def bVs (σ : zSt) (i : Nat) : Nat → zSt
  | 0 => bV0 σ i
  | e + 1 => zO (bS (zP (bVs σ i e) (3, 3)) (i + 2 + 2 * e)) (i + 1) e (i + 2 + 2 * e)
theorem bV0_len {σ : zSt} {i : Nat} (hl : σ.1.length = i + 1) : (bV0 σ i).1.length = i + 2 := (zP_len hl)
theorem bV0_old {σ : zSt} {i : Nat} {j : Nat} {kd : Nat × Nat} (h : σ.1[j]? = some kd) : (bV0 σ i).1[j]? = some kd := (zP_old h)
theorem bV0_z {σ : zSt} {i : Nat} (hi : σ.1[i]? = some (1, 6)) (hl : σ.1.length = i + 1) (hz : zZr σ) : zZr (bV0 σ i) := (zZr_O (zZr_P hz) (lk_lt (zP_old hi)))
theorem bV0_row {σ : zSt} {i : Nat} (hl : σ.1.length = i + 1) : (bV0 σ i).1[i + 1]? = some (11, 7) := (zP_last hl)
theorem bVs_len {σ : zSt} {i : Nat} (hl : σ.1.length = i + 1) : ∀ e, (bVs σ i e).1.length = i + 2 + 2 * e
  | 0 => bV0_len hl
  | e + 1 => (bS_len (zP_len (bVs_len hl e)))
theorem bVs_old {σ : zSt} {i : Nat} {j : Nat} {kd : Nat × Nat} (h : (bV0 σ i).1[j]? = some kd) : ∀ e, (bVs σ i e).1[j]? = some kd
  | 0 => h
  | e + 1 => bS_old (zP_old (bVs_old h e))
theorem bVs_z {σ : zSt} {i : Nat} (hi : σ.1[i]? = some (1, 6)) (hl : σ.1.length = i + 1) (hz : zZr σ) : ∀ e, zZr (bVs σ i e)
  | 0 => bV0_z hi hl hz
  | e + 1 => zZr_O (bS_z (zP_last (bVs_len hl e)) (zP_len (bVs_len hl e)) (zZr_P (bVs_z hi hl hz e))) (lk_lt (bS_old (zP_old (bVs_old (bV0_row hl) e))))
theorem bVs_ref {σ : zSt} {i : Nat} : ∀ e, (bVs σ i e).2.2.2 i 0 = some (i + 1)
  | 0 => by
    show (bV0 σ i).2.2.2 i 0 = some (i + 1)
    unfold bV0
    first | rfl | exact zu_s | simp [zu]
  | e + 1 => by
    show zu (bS (zP (bVs σ i e) (3, 3)) (i + 2 + 2 * e)).2.2.2 (i + 1) e (some (i + 2 + 2 * e)) i 0 = some (i + 1)
    rw [zu_n (fun z => absurd z.1 (by omega)), bS_ref (by omega)]
    exact bVs_ref e
def bV (σ : zSt) (i : Nat) : zSt := zO (zP (zO (zP (zI (zO (zP (zO (zP (bVs σ i 7) (7, 6)) i 1 (i + 16)) (7, 6)) i 2 (i + 17)) i 3 (-1)) (7, 67)) i 4 (i + 18)) (7, 67)) i 5 (i + 19)
theorem bV_len {σ : zSt} {i : Nat} (hl : σ.1.length = i + 1) : (bV σ i).1.length = i + 20 := (zP_len (zP_len (zP_len (zP_len (bVs_len hl 7)))))
theorem bV_old {σ : zSt} {i : Nat} {j : Nat} {kd : Nat × Nat} (h : σ.1[j]? = some kd) : (bV σ i).1[j]? = some kd := (zP_old (zP_old (zP_old (zP_old (bVs_old (bV0_old h) 7)))))
theorem bV_z {σ : zSt} {i : Nat} (hi : σ.1[i]? = some (1, 6)) (hl : σ.1.length = i + 1) (hz : zZr σ) : zZr (bV σ i) := (zZr_O (zZr_P (zZr_O (zZr_P (zZr_I (zZr_O (zZr_P (zZr_O (zZr_P (bVs_z hi hl hz 7)) (lk_lt (zP_old (bVs_old (bV0_old hi) 7))))) (lk_lt (zP_old (zP_old (bVs_old (bV0_old hi) 7))))) (lk_lt (zP_old (zP_old (bVs_old (bV0_old hi) 7)))))) (lk_lt (zP_old (zP_old (zP_old (bVs_old (bV0_old hi) 7))))))) (lk_lt (zP_old (zP_old (zP_old (zP_old (bVs_old (bV0_old hi) 7)))))))
theorem c_X1_init {g : zG} {σ : zSt} {i : Nat} (hi : σ.1[i]? = some (1, 6)) (hl : σ.1.length = i + 1) (hm : i + 19 < 74) (hz : zZr σ) : zRunB g mX1_init 2 19 209 [.ref i] σ (zIs none (bV σ i)) := by
  refine zRunB_intro rfl (Nat.le_of_ble_eq_true rfl) (fun X C hO hR => ?_)
  show zZ g X 0 0 _ 0 [(0, .ref i)] []
  refine z_aload_n C 0 rfl dX1_init_0 rfl ?_
  refine z_objInit C (zTb_of (tb_1 _ (List.mem_of_getElem? (i := 162) rfl)) rfl) (zTb_of (tb_1 _ (List.mem_of_getElem? (i := 23) rfl)) rfl) (zTb_of (tb_1 _ (List.mem_of_getElem? (i := 24) rfl)) rfl) (by decide) (Nat.le_of_ble_eq_true rfl) dX1_init_1 ?_
  refine z_aload_n C 0 rfl dX1_init_4 rfl ?_
  refine z_bipush C dX1_init_5 (by decide) ?_
  refine z_anew (n := 7) (m := i + 1) C 4 11 rfl hO.2 (zTb_of (tb_1 _ (List.mem_of_getElem? (i := 163) rfl)) rfl) (by exact hz) (by exact hl) (by omega) (by decide) (Nat.le_of_ble_eq_true rfl) (Nat.le_of_ble_eq_true rfl) zE_11 rfl dX1_init_7 ?_
  refine z_putFR C zCl1 0 flX1_11 rfl ⟨rfl, rfl⟩ rfl rfl rfl (by exact (zP_old hi)) dX1_init_10 ?_
  refine z_iconst C dX1_init_13 ?_
  refine z_istore_n C [(1, .int (iI 0)), (0, .ref i)] dX1_init_14 rfl (by decide) rfl ?_
  refine zZ_nc (nc' := (fun e : Nat => 1 + 2 * e) 0) (ns' := (fun e : Nat => 7 + 8 * e) 0) rfl rfl (zZ_cast (σ' := bVs σ i 0) (L' := (fun e : Nat => [(1, .int (iI (e : Int))), (0, .ref i)]) 0) rfl rfl rfl ?_)
  refine zforB 7 (fun e => 1 + 2 * e) (fun e => 7 + 8 * e) (bVs σ i) (fun e : Nat => [(1, .int (iI (e : Int))), (0, .ref i)]) ?_ ?_
  · intro e he kke
    refine zZ_nc (nc' := 1 + 2 * e) (ns' := 7 + 8 * e) rfl rfl ?_
    show zZ g X _ _ _ 15 [(1, .int (iI (e : Int))), (0, .ref i)] []
    refine z_iload_n C 0 rfl dX1_init_15 rfl ?_
    refine z_bipush C dX1_init_16 (by decide) ?_
    refine z_icmp_gt C 40 dX1_init_18 (by decide) (by omega) (by omega) (fun hh => absurd hh (by omega)) (fun _ => ?_)
    refine z_aload_n C 1 rfl dX1_init_21 rfl ?_
    refine z_getR C zCl1 0 flX1_11 rfl (by exact (bVs_old (bV0_old hi) e)) (bVs_ref e) dX1_init_22 ?_
    refine z_iload_n C 0 rfl dX1_init_25 rfl ?_
    refine z_new (m := i + 2 + 2 * e) C zCl3 dfX3 (zTb_of (tb_1 _ (List.mem_of_getElem? (i := 163) rfl)) rfl) (zTb_of (tb_1 _ (List.mem_of_getElem? (i := 32) rfl)) rfl) (zTb_of (tb_1 _ (List.mem_of_getElem? (i := 3) rfl)) rfl) (by exact (bVs_z hi hl hz e)) (by exact (bVs_len hl e)) (by omega) (by first | exact Nat.le_of_ble_eq_true rfl | omega) (by first | exact Nat.le_of_ble_eq_true rfl | omega) dX1_init_26 ?_
    refine z_dup C dX1_init_29 rfl ?_
    refine zZ_callB0 C hO oX3_init iX3_init rfl rfl lkX1_17 (c_X3_init (by exact (zP_last (bVs_len hl e))) (by exact (zP_len (bVs_len hl e))) (by omega) (by exact (zZr_P (bVs_z hi hl hz e)))) (by decide) (by first | exact Nat.le_of_ble_eq_true rfl | omega) (by first | exact Nat.le_of_ble_eq_true rfl | omega) (Nat.le_of_ble_eq_true rfl) dX1_init_30 ?_
    refine z_aast C e 4 (i + 2 + 2 * e) rfl rfl (fun τ => zE_11) (by exact (bS_old (zP_old (bVs_old (bV0_row hl) e)))) he (by decide) (by exact (bS_old (zP_last (bVs_len hl e)))) (by decide) rfl dX1_init_33 ?_
    obtain ⟨v1, ev1⟩ : ∃ v : Int, v = (e : Int) + 1 := ⟨_, rfl⟩
    refine z_iinc C 0 v1 [(1, .int (iI v1)), (0, .ref i)] dX1_init_34 rfl ev1.symm (by decide) rfl ?_
    refine z_goto C 15 dX1_init_37 (by decide) ?_
    exact zZ_nc (by omega) (by omega) (zZ_cast rfl (zLc (by omega) rfl) rfl kke)
  · refine zZ_nc (nc' := 15) (ns' := 63) rfl rfl ?_
    show zZ g X _ _ _ 15 [(1, .int (iI ((7 : Nat) : Int))), (0, .ref i)] []
    refine z_iload_n C 0 rfl dX1_init_15 rfl ?_
    refine z_bipush C dX1_init_16 (by decide) ?_
    refine z_icmp_gt C 40 dX1_init_18 (by decide) (by omega) (by omega) (fun _ => ?_) (fun hh => absurd (by decide) hh)
    refine z_aload_n C 1 rfl dX1_init_40 rfl ?_
    refine z_bipush C dX1_init_41 (by decide) ?_
    refine z_newI (n := 6) (m := i + 16) C (zTb_of (tb_1 _ (List.mem_of_getElem? (i := 55) rfl)) rfl) (by exact (bVs_z hi hl hz 7)) (by exact (bVs_len hl 7)) (by omega) (by decide) (Nat.le_of_ble_eq_true rfl) (Nat.le_of_ble_eq_true rfl) rfl dX1_init_43 ?_
    refine z_putFR C zCl1 1 flX1_18 rfl ⟨rfl, rfl⟩ rfl rfl rfl (by exact (zP_old (bVs_old (bV0_old hi) 7))) dX1_init_45 ?_
    refine z_aload_n C 1 rfl dX1_init_48 rfl ?_
    refine z_bipush C dX1_init_49 (by decide) ?_
    refine z_newI (n := 6) (m := i + 17) C (zTb_of (tb_1 _ (List.mem_of_getElem? (i := 55) rfl)) rfl) (by exact (zZr_O (zZr_P (bVs_z hi hl hz 7)) (lk_lt (zP_old (bVs_old (bV0_old hi) 7))))) (by exact (zP_len (bVs_len hl 7))) (by omega) (by decide) (Nat.le_of_ble_eq_true rfl) (Nat.le_of_ble_eq_true rfl) rfl dX1_init_51 ?_
    refine z_putFR C zCl1 2 flX1_22 rfl ⟨rfl, rfl⟩ rfl rfl rfl (by exact (zP_old (zP_old (bVs_old (bV0_old hi) 7)))) dX1_init_53 ?_
    refine z_aload_n C 1 rfl dX1_init_56 rfl ?_
    refine z_iconst C dX1_init_57 ?_
    refine z_putI C zCl1 3 flX1_25 rfl rfl rfl (by exact (zP_old (zP_old (bVs_old (bV0_old hi) 7)))) dX1_init_58 ?_
    refine z_aload_n C 1 rfl dX1_init_61 rfl ?_
    refine z_bipush C dX1_init_62 (by decide) ?_
    refine z_newI (n := 67) (m := i + 18) C (zTb_of (tb_1 _ (List.mem_of_getElem? (i := 55) rfl)) rfl) (by exact (zZr_I (zZr_O (zZr_P (zZr_O (zZr_P (bVs_z hi hl hz 7)) (lk_lt (zP_old (bVs_old (bV0_old hi) 7))))) (lk_lt (zP_old (zP_old (bVs_old (bV0_old hi) 7))))) (lk_lt (zP_old (zP_old (bVs_old (bV0_old hi) 7)))))) (by exact (zP_len (zP_len (bVs_len hl 7)))) (by omega) (by decide) (Nat.le_of_ble_eq_true rfl) (Nat.le_of_ble_eq_true rfl) rfl dX1_init_64 ?_
    refine z_putR C zCl1 4 flX1_29 rfl ⟨rfl, rfl⟩ rfl (by exact (zP_old (zP_old (zP_old (bVs_old (bV0_old hi) 7))))) dX1_init_66 ?_
    refine z_aload_n C 1 rfl dX1_init_69 rfl ?_
    refine z_bipush C dX1_init_70 (by decide) ?_
    refine z_newI (n := 67) (m := i + 19) C (zTb_of (tb_1 _ (List.mem_of_getElem? (i := 55) rfl)) rfl) (by exact (zZr_O (zZr_P (zZr_I (zZr_O (zZr_P (zZr_O (zZr_P (bVs_z hi hl hz 7)) (lk_lt (zP_old (bVs_old (bV0_old hi) 7))))) (lk_lt (zP_old (zP_old (bVs_old (bV0_old hi) 7))))) (lk_lt (zP_old (zP_old (bVs_old (bV0_old hi) 7)))))) (lk_lt (zP_old (zP_old (zP_old (bVs_old (bV0_old hi) 7))))))) (by exact (zP_len (zP_len (zP_len (bVs_len hl 7))))) (by omega) (by decide) (Nat.le_of_ble_eq_true rfl) (Nat.le_of_ble_eq_true rfl) rfl dX1_init_72 ?_
    refine z_putR C zCl1 5 flX1_32 rfl ⟨rfl, rfl⟩ rfl (by exact (zP_old (zP_old (zP_old (zP_old (bVs_old (bV0_old hi) 7)))))) dX1_init_74 ?_
    exact zZ_vret C hR (Nat.le_of_ble_eq_true rfl) (Nat.le_of_ble_eq_true rfl) dX1_init_77 rfl ⟨rfl, rfl⟩
