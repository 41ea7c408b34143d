/-! one rule an instruction, over zZ (written by gen_rules.py) -/
theorem zlc_cases (x y : Int64) : (x < y ∧ lg_cmp x y = -1) ∨ (x = y ∧ lg_cmp x y = 0) ∨ (y < x ∧ lg_cmp x y = 1) := by
  by_cases h1 : y < x
  · exact Or.inr (Or.inr ⟨h1, by simp [lg_cmp, h1]⟩)
  · by_cases h2 : x = y
    · exact Or.inr (Or.inl ⟨h2, by simp [lg_cmp, h2]⟩)
    · refine Or.inl ⟨?_, by simp [lg_cmp, h1, h2]⟩
      rw [Int64.lt_iff_toInt_lt] at h1 ⊢
      have h3 : ¬ x.toInt = y.toInt := fun e => h2 (Int64.toInt_inj.mp e)
      omega
theorem zlt_asym {x y : Int64} (h : x < y) : ¬ y < x := by
  rw [Int64.lt_iff_toInt_lt] at h ⊢
  omega
theorem zlt_ne {x y : Int64} (h : x < y) : ¬ x = y := by
  rintro rfl
  rw [Int64.lt_iff_toInt_lt] at h
  omega
theorem zle_iff (x y : Int64) : x ≤ y ↔ ¬ y < x := by
  rw [Int64.lt_iff_toInt_lt, Int64.le_iff_toInt_le]
  omega
theorem zlc_eq (x y : Int64) : lg_cmp x y = 0 ↔ x = y := by
  rcases zlc_cases x y with ⟨h, e⟩ | ⟨h, e⟩ | ⟨h, e⟩ <;> rw [e]
  · exact ⟨fun q => absurd q (by decide), fun q => absurd q (zlt_ne h)⟩
  · exact ⟨fun _ => h, fun _ => rfl⟩
  · exact ⟨fun q => absurd q (by decide), fun q => absurd q.symm (zlt_ne h)⟩
theorem zlc_lt (x y : Int64) : lg_cmp x y < 0 ↔ x < y := by
  rcases zlc_cases x y with ⟨h, e⟩ | ⟨h, e⟩ | ⟨h, e⟩ <;> rw [e]
  · exact ⟨fun _ => h, fun _ => by decide⟩
  · exact ⟨fun q => absurd q (by decide), fun q => absurd h (zlt_ne q)⟩
  · exact ⟨fun q => absurd q (by decide), fun q => absurd q (zlt_asym h)⟩
theorem zlc_gt (x y : Int64) : 0 < lg_cmp x y ↔ y < x := by
  rcases zlc_cases x y with ⟨h, e⟩ | ⟨h, e⟩ | ⟨h, e⟩ <;> rw [e]
  · exact ⟨fun q => absurd q (by decide), fun q => absurd q (zlt_asym h)⟩
  · exact ⟨fun q => absurd q (by decide), fun q => absurd h.symm (zlt_ne q)⟩
  · exact ⟨fun _ => h, fun _ => by decide⟩
theorem zlc_ge (x y : Int64) : 0 ≤ lg_cmp x y ↔ y ≤ x := by
  rw [zle_iff, ← zlc_lt]
  rcases zlc_cases x y with ⟨h, e⟩ | ⟨h, e⟩ | ⟨h, e⟩ <;> rw [e] <;> decide
theorem zlc_le (x y : Int64) : lg_cmp x y ≤ 0 ↔ x ≤ y := by
  rw [zle_iff, ← zlc_gt]
  rcases zlc_cases x y with ⟨h, e⟩ | ⟨h, e⟩ | ⟨h, e⟩ <;> rw [e] <;> decide
section ZI
variable {g : zG} {X : zX} {M : zM} {d mc ms nc ns : Nat} {σ : zSt} {pc : Nat} {L : List (Nat × Value)} {S : List Value}
theorem z_iadd (C : zC g X M d mc ms) {a b : Int} (hd : decode M.2.1 pc = .ok (.iadd, 1))  (k : zZ g X nc ns σ (pc + 1) L (.int (iI (a + b)) :: S)) : zZ g X nc ns σ pc L (.int (iI b) :: .int (iI a) :: S) :=
  fun H locs ls hH hS hl => lv_iadd C.1 C.2.1 hd (by rw [iI_add]; exact k H locs ls hH hS hl)
theorem z_isub (C : zC g X M d mc ms) {a b : Int} (hd : decode M.2.1 pc = .ok (.isub, 1))  (k : zZ g X nc ns σ (pc + 1) L (.int (iI (a - b)) :: S)) : zZ g X nc ns σ pc L (.int (iI b) :: .int (iI a) :: S) :=
  fun H locs ls hH hS hl => lv_isub C.1 C.2.1 hd (by rw [iI_sub]; exact k H locs ls hH hS hl)
theorem z_imul (C : zC g X M d mc ms) {a b : Int} (hd : decode M.2.1 pc = .ok (.imul, 1))  (k : zZ g X nc ns σ (pc + 1) L (.int (iI (a * b)) :: S)) : zZ g X nc ns σ pc L (.int (iI b) :: .int (iI a) :: S) :=
  fun H locs ls hH hS hl => lv_imul C.1 C.2.1 hd (by rw [iI_mul]; exact k H locs ls hH hS hl)
theorem z_iand (C : zC g X M d mc ms) {a b : Int} (v : Int) (hd : decode M.2.1 pc = .ok (.iand, 1)) (hv : iI a &&& iI b = iI v) (k : zZ g X nc ns σ (pc + 1) L (.int (iI v) :: S)) : zZ g X nc ns σ pc L (.int (iI b) :: .int (iI a) :: S) :=
  fun H locs ls hH hS hl => lv_iand C.1 C.2.1 hd (by rw [hv]; exact k H locs ls hH hS hl)
theorem z_ior (C : zC g X M d mc ms) {a b : Int} (v : Int) (hd : decode M.2.1 pc = .ok (.ior, 1)) (hv : iI a ||| iI b = iI v) (k : zZ g X nc ns σ (pc + 1) L (.int (iI v) :: S)) : zZ g X nc ns σ pc L (.int (iI b) :: .int (iI a) :: S) :=
  fun H locs ls hH hS hl => lv_ior C.1 C.2.1 hd (by rw [hv]; exact k H locs ls hH hS hl)
theorem z_ixor (C : zC g X M d mc ms) {a b : Int} (v : Int) (hd : decode M.2.1 pc = .ok (.ixor, 1)) (hv : iI a ^^^ iI b = iI v) (k : zZ g X nc ns σ (pc + 1) L (.int (iI v) :: S)) : zZ g X nc ns σ pc L (.int (iI b) :: .int (iI a) :: S) :=
  fun H locs ls hH hS hl => lv_ixor C.1 C.2.1 hd (by rw [hv]; exact k H locs ls hH hS hl)
theorem z_ishl (C : zC g X M d mc ms) {a b : Int} (v : Int) (hd : decode M.2.1 pc = .ok (.ishl, 1)) (hv : iI a <<< (iI b &&& 31) = iI v) (k : zZ g X nc ns σ (pc + 1) L (.int (iI v) :: S)) : zZ g X nc ns σ pc L (.int (iI b) :: .int (iI a) :: S) :=
  fun H locs ls hH hS hl => lv_ishl C.1 C.2.1 hd (by rw [hv]; exact k H locs ls hH hS hl)
theorem z_ishr (C : zC g X M d mc ms) {a b : Int} (v : Int) (hd : decode M.2.1 pc = .ok (.ishr, 1)) (hv : iI a >>> (iI b &&& 31) = iI v) (k : zZ g X nc ns σ (pc + 1) L (.int (iI v) :: S)) : zZ g X nc ns σ pc L (.int (iI b) :: .int (iI a) :: S) :=
  fun H locs ls hH hS hl => lv_ishr C.1 C.2.1 hd (by rw [hv]; exact k H locs ls hH hS hl)
theorem z_ladd (C : zC g X M d mc ms) {x y : Int64} (hd : decode M.2.1 pc = .ok (.ladd, 1))  (k : zZ g X nc ns σ (pc + 1) L (.long (x + y) :: S)) : zZ g X nc ns σ pc L (.long y :: .long x :: S) :=
  fun H locs ls hH hS hl => lv_ladd C.1 C.2.1 hd (k H locs ls hH hS hl)
theorem z_lsub (C : zC g X M d mc ms) {x y : Int64} (hd : decode M.2.1 pc = .ok (.lsub, 1))  (k : zZ g X nc ns σ (pc + 1) L (.long (x - y) :: S)) : zZ g X nc ns σ pc L (.long y :: .long x :: S) :=
  fun H locs ls hH hS hl => lv_lsub C.1 C.2.1 hd (k H locs ls hH hS hl)
theorem z_lmul (C : zC g X M d mc ms) {x y : Int64} (hd : decode M.2.1 pc = .ok (.lmul, 1))  (k : zZ g X nc ns σ (pc + 1) L (.long (x * y) :: S)) : zZ g X nc ns σ pc L (.long y :: .long x :: S) :=
  fun H locs ls hH hS hl => lv_lmul C.1 C.2.1 hd (k H locs ls hH hS hl)
theorem z_land (C : zC g X M d mc ms) {x y : Int64} (hd : decode M.2.1 pc = .ok (.land, 1))  (k : zZ g X nc ns σ (pc + 1) L (.long (x &&& y) :: S)) : zZ g X nc ns σ pc L (.long y :: .long x :: S) :=
  fun H locs ls hH hS hl => lv_land C.1 C.2.1 hd (k H locs ls hH hS hl)
theorem z_lor (C : zC g X M d mc ms) {x y : Int64} (hd : decode M.2.1 pc = .ok (.lor, 1))  (k : zZ g X nc ns σ (pc + 1) L (.long (x ||| y) :: S)) : zZ g X nc ns σ pc L (.long y :: .long x :: S) :=
  fun H locs ls hH hS hl => lv_lor C.1 C.2.1 hd (k H locs ls hH hS hl)
theorem z_lxor (C : zC g X M d mc ms) {x y : Int64} (hd : decode M.2.1 pc = .ok (.lxor, 1))  (k : zZ g X nc ns σ (pc + 1) L (.long (x ^^^ y) :: S)) : zZ g X nc ns σ pc L (.long y :: .long x :: S) :=
  fun H locs ls hH hS hl => lv_lxor C.1 C.2.1 hd (k H locs ls hH hS hl)
theorem z_idiv (C : zC g X M d mc ms) {a b : Int} (hd : decode M.2.1 pc = .ok (.idiv, 1)) (ha : 0 ≤ a ∧ a ≤ 2147483647) (hb : 0 < b ∧ b ≤ 2147483647) (k : zZ g X nc ns σ (pc + 1) L (.int (iI (a / b)) :: S)) : zZ g X nc ns σ pc L (.int (iI b) :: .int (iI a) :: S) :=
  fun H locs ls hH hS hl => lv_idiv C.1 C.2.1 hd (iI_ne0 hb) (by rw [iI_div ha hb]; exact k H locs ls hH hS hl)
theorem z_irem (C : zC g X M d mc ms) {a b : Int} (hd : decode M.2.1 pc = .ok (.irem, 1)) (ha : 0 ≤ a ∧ a ≤ 2147483647) (hb : 0 < b ∧ b ≤ 2147483647) (k : zZ g X nc ns σ (pc + 1) L (.int (iI (a % b)) :: S)) : zZ g X nc ns σ pc L (.int (iI b) :: .int (iI a) :: S) :=
  fun H locs ls hH hS hl => lv_irem C.1 C.2.1 hd (iI_ne0 hb) (by rw [iI_rem ha hb]; exact k H locs ls hH hS hl)
theorem z_ldiv (C : zC g X M d mc ms) {x y : Int64} (hd : decode M.2.1 pc = .ok (.ldiv, 1)) (hne : ¬ y = 0) (k : zZ g X nc ns σ (pc + 1) L (.long (x / y) :: S)) : zZ g X nc ns σ pc L (.long y :: .long x :: S) :=
  fun H locs ls hH hS hl => lv_ldiv C.1 C.2.1 hd hne (k H locs ls hH hS hl)
theorem z_lrem (C : zC g X M d mc ms) {x y : Int64} (hd : decode M.2.1 pc = .ok (.lrem, 1)) (hne : ¬ y = 0) (k : zZ g X nc ns σ (pc + 1) L (.long (x - x / y * y) :: S)) : zZ g X nc ns σ pc L (.long y :: .long x :: S) :=
  fun H locs ls hH hS hl => lv_lrem C.1 C.2.1 hd hne (k H locs ls hH hS hl)
theorem z_ineg (C : zC g X M d mc ms) {a : Int} (hd : decode M.2.1 pc = .ok (.ineg, 1))  (k : zZ g X nc ns σ (pc + 1) L (.int (iI (-a)) :: S)) : zZ g X nc ns σ pc L (.int (iI a) :: S) :=
  fun H locs ls hH hS hl => lv_ineg C.1 C.2.1 hd (by rw [iI_neg]; exact k H locs ls hH hS hl)
theorem z_iushr (C : zC g X M d mc ms) {a b : Int} (v : Int) (hd : decode M.2.1 pc = .ok (.iushr, 1)) (hv : ((iI a).toUInt32 >>> ((iI b).toUInt32 &&& Int32.toUInt32 31)).toInt32 = iI v) (k : zZ g X nc ns σ (pc + 1) L (.int (iI v) :: S)) : zZ g X nc ns σ pc L (.int (iI b) :: .int (iI a) :: S) :=
  fun H locs ls hH hS hl => lv_iushr C.1 C.2.1 hd hv (k H locs ls hH hS hl)
theorem z_lshl (C : zC g X M d mc ms) {x : Int64} {b : Int} (hd : decode M.2.1 pc = .ok (.lshl, 1))  (k : zZ g X nc ns σ (pc + 1) L (.long (x <<< ((iI b).toInt64 &&& 63)) :: S)) : zZ g X nc ns σ pc L (.int (iI b) :: .long x :: S) :=
  fun H locs ls hH hS hl => lv_lshl C.1 C.2.1 hd rfl (k H locs ls hH hS hl)
theorem z_lushr (C : zC g X M d mc ms) {x : Int64} {b : Int} (hd : decode M.2.1 pc = .ok (.lushr, 1))  (k : zZ g X nc ns σ (pc + 1) L (.long ((x.toUInt64 >>> ((iI b).toInt64.toUInt64 &&& Int64.toUInt64 63)).toInt64) :: S)) : zZ g X nc ns σ pc L (.int (iI b) :: .long x :: S) :=
  fun H locs ls hH hS hl => lv_lushr C.1 C.2.1 hd rfl (k H locs ls hH hS hl)
theorem z_i2l (C : zC g X M d mc ms) {a : Int} (v : Int64) (hd : decode M.2.1 pc = .ok (.i2l, 1)) (hv : (iI a).toInt64 = v) (k : zZ g X nc ns σ (pc + 1) L (.long v :: S)) : zZ g X nc ns σ pc L (.int (iI a) :: S) :=
  fun H locs ls hH hS hl => lv_i2l C.1 C.2.1 hd hv (k H locs ls hH hS hl)
theorem z_l2i (C : zC g X M d mc ms) {x : Int64} (v : Int) (hd : decode M.2.1 pc = .ok (.l2i, 1)) (hv : x.toInt32 = iI v) (k : zZ g X nc ns σ (pc + 1) L (.int (iI v) :: S)) : zZ g X nc ns σ pc L (.long x :: S) :=
  fun H locs ls hH hS hl => lv_l2i C.1 C.2.1 hd hv (k H locs ls hH hS hl)
theorem z_i2b (C : zC g X M d mc ms) {a : Int} (v : Int) (hd : decode M.2.1 pc = .ok (.i2b, 1)) (hv : (iI a).toInt8.toInt32 = iI v) (k : zZ g X nc ns σ (pc + 1) L (.int (iI v) :: S)) : zZ g X nc ns σ pc L (.int (iI a) :: S) :=
  fun H locs ls hH hS hl => lv_i2b C.1 C.2.1 hd hv (k H locs ls hH hS hl)
theorem z_i2s (C : zC g X M d mc ms) {a : Int} (v : Int) (hd : decode M.2.1 pc = .ok (.i2s, 1)) (hv : (iI a).toInt16.toInt32 = iI v) (k : zZ g X nc ns σ (pc + 1) L (.int (iI v) :: S)) : zZ g X nc ns σ pc L (.int (iI a) :: S) :=
  fun H locs ls hH hS hl => lv_i2s C.1 C.2.1 hd hv (k H locs ls hH hS hl)
theorem z_i2c (C : zC g X M d mc ms) {a : Int} (v : Int) (hd : decode M.2.1 pc = .ok (.i2c, 1)) (hv : ((iI a).toUInt32 % 65536).toInt32 = iI v) (k : zZ g X nc ns σ (pc + 1) L (.int (iI v) :: S)) : zZ g X nc ns σ pc L (.int (iI a) :: S) :=
  fun H locs ls hH hS hl => lv_i2c C.1 C.2.1 hd hv (k H locs ls hH hS hl)
theorem z_lcmp (C : zC g X M d mc ms) {x y : Int64} (hd : decode M.2.1 pc = .ok (.lcmp, 1))  (k : zZ g X nc ns σ (pc + 1) L (.int (lg_cmp x y) :: S)) : zZ g X nc ns σ pc L (.long y :: .long x :: S) :=
  fun H locs ls hH hS hl => W.lcmp C.1 C.2.1 hd (k H locs ls hH hS hl)
theorem z_iconst (C : zC g X M d mc ms) {n : Int} (hd : decode M.2.1 pc = .ok (.iconst n, 1))  (k : zZ g X nc ns σ (pc + 1) L (.int (iI n) :: S)) : zZ g X nc ns σ pc L S :=
  fun H locs ls hH hS hl => lv_iconst C.1 C.2.1 hd rfl (k H locs ls hH hS hl)
theorem z_bipush (C : zC g X M d mc ms) {n : Int} (hd : decode M.2.1 pc = .ok (.bipush n, 2)) (hv : (Int8.ofInt n).toInt32 = iI n) (k : zZ g X nc ns σ (pc + 2) L (.int (iI n) :: S)) : zZ g X nc ns σ pc L S :=
  fun H locs ls hH hS hl => lv_bipush C.1 C.2.1 hd hv (k H locs ls hH hS hl)
theorem z_sipush (C : zC g X M d mc ms) {n : Int} (hd : decode M.2.1 pc = .ok (.sipush n, 3)) (hv : (Int16.ofInt n).toInt32 = iI n) (k : zZ g X nc ns σ (pc + 3) L (.int (iI n) :: S)) : zZ g X nc ns σ pc L S :=
  fun H locs ls hH hS hl => lv_sipush C.1 C.2.1 hd hv (k H locs ls hH hS hl)
theorem z_lconst (C : zC g X M d mc ms) {n : Fin 2} (v : Int64) (hd : decode M.2.1 pc = .ok (.lconst n, 1)) (hv : Int64.ofNat (n : Nat) = v) (k : zZ g X nc ns σ (pc + 1) L (.long v :: S)) : zZ g X nc ns σ pc L S :=
  fun H locs ls hH hS hl => lv_lconst C.1 C.2.1 hd hv (k H locs ls hH hS hl)
theorem z_ldc (C : zC g X M d mc ms) {index : Nat} (v : Int) (hd : decode M.2.1 pc = .ok (.ldc index, 2)) (hc : Cond.constant M.1.cls index (iI v) ∈ zTb) (k : zZ g X nc ns σ (pc + 2) L (.int (iI v) :: S)) : zZ g X nc ns σ pc L S :=
  fun H locs ls hH hS hl => lv_ldc C.1 C.2.1 C.2.2.2.1 (C.2.2.2.2.1 _ hc) hd (k H locs ls hH hS hl)
theorem z_ldcw (C : zC g X M d mc ms) {index : Nat} (v : Int) (hd : decode M.2.1 pc = .ok (.ldc_w index, 3)) (hc : Cond.constant M.1.cls index (iI v) ∈ zTb) (k : zZ g X nc ns σ (pc + 3) L (.int (iI v) :: S)) : zZ g X nc ns σ pc L S :=
  fun H locs ls hH hS hl => lv_ldcw C.1 C.2.1 C.2.2.2.1 (C.2.2.2.2.1 _ hc) hd (k H locs ls hH hS hl)
theorem z_ldc2 (C : zC g X M d mc ms) {index : Nat} (v : Int64) (hd : decode M.2.1 pc = .ok (.ldc2_w index, 3)) (hc : Cond.constantLong M.1.cls index v ∈ zTb) (k : zZ g X nc ns σ (pc + 3) L (.long v :: S)) : zZ g X nc ns σ pc L S :=
  fun H locs ls hH hS hl => lv_ldc2 C.1 C.2.1 C.2.2.2.1 (C.2.2.2.2.1 _ hc) hd (k H locs ls hH hS hl)
theorem z_iload_n (C : zC g X M d mc ms) {j : Fin 4} {i : Nat} {a : Int} (kk : Nat) (hk : L[kk]? = some (i, .int (iI a))) (hd : decode M.2.1 pc = .ok (.iload_n j, 1)) (hi : (j : Nat) = i := by rfl) (k : zZ g X nc ns σ (pc + 1) L (.int (iI a) :: S)) : zZ g X nc ns σ pc L S :=
  fun H locs ls hH hS hl => lv_iload_n C.1 C.2.1 hd hi (zL_at hl kk hk) (k H locs ls hH hS hl)
theorem z_iload (C : zC g X M d mc ms) {i : Nat} {a : Int} (kk : Nat) (hk : L[kk]? = some (i, .int (iI a))) (hd : decode M.2.1 pc = .ok (.iload i, 2))  (k : zZ g X nc ns σ (pc + 2) L (.int (iI a) :: S)) : zZ g X nc ns σ pc L S :=
  fun H locs ls hH hS hl => lv_iload C.1 C.2.1 hd (zL_at hl kk hk) (k H locs ls hH hS hl)
theorem z_lload_n (C : zC g X M d mc ms) {j : Fin 4} {i : Nat} {x : Int64} (kk : Nat) (hk : L[kk]? = some (i, .long x)) (hd : decode M.2.1 pc = .ok (.lload_n j, 1)) (hi : (j : Nat) = i := by rfl) (k : zZ g X nc ns σ (pc + 1) L (.long x :: S)) : zZ g X nc ns σ pc L S :=
  fun H locs ls hH hS hl => lv_lload_n C.1 C.2.1 hd hi (zL_at hl kk hk) (k H locs ls hH hS hl)
theorem z_lload (C : zC g X M d mc ms) {i : Nat} {x : Int64} (kk : Nat) (hk : L[kk]? = some (i, .long x)) (hd : decode M.2.1 pc = .ok (.lload i, 2))  (k : zZ g X nc ns σ (pc + 2) L (.long x :: S)) : zZ g X nc ns σ pc L S :=
  fun H locs ls hH hS hl => lv_lload C.1 C.2.1 hd (zL_at hl kk hk) (k H locs ls hH hS hl)
theorem z_aload_n (C : zC g X M d mc ms) {j : Fin 4} {i : Nat} {x : Nat} (kk : Nat) (hk : L[kk]? = some (i, .ref x)) (hd : decode M.2.1 pc = .ok (.aload_n j, 1)) (hi : (j : Nat) = i := by rfl) (k : zZ g X nc ns σ (pc + 1) L (.ref x :: S)) : zZ g X nc ns σ pc L S :=
  fun H locs ls hH hS hl => lv_aload_n C.1 C.2.1 hd hi (zL_at hl kk hk) (k H locs ls hH hS hl)
theorem z_aload (C : zC g X M d mc ms) {i : Nat} {x : Nat} (kk : Nat) (hk : L[kk]? = some (i, .ref x)) (hd : decode M.2.1 pc = .ok (.aload i, 2))  (k : zZ g X nc ns σ (pc + 2) L (.ref x :: S)) : zZ g X nc ns σ pc L S :=
  fun H locs ls hH hS hl => lv_aload C.1 C.2.1 hd (zL_at hl kk hk) (k H locs ls hH hS hl)
theorem z_astore_n (C : zC g X M d mc ms) {j : Fin 4} {i : Nat} {x : Nat} (L' : List (Nat × Value)) (hd : decode M.2.1 pc = .ok (.astore_n j, 1)) (hi : (j : Nat) = i) (hn : i < M.2.2.1) (hL : zput1 i (.ref x) L = L') (k : zZ g X nc ns σ (pc + 1) L' S) : zZ g X nc ns σ pc L (.ref x :: S) :=
  fun H locs ls hH hS hl => lv_astore_n C.1 C.2.1 hd hi hl (by rw [C.2.2.1]; exact hn) (by rw [← hL]; exact zput1_m g i (.ref x) L) (fun ls' hl' => k H locs ls' hH hS hl')
theorem z_astore (C : zC g X M d mc ms) {i : Nat} {x : Nat} (L' : List (Nat × Value)) (hd : decode M.2.1 pc = .ok (.astore i, 2)) (hn : i < M.2.2.1) (hL : zput1 i (.ref x) L = L') (k : zZ g X nc ns σ (pc + 2) L' S) : zZ g X nc ns σ pc L (.ref x :: S) :=
  fun H locs ls hH hS hl => lv_astore C.1 C.2.1 hd hl (by rw [C.2.2.1]; exact hn) (by rw [← hL]; exact zput1_m g i (.ref x) L) (fun ls' hl' => k H locs ls' hH hS hl')
theorem z_istore_n (C : zC g X M d mc ms) {j : Fin 4} {i : Nat} {a : Int} (L' : List (Nat × Value)) (hd : decode M.2.1 pc = .ok (.istore_n j, 1)) (hi : (j : Nat) = i) (hn : i < M.2.2.1) (hL : zput1 i (.int (iI a)) L = L') (k : zZ g X nc ns σ (pc + 1) L' S) : zZ g X nc ns σ pc L (.int (iI a) :: S) :=
  fun H locs ls hH hS hl => lv_istore_n C.1 C.2.1 hd hi hl (by rw [C.2.2.1]; exact hn) (by rw [← hL]; exact zput1_m g i (.int (iI a)) L) (fun ls' hl' => k H locs ls' hH hS hl')
theorem z_istore (C : zC g X M d mc ms) {i : Nat} {a : Int} (L' : List (Nat × Value)) (hd : decode M.2.1 pc = .ok (.istore i, 2)) (hn : i < M.2.2.1) (hL : zput1 i (.int (iI a)) L = L') (k : zZ g X nc ns σ (pc + 2) L' S) : zZ g X nc ns σ pc L (.int (iI a) :: S) :=
  fun H locs ls hH hS hl => lv_istore C.1 C.2.1 hd hl (by rw [C.2.2.1]; exact hn) (by rw [← hL]; exact zput1_m g i (.int (iI a)) L) (fun ls' hl' => k H locs ls' hH hS hl')
theorem z_topI (C : zC g X M d mc ms) {a : Int} (k : ∀ v : Int, v = a → zZ g X nc ns σ pc L (.int (iI v) :: S)) : zZ g X nc ns σ pc L (.int (iI a) :: S) := k a rfl
theorem z_top (C : zC g X M d mc ms) {a : Int} (v : Int) (h : a = v) (k : zZ g X nc ns σ pc L (.int (iI v) :: S)) : zZ g X nc ns σ pc L (.int (iI a) :: S) := h ▸ k
theorem z_topL (C : zC g X M d mc ms) {a : Int64} (k : ∀ v : Int64, v = a → zZ g X nc ns σ pc L (.long v :: S)) : zZ g X nc ns σ pc L (.long a :: S) := k a rfl
theorem z_lstore_n (C : zC g X M d mc ms) {j : Fin 4} {i : Nat} {x : Int64} (L' : List (Nat × Value)) (hd : decode M.2.1 pc = .ok (.lstore_n j, 1)) (hi : (j : Nat) = i) (hn : i + 1 < M.2.2.1) (hL : zput2 i (.long x) L = L') (k : zZ g X nc ns σ (pc + 1) L' S) : zZ g X nc ns σ pc L (.long x :: S) :=
  fun H locs ls hH hS hl => lv_lstore_n C.1 C.2.1 hd hi hl (by rw [C.2.2.1]; exact hn) (by rw [← hL]; exact zput2_m g i (.long x) L) (fun ls' hl' => k H locs ls' hH hS hl')
theorem z_lstore (C : zC g X M d mc ms) {i : Nat} {x : Int64} (L' : List (Nat × Value)) (hd : decode M.2.1 pc = .ok (.lstore i, 2)) (hn : i + 1 < M.2.2.1) (hL : zput2 i (.long x) L = L') (k : zZ g X nc ns σ (pc + 2) L' S) : zZ g X nc ns σ pc L (.long x :: S) :=
  fun H locs ls hH hS hl => lv_lstore C.1 C.2.1 hd hl (by rw [C.2.2.1]; exact hn) (by rw [← hL]; exact zput2_m g i (.long x) L) (fun ls' hl' => k H locs ls' hH hS hl')
theorem z_iinc (C : zC g X M d mc ms) {i : Nat} {n a : Int} (kk : Nat) (v : Int) (L' : List (Nat × Value)) (hd : decode M.2.1 pc = .ok (.iinc i n, 3)) (hk : L[kk]? = some (i, .int (iI a))) (hv : a + n = v) (hn : i < M.2.2.1) (hL : zput1 i (.int (iI v)) L = L') (k : zZ g X nc ns σ (pc + 3) L' S) : zZ g X nc ns σ pc L S :=
  fun H locs ls hH hS hl => lv_iinc (k := kk) (v := iI v) C.1 C.2.1 hd hl (by simp [zLm, hk]; rfl) (by rw [← hv, ← iI_add]; rfl) (by rw [C.2.2.1]; exact hn) (by rw [← hL]; exact zput1_m g i (.int (iI v)) L) (fun ls' hl' => k H locs ls' hH hS hl')
theorem z_pop (C : zC g X M d mc ms) {va : Value} (hd : decode M.2.1 pc = .ok (.pop, 1)) (hc : va.category = 1) (k : zZ g X nc ns σ (pc + 1) L S) : zZ g X nc ns σ pc L (va :: S) :=
  fun H locs ls hH hS hl => lv_pop C.1 C.2.1 hd (by rw [zv_cat]; exact hc) (k H locs ls hH hS hl)
theorem z_dup (C : zC g X M d mc ms) {va : Value} (hd : decode M.2.1 pc = .ok (.dup, 1)) (hc : va.category = 1) (k : zZ g X nc ns σ (pc + 1) L (va :: va :: S)) : zZ g X nc ns σ pc L (va :: S) :=
  fun H locs ls hH hS hl => lv_dup C.1 C.2.1 hd (by rw [zv_cat]; exact hc) (k H locs ls hH hS hl)
theorem z_dup_x1 (C : zC g X M d mc ms) {va vb : Value} (hd : decode M.2.1 pc = .ok (.dup_x1, 1)) (hc : va.category = 1) (hc2 : vb.category = 1) (k : zZ g X nc ns σ (pc + 1) L (va :: vb :: va :: S)) : zZ g X nc ns σ pc L (va :: vb :: S) :=
  fun H locs ls hH hS hl => lv_dup_x1 C.1 C.2.1 hd (by rw [zv_cat]; exact hc) (by rw [zv_cat]; exact hc2) (k H locs ls hH hS hl)
theorem z_dup2 (C : zC g X M d mc ms) {va vb : Value} (hd : decode M.2.1 pc = .ok (.dup2, 1)) (hc : va.category = 1) (hc2 : vb.category = 1) (k : zZ g X nc ns σ (pc + 1) L (va :: vb :: va :: vb :: S)) : zZ g X nc ns σ pc L (va :: vb :: S) :=
  fun H locs ls hH hS hl => lv_dup2_11 C.1 C.2.1 hd (by rw [zv_cat]; exact hc) (by rw [zv_cat]; exact hc2) (k H locs ls hH hS hl)
theorem z_if_eq (C : zC g X M d mc ms) {a : Int} {off : Int} (tgt : Nat) (hd : decode M.2.1 pc = .ok (.ifCond .eq off, 3)) (ht : (pc : Int) + off = (tgt : Int)) (hr : -2147483648 ≤ a ∧ a ≤ 2147483647) (kt : a = 0 → zZ g X nc ns σ tgt L S) (kf : ¬ a = 0 → zZ g X nc ns σ (pc + 3) L S) : zZ g X nc ns σ pc L (.int (iI a) :: S) :=
  fun H locs ls hH hS hl => lv_if_eq C.1 C.2.1 hd ht (fun h => kt ((iI_eq hr (by decide)).mp h) H locs ls hH hS hl) (fun h => kf (fun q => h ((iI_eq hr (by decide)).mpr q)) H locs ls hH hS hl)
theorem z_if_ne (C : zC g X M d mc ms) {a : Int} {off : Int} (tgt : Nat) (hd : decode M.2.1 pc = .ok (.ifCond .ne off, 3)) (ht : (pc : Int) + off = (tgt : Int)) (hr : -2147483648 ≤ a ∧ a ≤ 2147483647) (kt : ¬ a = 0 → zZ g X nc ns σ tgt L S) (kf : a = 0 → zZ g X nc ns σ (pc + 3) L S) : zZ g X nc ns σ pc L (.int (iI a) :: S) :=
  fun H locs ls hH hS hl => lv_if_ne C.1 C.2.1 hd ht (fun h => kt (fun q => h ((iI_eq hr (by decide)).mpr q)) H locs ls hH hS hl) (fun h => kf ((iI_eq hr (by decide)).mp h) H locs ls hH hS hl)
theorem z_if_lt (C : zC g X M d mc ms) {a : Int} {off : Int} (tgt : Nat) (hd : decode M.2.1 pc = .ok (.ifCond .lt off, 3)) (ht : (pc : Int) + off = (tgt : Int)) (hr : -2147483648 ≤ a ∧ a ≤ 2147483647) (kt : a < 0 → zZ g X nc ns σ tgt L S) (kf : ¬ a < 0 → zZ g X nc ns σ (pc + 3) L S) : zZ g X nc ns σ pc L (.int (iI a) :: S) :=
  fun H locs ls hH hS hl => lv_if_lt C.1 C.2.1 hd ht (fun h => kt ((iI_lt hr (by decide)).mp h) H locs ls hH hS hl) (fun h => kf (fun q => h ((iI_lt hr (by decide)).mpr q)) H locs ls hH hS hl)
theorem z_if_ge (C : zC g X M d mc ms) {a : Int} {off : Int} (tgt : Nat) (hd : decode M.2.1 pc = .ok (.ifCond .ge off, 3)) (ht : (pc : Int) + off = (tgt : Int)) (hr : -2147483648 ≤ a ∧ a ≤ 2147483647) (kt : 0 ≤ a → zZ g X nc ns σ tgt L S) (kf : ¬ 0 ≤ a → zZ g X nc ns σ (pc + 3) L S) : zZ g X nc ns σ pc L (.int (iI a) :: S) :=
  fun H locs ls hH hS hl => lv_if_ge C.1 C.2.1 hd ht (fun h => kt ((iI_le (by decide) hr).mp h) H locs ls hH hS hl) (fun h => kf (fun q => h ((iI_le (by decide) hr).mpr q)) H locs ls hH hS hl)
theorem z_if_gt (C : zC g X M d mc ms) {a : Int} {off : Int} (tgt : Nat) (hd : decode M.2.1 pc = .ok (.ifCond .gt off, 3)) (ht : (pc : Int) + off = (tgt : Int)) (hr : -2147483648 ≤ a ∧ a ≤ 2147483647) (kt : 0 < a → zZ g X nc ns σ tgt L S) (kf : ¬ 0 < a → zZ g X nc ns σ (pc + 3) L S) : zZ g X nc ns σ pc L (.int (iI a) :: S) :=
  fun H locs ls hH hS hl => lv_if_gt C.1 C.2.1 hd ht (fun h => kt ((iI_lt (by decide) hr).mp h) H locs ls hH hS hl) (fun h => kf (fun q => h ((iI_lt (by decide) hr).mpr q)) H locs ls hH hS hl)
theorem z_if_le (C : zC g X M d mc ms) {a : Int} {off : Int} (tgt : Nat) (hd : decode M.2.1 pc = .ok (.ifCond .le off, 3)) (ht : (pc : Int) + off = (tgt : Int)) (hr : -2147483648 ≤ a ∧ a ≤ 2147483647) (kt : a ≤ 0 → zZ g X nc ns σ tgt L S) (kf : ¬ a ≤ 0 → zZ g X nc ns σ (pc + 3) L S) : zZ g X nc ns σ pc L (.int (iI a) :: S) :=
  fun H locs ls hH hS hl => lv_if_le C.1 C.2.1 hd ht (fun h => kt ((iI_le hr (by decide)).mp h) H locs ls hH hS hl) (fun h => kf (fun q => h ((iI_le hr (by decide)).mpr q)) H locs ls hH hS hl)
theorem z_icmp_eq (C : zC g X M d mc ms) {a b : Int} {off : Int} (tgt : Nat) (hd : decode M.2.1 pc = .ok (.if_icmp .eq off, 3)) (ht : (pc : Int) + off = (tgt : Int)) (hr : -2147483648 ≤ a ∧ a ≤ 2147483647) (hq : -2147483648 ≤ b ∧ b ≤ 2147483647) (kt : a = b → zZ g X nc ns σ tgt L S) (kf : ¬ a = b → zZ g X nc ns σ (pc + 3) L S) : zZ g X nc ns σ pc L (.int (iI b) :: .int (iI a) :: S) :=
  fun H locs ls hH hS hl => lv_icmp_eq C.1 C.2.1 hd ht (fun h => kt ((iI_eq hr hq).mp h) H locs ls hH hS hl) (fun h => kf (fun q => h ((iI_eq hr hq).mpr q)) H locs ls hH hS hl)
theorem z_icmp_ne (C : zC g X M d mc ms) {a b : Int} {off : Int} (tgt : Nat) (hd : decode M.2.1 pc = .ok (.if_icmp .ne off, 3)) (ht : (pc : Int) + off = (tgt : Int)) (hr : -2147483648 ≤ a ∧ a ≤ 2147483647) (hq : -2147483648 ≤ b ∧ b ≤ 2147483647) (kt : ¬ a = b → zZ g X nc ns σ tgt L S) (kf : a = b → zZ g X nc ns σ (pc + 3) L S) : zZ g X nc ns σ pc L (.int (iI b) :: .int (iI a) :: S) :=
  fun H locs ls hH hS hl => lv_icmp_ne C.1 C.2.1 hd ht (fun h => kt (fun q => h ((iI_eq hr hq).mpr q)) H locs ls hH hS hl) (fun h => kf ((iI_eq hr hq).mp h) H locs ls hH hS hl)
theorem z_icmp_lt (C : zC g X M d mc ms) {a b : Int} {off : Int} (tgt : Nat) (hd : decode M.2.1 pc = .ok (.if_icmp .lt off, 3)) (ht : (pc : Int) + off = (tgt : Int)) (hr : -2147483648 ≤ a ∧ a ≤ 2147483647) (hq : -2147483648 ≤ b ∧ b ≤ 2147483647) (kt : a < b → zZ g X nc ns σ tgt L S) (kf : ¬ a < b → zZ g X nc ns σ (pc + 3) L S) : zZ g X nc ns σ pc L (.int (iI b) :: .int (iI a) :: S) :=
  fun H locs ls hH hS hl => lv_icmp_lt C.1 C.2.1 hd ht (fun h => kt ((iI_lt hr hq).mp h) H locs ls hH hS hl) (fun h => kf (fun q => h ((iI_lt hr hq).mpr q)) H locs ls hH hS hl)
theorem z_icmp_ge (C : zC g X M d mc ms) {a b : Int} {off : Int} (tgt : Nat) (hd : decode M.2.1 pc = .ok (.if_icmp .ge off, 3)) (ht : (pc : Int) + off = (tgt : Int)) (hr : -2147483648 ≤ a ∧ a ≤ 2147483647) (hq : -2147483648 ≤ b ∧ b ≤ 2147483647) (kt : b ≤ a → zZ g X nc ns σ tgt L S) (kf : ¬ b ≤ a → zZ g X nc ns σ (pc + 3) L S) : zZ g X nc ns σ pc L (.int (iI b) :: .int (iI a) :: S) :=
  fun H locs ls hH hS hl => lv_icmp_ge C.1 C.2.1 hd ht (fun h => kt ((iI_le hq hr).mp h) H locs ls hH hS hl) (fun h => kf (fun q => h ((iI_le hq hr).mpr q)) H locs ls hH hS hl)
theorem z_icmp_gt (C : zC g X M d mc ms) {a b : Int} {off : Int} (tgt : Nat) (hd : decode M.2.1 pc = .ok (.if_icmp .gt off, 3)) (ht : (pc : Int) + off = (tgt : Int)) (hr : -2147483648 ≤ a ∧ a ≤ 2147483647) (hq : -2147483648 ≤ b ∧ b ≤ 2147483647) (kt : b < a → zZ g X nc ns σ tgt L S) (kf : ¬ b < a → zZ g X nc ns σ (pc + 3) L S) : zZ g X nc ns σ pc L (.int (iI b) :: .int (iI a) :: S) :=
  fun H locs ls hH hS hl => lv_icmp_gt C.1 C.2.1 hd ht (fun h => kt ((iI_lt hq hr).mp h) H locs ls hH hS hl) (fun h => kf (fun q => h ((iI_lt hq hr).mpr q)) H locs ls hH hS hl)
theorem z_icmp_le (C : zC g X M d mc ms) {a b : Int} {off : Int} (tgt : Nat) (hd : decode M.2.1 pc = .ok (.if_icmp .le off, 3)) (ht : (pc : Int) + off = (tgt : Int)) (hr : -2147483648 ≤ a ∧ a ≤ 2147483647) (hq : -2147483648 ≤ b ∧ b ≤ 2147483647) (kt : a ≤ b → zZ g X nc ns σ tgt L S) (kf : ¬ a ≤ b → zZ g X nc ns σ (pc + 3) L S) : zZ g X nc ns σ pc L (.int (iI b) :: .int (iI a) :: S) :=
  fun H locs ls hH hS hl => lv_icmp_le C.1 C.2.1 hd ht (fun h => kt ((iI_le hr hq).mp h) H locs ls hH hS hl) (fun h => kf (fun q => h ((iI_le hr hq).mpr q)) H locs ls hH hS hl)
theorem z_goto (C : zC g X M d mc ms) {off : Int} (tgt : Nat) (hd : decode M.2.1 pc = .ok (.goto off, 3)) (ht : (pc : Int) + off = (tgt : Int)) (k : zZ g X nc ns σ tgt L S) : zZ g X nc ns σ pc L S :=
  fun H locs ls hH hS hl => lv_goto C.1 C.2.1 hd ht (k H locs ls hH hS hl)
theorem z_tabOut (C : zC g X M d mc ms) {dflt lo hi : Int} {offs : Array Int} {len : Nat} {a : Int} (tgt : Nat) (hd : decode M.2.1 pc = .ok (.tableswitch dflt lo hi offs, len)) (hr : -2147483648 ≤ a ∧ a ≤ 2147483647) (h : a < lo ∨ hi < a) (ht : (pc : Int) + dflt = (tgt : Int)) (k : zZ g X nc ns σ tgt L S) : zZ g X nc ns σ pc L (.int (iI a) :: S) :=
  fun H locs ls hH hS hl => lv_tableOut C.1 C.2.1 hd (by rw [iI_toInt hr.1 hr.2]; exact h) ht (k H locs ls hH hS hl)
theorem z_tabIn (C : zC g X M d mc ms) {dflt lo hi : Int} {offs : Array Int} {len : Nat} {a : Int} {off : Int} (tgt : Nat) (hd : decode M.2.1 pc = .ok (.tableswitch dflt lo hi offs, len)) (hr : -2147483648 ≤ a ∧ a ≤ 2147483647) (h1 : ¬ a < lo) (h2 : ¬ hi < a) (ho : offs[(a - lo).toNat]? = some off) (ht : (pc : Int) + off = (tgt : Int)) (k : zZ g X nc ns σ tgt L S) : zZ g X nc ns σ pc L (.int (iI a) :: S) :=
  fun H locs ls hH hS hl => lv_tableIn C.1 C.2.1 hd (by rw [iI_toInt hr.1 hr.2]; exact h1) (by rw [iI_toInt hr.1 hr.2]; exact h2) (by rw [iI_toInt hr.1 hr.2]; exact ho) ht (k H locs ls hH hS hl)
theorem zif_eq (C : zC g X M d mc ms) {x : Int32} {off : Int} (tgt : Nat) (hd : decode M.2.1 pc = .ok (.ifCond .eq off, 3)) (ht : (pc : Int) + off = (tgt : Int)) (kt : x = 0 → zZ g X nc ns σ tgt L S) (kf : ¬ x = 0 → zZ g X nc ns σ (pc + 3) L S) : zZ g X nc ns σ pc L (.int x :: S) :=
  fun H locs ls hH hS hl => lv_if_eq C.1 C.2.1 hd ht (fun h => kt h H locs ls hH hS hl) (fun h => kf h H locs ls hH hS hl)
theorem zif_ne (C : zC g X M d mc ms) {x : Int32} {off : Int} (tgt : Nat) (hd : decode M.2.1 pc = .ok (.ifCond .ne off, 3)) (ht : (pc : Int) + off = (tgt : Int)) (kt : ¬ x = 0 → zZ g X nc ns σ tgt L S) (kf : x = 0 → zZ g X nc ns σ (pc + 3) L S) : zZ g X nc ns σ pc L (.int x :: S) :=
  fun H locs ls hH hS hl => lv_if_ne C.1 C.2.1 hd ht (fun h => kt h H locs ls hH hS hl) (fun h => kf h H locs ls hH hS hl)
theorem zif_lt (C : zC g X M d mc ms) {x : Int32} {off : Int} (tgt : Nat) (hd : decode M.2.1 pc = .ok (.ifCond .lt off, 3)) (ht : (pc : Int) + off = (tgt : Int)) (kt : x < 0 → zZ g X nc ns σ tgt L S) (kf : ¬ x < 0 → zZ g X nc ns σ (pc + 3) L S) : zZ g X nc ns σ pc L (.int x :: S) :=
  fun H locs ls hH hS hl => lv_if_lt C.1 C.2.1 hd ht (fun h => kt h H locs ls hH hS hl) (fun h => kf h H locs ls hH hS hl)
theorem zif_ge (C : zC g X M d mc ms) {x : Int32} {off : Int} (tgt : Nat) (hd : decode M.2.1 pc = .ok (.ifCond .ge off, 3)) (ht : (pc : Int) + off = (tgt : Int)) (kt : 0 ≤ x → zZ g X nc ns σ tgt L S) (kf : ¬ 0 ≤ x → zZ g X nc ns σ (pc + 3) L S) : zZ g X nc ns σ pc L (.int x :: S) :=
  fun H locs ls hH hS hl => lv_if_ge C.1 C.2.1 hd ht (fun h => kt h H locs ls hH hS hl) (fun h => kf h H locs ls hH hS hl)
theorem zif_gt (C : zC g X M d mc ms) {x : Int32} {off : Int} (tgt : Nat) (hd : decode M.2.1 pc = .ok (.ifCond .gt off, 3)) (ht : (pc : Int) + off = (tgt : Int)) (kt : 0 < x → zZ g X nc ns σ tgt L S) (kf : ¬ 0 < x → zZ g X nc ns σ (pc + 3) L S) : zZ g X nc ns σ pc L (.int x :: S) :=
  fun H locs ls hH hS hl => lv_if_gt C.1 C.2.1 hd ht (fun h => kt h H locs ls hH hS hl) (fun h => kf h H locs ls hH hS hl)
theorem zif_le (C : zC g X M d mc ms) {x : Int32} {off : Int} (tgt : Nat) (hd : decode M.2.1 pc = .ok (.ifCond .le off, 3)) (ht : (pc : Int) + off = (tgt : Int)) (kt : x ≤ 0 → zZ g X nc ns σ tgt L S) (kf : ¬ x ≤ 0 → zZ g X nc ns σ (pc + 3) L S) : zZ g X nc ns σ pc L (.int x :: S) :=
  fun H locs ls hH hS hl => lv_if_le C.1 C.2.1 hd ht (fun h => kt h H locs ls hH hS hl) (fun h => kf h H locs ls hH hS hl)
theorem z_lcmp_eq (C : zC g X M d mc ms) {x y : Int64} {off : Int} (tgt : Nat) (hd : decode M.2.1 pc = .ok (.lcmp, 1)) (hd2 : decode M.2.1 (pc + 1) = .ok (.ifCond .eq off, 3)) (ht : ((pc + 1 : Nat) : Int) + off = (tgt : Int)) (kt : x = y → zZ g X nc ns σ tgt L S) (kf : ¬ x = y → zZ g X nc ns σ (pc + 1 + 3) L S) : zZ g X nc ns σ pc L (.long y :: .long x :: S) :=
  z_lcmp C hd (zif_eq C tgt hd2 ht (fun h => kt ((zlc_eq x y).mp h)) (fun h => kf (fun q => h ((zlc_eq x y).mpr q))))
theorem z_lcmp_ne (C : zC g X M d mc ms) {x y : Int64} {off : Int} (tgt : Nat) (hd : decode M.2.1 pc = .ok (.lcmp, 1)) (hd2 : decode M.2.1 (pc + 1) = .ok (.ifCond .ne off, 3)) (ht : ((pc + 1 : Nat) : Int) + off = (tgt : Int)) (kt : ¬ x = y → zZ g X nc ns σ tgt L S) (kf : x = y → zZ g X nc ns σ (pc + 1 + 3) L S) : zZ g X nc ns σ pc L (.long y :: .long x :: S) :=
  z_lcmp C hd (zif_ne C tgt hd2 ht (fun h => kt (fun q => h ((zlc_eq x y).mpr q))) (fun h => kf ((zlc_eq x y).mp h)))
theorem z_lcmp_lt (C : zC g X M d mc ms) {x y : Int64} {off : Int} (tgt : Nat) (hd : decode M.2.1 pc = .ok (.lcmp, 1)) (hd2 : decode M.2.1 (pc + 1) = .ok (.ifCond .lt off, 3)) (ht : ((pc + 1 : Nat) : Int) + off = (tgt : Int)) (kt : x < y → zZ g X nc ns σ tgt L S) (kf : ¬ x < y → zZ g X nc ns σ (pc + 1 + 3) L S) : zZ g X nc ns σ pc L (.long y :: .long x :: S) :=
  z_lcmp C hd (zif_lt C tgt hd2 ht (fun h => kt ((zlc_lt x y).mp h)) (fun h => kf (fun q => h ((zlc_lt x y).mpr q))))
theorem z_lcmp_ge (C : zC g X M d mc ms) {x y : Int64} {off : Int} (tgt : Nat) (hd : decode M.2.1 pc = .ok (.lcmp, 1)) (hd2 : decode M.2.1 (pc + 1) = .ok (.ifCond .ge off, 3)) (ht : ((pc + 1 : Nat) : Int) + off = (tgt : Int)) (kt : y ≤ x → zZ g X nc ns σ tgt L S) (kf : ¬ y ≤ x → zZ g X nc ns σ (pc + 1 + 3) L S) : zZ g X nc ns σ pc L (.long y :: .long x :: S) :=
  z_lcmp C hd (zif_ge C tgt hd2 ht (fun h => kt ((zlc_ge x y).mp h)) (fun h => kf (fun q => h ((zlc_ge x y).mpr q))))
theorem z_lcmp_gt (C : zC g X M d mc ms) {x y : Int64} {off : Int} (tgt : Nat) (hd : decode M.2.1 pc = .ok (.lcmp, 1)) (hd2 : decode M.2.1 (pc + 1) = .ok (.ifCond .gt off, 3)) (ht : ((pc + 1 : Nat) : Int) + off = (tgt : Int)) (kt : y < x → zZ g X nc ns σ tgt L S) (kf : ¬ y < x → zZ g X nc ns σ (pc + 1 + 3) L S) : zZ g X nc ns σ pc L (.long y :: .long x :: S) :=
  z_lcmp C hd (zif_gt C tgt hd2 ht (fun h => kt ((zlc_gt x y).mp h)) (fun h => kf (fun q => h ((zlc_gt x y).mpr q))))
theorem z_lcmp_le (C : zC g X M d mc ms) {x y : Int64} {off : Int} (tgt : Nat) (hd : decode M.2.1 pc = .ok (.lcmp, 1)) (hd2 : decode M.2.1 (pc + 1) = .ok (.ifCond .le off, 3)) (ht : ((pc + 1 : Nat) : Int) + off = (tgt : Int)) (kt : x ≤ y → zZ g X nc ns σ tgt L S) (kf : ¬ x ≤ y → zZ g X nc ns σ (pc + 1 + 3) L S) : zZ g X nc ns σ pc L (.long y :: .long x :: S) :=
  z_lcmp C hd (zif_le C tgt hd2 ht (fun h => kt ((zlc_le x y).mp h)) (fun h => kf (fun q => h ((zlc_le x y).mpr q))))
end ZI
