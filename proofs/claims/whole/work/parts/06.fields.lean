/-! fields, rows, statics, making -/
def zu {α : Type} (f : Nat → Nat → α) (i k : Nat) (v : α) : Nat → Nat → α := fun a j => if a = i ∧ j = k then v else f a j
theorem zu_ne {α : Type} {f : Nat → Nat → α} {i k : Nat} {v : α} {j : Nat} (h : j ≠ i) : zu f i k v j = f j := by
  funext q
  simp [zu, h]
theorem zu_s {α : Type} {f : Nat → Nat → α} {i k : Nat} {v : α} : zu f i k v i k = v := by simp [zu]
theorem zu_n {α : Type} {f : Nat → Nat → α} {i k : Nat} {v : α} {a j : Nat} (h : ¬ (a = i ∧ j = k)) : zu f i k v a j = f a j := by simp [zu, h]
abbrev zI (σ : zSt) (i k : Nat) (v : Int) : zSt := (σ.1, zu σ.2.1 i k v, σ.2.2.1, σ.2.2.2)
abbrev zJ (σ : zSt) (i k : Nat) (v : Int64) : zSt := (σ.1, σ.2.1, zu σ.2.2.1 i k v, σ.2.2.2)
abbrev zO (σ : zSt) (i k : Nat) (v : Nat) : zSt := (σ.1, σ.2.1, σ.2.2.1, zu σ.2.2.2 i k (some v))
theorem zfs_cong {g : zG} {σ σ' : zSt} {j : Nat} (h1 : σ.2.1 j = σ'.2.1 j) (h2 : σ.2.2.1 j = σ'.2.2.1 j) (h3 : σ.2.2.2 j = σ'.2.2.2 j) (ts : List Nat) (k : Nat) : zfs g σ j ts k = zfs g σ' j ts k :=
  zfs_eq ts k (fun q t _ => by
    match t with
    | 0 => simp [zfv, h1]
    | 1 => simp [zfv, h2]
    | _ + 2 => simp [zfv, h3])
theorem zE_cong {g : zG} {σ σ' : zSt} {j : Nat} (kj : Nat × Nat) (h1 : σ.2.1 j = σ'.2.1 j) (h2 : σ.2.2.1 j = σ'.2.2.1 j) (h3 : σ.2.2.2 j = σ'.2.2.2 j) : zE g σ j kj = zE g σ' j kj := by
  simp only [zE, h1, h2, h3, zfs_cong h1 h2 h3]
/-- what a program has decided of a class -/
def zCl (ci : Nat) (R : String) (T : u_T) (N : Nat) (ty : Nat → FieldType) : Prop := ci < 7 ∧ vwCl[ci]? = some (R, T, N) ∧ (∀ w ∈ u_ws R T N, w ∈ zTb) ∧ (∀ k, k < N → parseFieldDescriptor (T k).2.2.1 = some (ty k)) ∧ (∀ a, a < N → ∀ b, b < N → a ≠ b → (T a).2.1 ≠ (T b).2.1) ∧ (zft ci).length = N
theorem zCl_of {ci : Nat} {R : String} {T : u_T} {N : Nat} {ty : Nat → FieldType} (h1 : ci < 7) (h2 : vwCl[ci]? = some (R, T, N)) (h3 : (u_ws R T N).all (fun w => decide (w ∈ lw_tbl) && goodWord w) = true) (h4 : ∀ k, k < N → parseFieldDescriptor (T k).2.2.1 = some (ty k)) (h5 : ∀ a, a < N → ∀ b, b < N → a ≠ b → (T a).2.1 ≠ (T b).2.1) (h6 : (zft ci).length = N) : zCl ci R T N ty :=
  ⟨h1, h2, fun w hw => by
    have h := List.all_eq_true.mp h3 w hw
    simp only [Bool.and_eq_true, decide_eq_true_eq] at h
    exact zTb_of h.1 h.2, h4, h5, h6⟩
theorem zCl0 : zCl 0 RX0 TX0 10 tyX0 := zCl_of (by decide) rfl (by decide +kernel) tyX0_ok nmX0 rfl
theorem zCl1 : zCl 1 RX1 TX1 6 tyX1 := zCl_of (by decide) rfl (by decide +kernel) tyX1_ok nmX1 rfl
theorem zCl2 : zCl 2 RX2 TX2 3 tyX2 := zCl_of (by decide) rfl (by decide +kernel) tyX2_ok nmX2 rfl
theorem zCl3 : zCl 3 RX3 TX3 3 tyX3 := zCl_of (by decide) rfl (by decide +kernel) tyX3_ok nmX3 rfl
theorem zCl4 : zCl 4 RX4 TX4 6 tyX4 := zCl_of (by decide) rfl (by decide +kernel) tyX4_ok nmX4 rfl
theorem zCl5 : zCl 5 RX5 TX5 8 tyX5 := zCl_of (by decide) rfl (by decide +kernel) tyX5_ok nmX5 rfl
theorem zCl6 : zCl 6 RX6 TX6 30 tyX6 := zCl_of (by decide) rfl (by decide +kernel) tyX6_ok nmX6 rfl
section ZF
variable {g : zG} {X : zX} {M : zM} {d mc ms nc ns : Nat} {σ : zSt} {pc : Nat} {L : List (Nat × Value)} {S : List Value} {ci N n i idx k : Nat} {R : String} {T : u_T} {ty : Nat → FieldType}
theorem zHp.obj {H : Heap} (h : zHp g σ H) (hi : σ.1[i]? = some (ci, n)) (hlt : ci < 7) : va_at (zD g) vwCl (za g i, .inr (ci, zfs g σ i (zft ci) 0)) H := by
  have h1 := h.2.2.2 i _ hi
  rw [zE, if_pos hlt] at h1
  exact h1
theorem va_P1 {D : va_G} {cl : List vw_C} {q : Nat × va_E} {H : Heap} (h : va_at D cl q H) : va_P D cl [q] H := by
  intro k q' hk
  match k, hk with
  | 0, hk => cases hk; exact h
  | k + 1, hk => simp at hk
theorem z_get (C : zC g X M d mc ms) (K : zCl ci R T N ty) {t : Nat} {v : Value} (hi : σ.1[i]? = some (ci, n)) (ht : (zft ci)[k]? = some t) (hv : zfv g σ i k t = zv g v) (hlk : Cond.fieldLink M.1.cls idx (T k).1 (T k).2.1 (T k).2.2.1 ∈ zTb) (hd : decode M.2.1 pc = .ok (.getfield idx, 3)) (kk : zZ g X nc ns σ (pc + 3) L (v :: S)) : zZ g X nc ns σ pc L (.ref i :: S) := by
  intro H locs ls hH hS hl
  have hk : k < N := by rw [← K.2.2.2.2.2]; exact (List.getElem?_eq_some_iff.mp ht).1
  have hat := zfs_at g σ i (zft ci) 0 k t ht
  rw [Nat.zero_add, hv] at hat
  exact va_get (D := zD g) (tys := zTy g) (ci := ci) C.1 C.2.1 C.2.2.2.2.1 K.2.2.1 C.2.2.2.1 C.2.2.2.2.2.2.2.2.2.1.1 (va_P1 (hH.obj hi K.1)) 0 rfl K.2.1 k hk (C.2.2.2.2.1 _ hlk) (fun _ h9 => h9) hat hd (kk H locs ls hH hS hl)
theorem z_getI (C : zC g X M d mc ms) (K : zCl ci R T N ty) (k : Nat) (hlk : Cond.fieldLink M.1.cls idx (T k).1 (T k).2.1 (T k).2.2.1 ∈ zTb) (ht : (zft ci)[k]? = some 0) (hi : σ.1[i]? = some (ci, n)) (hd : decode M.2.1 pc = .ok (.getfield idx, 3)) (kk : zZ g X nc ns σ (pc + 3) L (.int (iI (σ.2.1 i k)) :: S)) : zZ g X nc ns σ pc L (.ref i :: S) := z_get C K hi ht rfl hlk hd kk
theorem z_getJ (C : zC g X M d mc ms) (K : zCl ci R T N ty) (k : Nat) (hlk : Cond.fieldLink M.1.cls idx (T k).1 (T k).2.1 (T k).2.2.1 ∈ zTb) (ht : (zft ci)[k]? = some 1) (hi : σ.1[i]? = some (ci, n)) (hd : decode M.2.1 pc = .ok (.getfield idx, 3)) (kk : zZ g X nc ns σ (pc + 3) L (.long (σ.2.2.1 i k) :: S)) : zZ g X nc ns σ pc L (.ref i :: S) := z_get C K hi ht rfl hlk hd kk
theorem z_getR (C : zC g X M d mc ms) (K : zCl ci R T N ty) (k : Nat) (hlk : Cond.fieldLink M.1.cls idx (T k).1 (T k).2.1 (T k).2.2.1 ∈ zTb) (ht : (zft ci)[k]? = some 2) (hi : σ.1[i]? = some (ci, n)) {b : Nat} (hb : σ.2.2.2 i k = some b) (hd : decode M.2.1 pc = .ok (.getfield idx, 3)) (kk : zZ g X nc ns σ (pc + 3) L (.ref b :: S)) : zZ g X nc ns σ pc L (.ref i :: S) := z_get C K hi ht (v := .ref b) (by simp [zfv, hb, va_rf, zv]) hlk hd kk
/-- a field is written: what the heap is behind it -/
theorem z_putC (K : zCl ci R T N ty) {s : State} {args : Array Value} {Ts : List Cond} (hts : ∀ w ∈ Ts, w.before args s = true) (hin : ∀ w ∈ u_ws R T N, w ∈ Ts) (hK : va_K (zD g) vwCl (zTy g) s) {H : Heap} (hH : zHp g σ H) (hi : σ.1[i]? = some (ci, n)) (hk : k < N) {V : Value} :
    ∃ (cell : Cell) (cf fi : Nat) (kf : Class) (f : Field) (kC : Class) (cC : ClassId), H[za g i]? = some cell ∧ cell.cls = cC ∧ cell.vm = .none ∧ f.slot < cell.slots.size ∧ s.fieldFound? (T k).1 (T k).2.1 (T k).2.2.1 = some (cf, kf, fi, f) ∧ f.isStatic = false ∧ s.vm.findClass R = some cC ∧ s.vm.classes[cC]? = some kC ∧ kC.kind = .ordinary ∧
      ∀ (H1 : Heap) (σ' : zSt), H1[za g i]? = some (cell.setSlot f.slot V) → H1.size = H.size → (∀ q, q ≠ za g i → H1[q]? = H[q]?) → σ'.1 = σ.1 → (∀ j kj, j ≠ i → zE g σ' j kj = zE g σ j kj) → (zfs g σ i (zft ci) 0).set k V = zfs g σ' i (zft ci) 0 → zHp g σ' H1 := by
  obtain ⟨hlt, hc, -, hty, hnm, hlen⟩ := K
  have hap := va_apart (own := R) hts hin ty hty hnm hK hc
  obtain ⟨r, h1, cell, q1, q2, q3, q4⟩ := hH.obj hi hlt
  have hr : r = (R, T, N) := Option.some.inj (h1.symm.trans hc)
  subst hr
  obtain ⟨hS, hfc, kC, hkC, hkind⟩ := hK.1 ci _ hc
  obtain ⟨cf, kf, fi, f, hfi, hsl⟩ := hS k hk
  refine ⟨cell, cf, fi, kf, f, kC, _, q1, q2, q3, by rw [hsl]; exact k2_hasslot (q4 k hk), hfi, (u_facts hfc hkC (u_lays hts hin hk) hfi).1, hfc, hkC, hkind, fun H1 σ' e1 e2 e3 a1 a2 a3 => ?_⟩
  refine hH.put a1 hi e2 e3 ?_ a2
  rw [zE, if_pos hlt, ← a3]
  rw [hsl] at e1
  exact ⟨_, hc, t_OB.to (V := updV (vp_V (zfs g σ i (zft ci) 0)) k V) ⟨_, e1, q2, q3, t_set q4 hap hk V⟩ (fun j _ => vp_updV_set (by rw [zfs_len, hlen]; exact hk) V j)⟩
theorem z_put (C : zC g X M d mc ms) (K : zCl ci R T N ty) {σ' : zSt} {v : Value} (hi : σ.1[i]? = some (ci, n)) (hk : k < N) (hfin : (T k).2.2.2 = false) (hn : narrow (ty k) (zv g v) = zv g v) (hfit : fits (ty k) (zv g v) = true) (a1 : σ'.1 = σ.1) (a2 : ∀ j kj, j ≠ i → zE g σ' j kj = zE g σ j kj) (a3 : (zfs g σ i (zft ci) 0).set k (zv g v) = zfs g σ' i (zft ci) 0) (hlk : Cond.fieldLink M.1.cls idx (T k).1 (T k).2.1 (T k).2.2.1 ∈ zTb) (hd : decode M.2.1 pc = .ok (.putfield idx, 3)) (kk : zZ g X nc ns σ' (pc + 3) L S) : zZ g X nc ns σ pc L (v :: .ref i :: S) := by
  intro H locs ls hH hS hl
  have hts := C.2.2.2.2.1
  obtain ⟨cell, cf, fi, kf, f, kC, cC, b1, b2, b3, b4, b5, b6, b7, b8, b9, b10⟩ := z_putC (V := zv g v) K hts K.2.2.1 C.2.2.2.2.2.2.2.2.2.1.1 hH hi hk
  have hlay := hts _ (K.2.2.1 _ (u_in_lay hk))
  unfold u_lay at hlay
  rw [if_neg (by rw [hfin]; decide)] at hlay
  have h6 := u_store b7 b8 b9 hlay b5 (K.2.2.2.1 k hk) hn hfit
  refine W.putK C.1 C.2.1 (f := f) ⟨C.2.2.2.1, hts _ hlk, ⟨_, _, _, b5⟩, b6⟩ (by rw [b2]; exact h6) b1 b3 b4 rfl rfl hd fun H' e1 e2 e3 => ?_
  exact kk H' _ ls (b10 H' σ' e1 e2 e3 a1 a2 a3) (hS.put e2 e3 (by show zbs g ≤ za g i; rw [(hH.ad hi).1]; omega)) hl
theorem z_putF (C : zC g X M d mc ms) (K : zCl ci R T N ty) {σ' : zSt} {v : Value} (hi : σ.1[i]? = some (ci, n)) (hk : k < N) (hfin : (T k).2.2.2 = true) (hin2 : M.1.name = "<init>") (hdecl : (T k).1 = M.1.cls) (hn : narrow (ty k) (zv g v) = zv g v) (hfit : fits (ty k) (zv g v) = true) (a1 : σ'.1 = σ.1) (a2 : ∀ j kj, j ≠ i → zE g σ' j kj = zE g σ j kj) (a3 : (zfs g σ i (zft ci) 0).set k (zv g v) = zfs g σ' i (zft ci) 0) (hlk : Cond.fieldLink M.1.cls idx (T k).1 (T k).2.1 (T k).2.2.1 ∈ zTb) (hd : decode M.2.1 pc = .ok (.putfield idx, 3)) (kk : zZ g X nc ns σ' (pc + 3) L S) : zZ g X nc ns σ pc L (v :: .ref i :: S) := by
  intro H locs ls hH hS hl
  have hts := C.2.2.2.2.1
  obtain ⟨cell, cf, fi, kf, f, kC, cC, b1, b2, b3, b4, b5, b6, b7, b8, b9, b10⟩ := z_putC (V := zv g v) K hts K.2.2.1 C.2.2.2.2.2.2.2.2.2.1.1 hH hi hk
  have hlay := hts _ (K.2.2.1 _ (u_in_lay hk))
  unfold u_lay at hlay
  rw [if_pos hfin] at hlay
  have hcf : (xm X).cls = cf := by
    obtain ⟨_, _, c', _, _, _, -, -, hf', -, -, -, hown2, -⟩ := Cond.laysFinal_spec hlay
    have e1 : c' = cf := by have := b5.symm.trans hf'; simp at this; exact this.1.symm
    rw [hdecl] at hown2
    rw [← e1]; exact Option.some.inj (C.2.2.2.1.symm.trans hown2)
  have h6 := u_fits b7 b8 b9 (Or.inr hlay) b5 (K.2.2.2.1 k hk) hn hfit
  refine W.putFinK C.1 C.2.1 C.2.2.2.1 (hts _ hlk) b5 b6 hcf (C.2.2.2.2.2.2.2.2.2.2.2.trans hin2) (by rw [b2]; exact h6) b1 b3 b4 rfl rfl hd fun H' e1 e2 e3 => ?_
  exact kk H' _ ls (b10 H' σ' e1 e2 e3 a1 a2 a3) (hS.put e2 e3 (by show zbs g ≤ za g i; rw [(hH.ad hi).1]; omega)) hl
theorem zset_I (ht : (zft ci)[k]? = some 0) (v : Int) : (zfs g σ i (zft ci) 0).set k (.int (iI v)) = zfs g (zI σ i k v) i (zft ci) 0 := by
  refine zfs_set _ (List.getElem?_eq_some_iff.mp ht).1 (fun t h => ?_) (fun j t hj h => ?_)
  · cases h.symm.trans ht
    simp [zfv, zu]
  · match t with
    | 0 => simp [zfv, zu, hj]
    | 1 => rfl
    | _ + 2 => rfl
theorem zset_J (ht : (zft ci)[k]? = some 1) (v : Int64) : (zfs g σ i (zft ci) 0).set k (.long v) = zfs g (zJ σ i k v) i (zft ci) 0 := by
  refine zfs_set _ (List.getElem?_eq_some_iff.mp ht).1 (fun t h => ?_) (fun j t hj h => ?_)
  · cases h.symm.trans ht
    simp [zfv, zu]
  · match t with
    | 0 => rfl
    | 1 => simp [zfv, zu, hj]
    | _ + 2 => rfl
theorem zset_O (ht : (zft ci)[k]? = some 2) (v : Nat) : (zfs g σ i (zft ci) 0).set k (.ref (za g v)) = zfs g (zO σ i k v) i (zft ci) 0 := by
  refine zfs_set _ (List.getElem?_eq_some_iff.mp ht).1 (fun t h => ?_) (fun j t hj h => ?_)
  · cases h.symm.trans ht
    simp [zfv, zu, va_rf]
  · match t with
    | 0 => rfl
    | 1 => rfl
    | _ + 2 => simp [zfv, zu, hj]
theorem zI_ne (j : Nat) (kj : Nat × Nat) (h : j ≠ i) {v : Int} : zE g (zI σ i k v) j kj = zE g σ j kj := zE_cong kj (zu_ne h) rfl rfl
theorem zJ_ne (j : Nat) (kj : Nat × Nat) (h : j ≠ i) {v : Int64} : zE g (zJ σ i k v) j kj = zE g σ j kj := zE_cong kj rfl (zu_ne h) rfl
theorem zO_ne (j : Nat) (kj : Nat × Nat) (h : j ≠ i) {v : Nat} : zE g (zO σ i k v) j kj = zE g σ j kj := zE_cong kj rfl rfl (zu_ne h)
theorem z_putI (C : zC g X M d mc ms) (K : zCl ci R T N ty) (k : Nat) (hlk : Cond.fieldLink M.1.cls idx (T k).1 (T k).2.1 (T k).2.2.1 ∈ zTb) (ht : (zft ci)[k]? = some 0) (hty : ty k = .int) (hfin : (T k).2.2.2 = false) (hi : σ.1[i]? = some (ci, n)) {v : Int} (hd : decode M.2.1 pc = .ok (.putfield idx, 3)) (kk : zZ g X nc ns (zI σ i k v) (pc + 3) L S) : zZ g X nc ns σ pc L (.int (iI v) :: .ref i :: S) :=
  z_put (σ' := zI σ i k v) C K hi (by rw [← K.2.2.2.2.2]; exact (List.getElem?_eq_some_iff.mp ht).1) hfin (by rw [hty]; rfl) (by rw [hty]; rfl) rfl (fun j kj h => zI_ne j kj h) (zset_I ht v) hlk hd kk
theorem z_putZ (C : zC g X M d mc ms) (K : zCl ci R T N ty) (k : Nat) (hlk : Cond.fieldLink M.1.cls idx (T k).1 (T k).2.1 (T k).2.2.1 ∈ zTb) (ht : (zft ci)[k]? = some 0) (hty : ty k = .boolean) (hfin : (T k).2.2.2 = false) (hi : σ.1[i]? = some (ci, n)) {v : Int} (hv : v = 0 ∨ v = 1) (hd : decode M.2.1 pc = .ok (.putfield idx, 3)) (kk : zZ g X nc ns (zI σ i k v) (pc + 3) L S) : zZ g X nc ns σ pc L (.int (iI v) :: .ref i :: S) :=
  z_put (σ' := zI σ i k v) C K hi (by rw [← K.2.2.2.2.2]; exact (List.getElem?_eq_some_iff.mp ht).1) hfin (by rw [hty]; exact zb_nar (by rcases hv with rfl | rfl <;> decide)) (by rw [hty]; rcases hv with rfl | rfl <;> rfl) rfl (fun j kj h => zI_ne j kj h) (zset_I ht v) hlk hd kk
theorem z_putJ (C : zC g X M d mc ms) (K : zCl ci R T N ty) (k : Nat) (hlk : Cond.fieldLink M.1.cls idx (T k).1 (T k).2.1 (T k).2.2.1 ∈ zTb) (ht : (zft ci)[k]? = some 1) (hty : ty k = .long) (hfin : (T k).2.2.2 = false) (hi : σ.1[i]? = some (ci, n)) {v : Int64} (hd : decode M.2.1 pc = .ok (.putfield idx, 3)) (kk : zZ g X nc ns (zJ σ i k v) (pc + 3) L S) : zZ g X nc ns σ pc L (.long v :: .ref i :: S) :=
  z_put (σ' := zJ σ i k v) C K hi (by rw [← K.2.2.2.2.2]; exact (List.getElem?_eq_some_iff.mp ht).1) hfin (by rw [hty]; rfl) (by rw [hty]; rfl) rfl (fun j kj h => zJ_ne j kj h) (zset_J ht v) hlk hd kk
theorem z_putR (C : zC g X M d mc ms) (K : zCl ci R T N ty) (k : Nat) (hlk : Cond.fieldLink M.1.cls idx (T k).1 (T k).2.1 (T k).2.2.1 ∈ zTb) (ht : (zft ci)[k]? = some 2) {v : Nat} (hty : narrow (ty k) (.ref (za g v)) = .ref (za g v) ∧ fits (ty k) (.ref (za g v)) = true) (hfin : (T k).2.2.2 = false) (hi : σ.1[i]? = some (ci, n)) (hd : decode M.2.1 pc = .ok (.putfield idx, 3)) (kk : zZ g X nc ns (zO σ i k v) (pc + 3) L S) : zZ g X nc ns σ pc L (.ref v :: .ref i :: S) :=
  z_put (σ' := zO σ i k v) C K hi (by rw [← K.2.2.2.2.2]; exact (List.getElem?_eq_some_iff.mp ht).1) hfin hty.1 hty.2 rfl (fun j kj h => zO_ne j kj h) (zset_O ht v) hlk hd kk
theorem z_putFR (C : zC g X M d mc ms) (K : zCl ci R T N ty) (k : Nat) (hlk : Cond.fieldLink M.1.cls idx (T k).1 (T k).2.1 (T k).2.2.1 ∈ zTb) (ht : (zft ci)[k]? = some 2) {v : Nat} (hty : narrow (ty k) (.ref (za g v)) = .ref (za g v) ∧ fits (ty k) (.ref (za g v)) = true) (hfin : (T k).2.2.2 = true) (hin2 : M.1.name = "<init>") (hdecl : (T k).1 = M.1.cls) (hi : σ.1[i]? = some (ci, n)) (hd : decode M.2.1 pc = .ok (.putfield idx, 3)) (kk : zZ g X nc ns (zO σ i k v) (pc + 3) L S) : zZ g X nc ns σ pc L (.ref v :: .ref i :: S) :=
  z_putF (σ' := zO σ i k v) C K hi (by rw [← K.2.2.2.2.2]; exact (List.getElem?_eq_some_iff.mp ht).1) hfin hin2 hdecl hty.1 hty.2 rfl (fun j kj h => zO_ne j kj h) (zset_O ht v) hlk hd kk
end ZF
