/-! rows of values, statics, making -/
section ZE
variable {g : zG} {X : zX} {M : zM} {d mc ms nc ns : Nat} {σ : zSt} {pc : Nat} {L : List (Nat × Value)} {S : List Value} {ci N n i idx k : Nat} {R : String} {T : u_T} {ty : Nat → FieldType}
theorem zE_7 : zE g σ i (7, n) = .inl (zcy g 0, n, .inl (fun k => iI (σ.2.1 i k))) := by simp [zE]
theorem zE_8 : zE g σ i (8, n) = .inl (zcy g 1, n, .inr (.inl (σ.2.2.1 i))) := by simp [zE]
theorem zE_9 : zE g σ i (9, n) = .inl (zcy g 2, n, .inl (fun k => iI (σ.2.1 i k))) := by simp [zE]
theorem zE_10 : zE g σ i (10, n) = .inl (zcy g 3, n, .inr (.inr (.inr (.inr (fun k => (σ.2.2.2 i k).map (za g)))))) := by simp [zE]
theorem zE_11 : zE g σ i (11, n) = .inl (zcy g 4, n, .inr (.inr (.inr (.inr (fun k => (σ.2.2.2 i k).map (za g)))))) := by simp [zE]
theorem zHp.row7 {H : Heap} (h : zHp g σ H) (hi : σ.1[i]? = some (7, n)) : va_at (zD g) vwCl (za g i, .inl (zcy g 0, n, .inl (fun k => iI (σ.2.1 i k)))) H := by rw [← zE_7]; exact h.2.2.2 i _ hi
theorem zHp.row8 {H : Heap} (h : zHp g σ H) (hi : σ.1[i]? = some (8, n)) : va_at (zD g) vwCl (za g i, .inl (zcy g 1, n, .inr (.inl (σ.2.2.1 i)))) H := by rw [← zE_8]; exact h.2.2.2 i _ hi
theorem zHp.row9 {H : Heap} (h : zHp g σ H) (hi : σ.1[i]? = some (9, n)) : va_at (zD g) vwCl (za g i, .inl (zcy g 2, n, .inl (fun k => iI (σ.2.1 i k)))) H := by rw [← zE_9]; exact h.2.2.2 i _ hi
theorem zHp.row10 {H : Heap} (h : zHp g σ H) (hi : σ.1[i]? = some (10, n)) : va_at (zD g) vwCl (za g i, .inl (zcy g 3, n, .inr (.inr (.inr (.inr (fun k => (σ.2.2.2 i k).map (za g))))))) H := by rw [← zE_10]; exact h.2.2.2 i _ hi
theorem zHp.row11 {H : Heap} (h : zHp g σ H) (hi : σ.1[i]? = some (11, n)) : va_at (zD g) vwCl (za g i, .inl (zcy g 4, n, .inr (.inr (.inr (.inr (fun k => (σ.2.2.2 i k).map (za g))))))) H := by rw [← zE_11]; exact h.2.2.2 i _ hi
theorem z_iald (C : zC g X M d mc ms) {j : Int} (e : Nat) (hj : j = e) (hi : σ.1[i]? = some (7, n)) (he : e < n) (hn : n < 2 ^ 31) (hd : decode M.2.1 pc = .ok (.iaload, 1)) (kk : zZ g X nc ns σ (pc + 1) L (.int (iI (σ.2.1 i e)) :: S)) : zZ g X nc ns σ pc L (.int (iI j) :: .ref i :: S) := by
  subst hj
  rw [← iI_nI]
  intro H locs ls hH hS hl
  refine va_iald (D := zD g) (cl := vwCl) (tys := zTy g) C.1 C.2.1 C.2.2.2.2.2.2.2.2.2.1.1 (va_P1 (hH.row7 hi)) 0 0 rfl rfl (vp_in_nI he hn) hd ?_
  rw [nI_clamp (show e < 2 ^ 31 by omega)]
  exact kk H locs ls hH hS hl
theorem z_zald (C : zC g X M d mc ms) {j : Int} (e : Nat) (hj : j = e) (hi : σ.1[i]? = some (9, n)) (he : e < n) (hn : n < 2 ^ 31) (hd : decode M.2.1 pc = .ok (.baload, 1)) (kk : zZ g X nc ns σ (pc + 1) L (.int (iI (σ.2.1 i e)) :: S)) : zZ g X nc ns σ pc L (.int (iI j) :: .ref i :: S) := by
  subst hj
  rw [← iI_nI]
  intro H locs ls hH hS hl
  refine va_zald (D := zD g) (cl := vwCl) (tys := zTy g) C.1 C.2.1 C.2.2.2.2.2.2.2.2.2.1.1 (va_P1 (hH.row9 hi)) 0 2 rfl rfl (vp_in_nI he hn) hd ?_
  rw [nI_clamp (show e < 2 ^ 31 by omega)]
  exact kk H locs ls hH hS hl
theorem z_lald (C : zC g X M d mc ms) {j : Int} (e : Nat) (hj : j = e) (hi : σ.1[i]? = some (8, n)) (he : e < n) (hn : n < 2 ^ 31) (hd : decode M.2.1 pc = .ok (.laload, 1)) (kk : zZ g X nc ns σ (pc + 1) L (.long (σ.2.2.1 i e) :: S)) : zZ g X nc ns σ pc L (.int (iI j) :: .ref i :: S) := by
  subst hj
  rw [← iI_nI]
  intro H locs ls hH hS hl
  refine va_lald (D := zD g) (cl := vwCl) (tys := zTy g) C.1 C.2.1 C.2.2.2.2.2.2.2.2.2.1.1 (va_P1 (hH.row8 hi)) 0 1 rfl rfl (vp_in_nI he hn) hd ?_
  rw [nI_clamp (show e < 2 ^ 31 by omega)]
  exact kk H locs ls hH hS hl
/-- of a row of references, of kind 10 (SHELVES) or 11 (Spots) -/
theorem z_aald (C : zC g X M d mc ms) {j : Int} (e : Nat) (kd : Nat) (hkd : kd = 10 ∨ kd = 11) (hj : j = e) (hi : σ.1[i]? = some (kd, n)) (he : e < n) (hn : n < 2 ^ 31) {b : Nat} (hb : σ.2.2.2 i e = some b) (hd : decode M.2.1 pc = .ok (.aaload, 1)) (kk : zZ g X nc ns σ (pc + 1) L (.ref b :: S)) : zZ g X nc ns σ pc L (.int (iI j) :: .ref i :: S) := by
  subst hj
  rw [← iI_nI]
  intro H locs ls hH hS hl
  have hk := kk H locs ls hH hS hl
  rcases hkd with rfl | rfl
  · refine va_aldq (D := zD g) (cl := vwCl) (tys := zTy g) (cA := zcy g 3) (f := fun k => (σ.2.2.2 i k).map (za g)) C.1 C.2.1 C.2.2.2.2.2.2.2.2.2.1.1 (va_P1 (hH.row10 hi)) 0 3 rfl rfl (vp_in_nI he hn) hd ?_
    rw [nI_clamp (show e < 2 ^ 31 by omega), hb]
    exact hk
  · refine va_aldq (D := zD g) (cl := vwCl) (tys := zTy g) (cA := zcy g 4) (f := fun k => (σ.2.2.2 i k).map (za g)) C.1 C.2.1 C.2.2.2.2.2.2.2.2.2.1.1 (va_P1 (hH.row11 hi)) 0 4 rfl rfl (vp_in_nI he hn) hd ?_
    rw [nI_clamp (show e < 2 ^ 31 by omega), hb]
    exact hk
theorem z_alen (C : zC g X M d mc ms) (kd t : Nat) {c : ClassId} {ty : FieldType} {x : vp_A} (hi : σ.1[i]? = some (kd, n)) (hx : zE g σ i (kd, n) = .inl (c, x)) (hn : x.1 = n) (ht : (zTy g)[t]? = some (c, ty)) (hd : decode M.2.1 pc = .ok (.arraylength, 1)) (kk : zZ g X nc ns σ (pc + 1) L (.int (iI n) :: S)) : zZ g X nc ns σ pc L (.ref i :: S) := by
  intro H locs ls hH hS hl
  have h1 := hH.2.2.2 i _ hi
  rw [hx] at h1
  exact va_alen (D := zD g) (cl := vwCl) (tys := zTy g) C.1 C.2.1 C.2.2.2.2.2.2.2.2.2.1.1 (va_P1 h1) 0 t rfl ht (v := nI n) (by rw [hn]; rfl) hd (kk H locs ls hH hS hl)
theorem zA_in {H : Heap} (hH : zHp g σ H) {kd : Nat × Nat} (hi : σ.1[i]? = some kd) : zA g (za g i) := by
  show zbs g ≤ za g i
  rw [(hH.ad hi).1]
  omega
theorem zupd {α : Type} (f : Nat → α) (e : Nat) (v : α) (W : α → Value) : updV (fun j => W (f j)) e (W v) = fun j => W (if j = e then v else f j) := by
  funext q
  by_cases h : q = e <;> simp [updV, h]
theorem z_iast (C : zC g X M d mc ms) {j : Int} (e : Nat) (hj : j = e) (hi : σ.1[i]? = some (7, n)) (he : e < n) (hn : n < 2 ^ 31) {v : Int} (hd : decode M.2.1 pc = .ok (.iastore, 1)) (kk : zZ g X nc ns (zI σ i e v) (pc + 1) L S) : zZ g X nc ns σ pc L (.int (iI v) :: .int (iI j) :: .ref i :: S) := by
  subst hj
  rw [← iI_nI]
  intro H locs ls hH hS hl
  have hK := C.2.2.2.2.2.2.2.2.2.1.1
  refine W.iast C.1 C.2.1 (hH.row7 hi) ((hK.2 0 _ rfl).1 n (fun j => .int (iI (σ.2.1 i j)))) (fun q => by cases q) (by show ¬ (nI e < 0 ∨ (arrV _ _ _).slots.size ≤ _); rw [arrV_size]; exact vp_in_nI he hn) rfl rfl hd fun H1 h1 z oq => ?_
  rw [nI_clamp (show e < 2 ^ 31 by omega)] at h1
  refine kk H1 _ ls (hH.put (σ' := zI σ i e v) rfl hi z oq ?_ (fun j kj h => zI_ne j kj h)) (hS.put z oq (zA_in hH hi)) hl
  rw [zE_7]
  show H1[za g i]? = some (vp_cell _ _)
  rw [h1, vp_cell_i, vp_cell_i, arrV_store, zupd (σ.2.1 i) e v (fun z => .int (iI z))]
  congr 2
  funext q
  simp [zu]
theorem z_zast (C : zC g X M d mc ms) {j : Int} (e : Nat) (hj : j = e) (hi : σ.1[i]? = some (9, n)) (he : e < n) (hn : n < 2 ^ 31) {v : Int} (hv : v = 0 ∨ v = 1) (hd : decode M.2.1 pc = .ok (.bastore, 1)) (kk : zZ g X nc ns (zI σ i e v) (pc + 1) L S) : zZ g X nc ns σ pc L (.int (iI v) :: .int (iI j) :: .ref i :: S) := by
  subst hj
  rw [← iI_nI]
  intro H locs ls hH hS hl
  have hK := C.2.2.2.2.2.2.2.2.2.1.1
  refine W.zast C.1 C.2.1 (hH.row9 hi) ((hK.2 2 _ rfl).1 n (fun j => .int (iI (σ.2.1 i j)))) (fun q => by cases q) (by show ¬ (nI e < 0 ∨ (arrV _ _ _).slots.size ≤ _); rw [arrV_size]; exact vp_in_nI he hn) rfl rfl hd fun H1 h1 z oq => ?_
  rw [nI_clamp (show e < 2 ^ 31 by omega), zb_nar (show iI v = 0 ∨ iI v = 1 by rcases hv with rfl | rfl <;> decide)] at h1
  refine kk H1 _ ls (hH.put (σ' := zI σ i e v) rfl hi z oq ?_ (fun j kj h => zI_ne j kj h)) (hS.put z oq (zA_in hH hi)) hl
  rw [zE_9]
  show H1[za g i]? = some (vp_cell _ _)
  rw [h1, vp_cell_i, vp_cell_i, arrV_store, zupd (σ.2.1 i) e v (fun z => .int (iI z))]
  congr 2
  funext q
  simp [zu]
theorem z_last (C : zC g X M d mc ms) {j : Int} (e : Nat) (hj : j = e) (hi : σ.1[i]? = some (8, n)) (he : e < n) (hn : n < 2 ^ 31) {v : Int64} (hd : decode M.2.1 pc = .ok (.lastore, 1)) (kk : zZ g X nc ns (zJ σ i e v) (pc + 1) L S) : zZ g X nc ns σ pc L (.long v :: .int (iI j) :: .ref i :: S) := by
  subst hj
  rw [← iI_nI]
  intro H locs ls hH hS hl
  have hK := C.2.2.2.2.2.2.2.2.2.1.1
  refine W.last C.1 C.2.1 (hH.row8 hi) ((hK.2 1 _ rfl).1 n (fun j => .long (σ.2.2.1 i j))) (fun q => by cases q) (by show ¬ (nI e < 0 ∨ (arrV _ _ _).slots.size ≤ _); rw [arrV_size]; exact vp_in_nI he hn) rfl rfl hd fun H1 h1 z oq => ?_
  rw [nI_clamp (show e < 2 ^ 31 by omega)] at h1
  refine kk H1 _ ls (hH.put (σ' := zJ σ i e v) rfl hi z oq ?_ (fun j kj h => zJ_ne j kj h)) (hS.put z oq (zA_in hH hi)) hl
  rw [zE_8]
  show H1[za g i]? = some (vp_cell _ _)
  rw [h1, vp_cell_l, vp_cell_l, arrV_store, zupd (σ.2.2.1 i) e v .long]
  congr 2
  funext q
  simp [zu]
/-- statics -/
theorem z_gets (C : zC g X M d mc ms) {q : String × List Int} (hq : zSN[k]? = some q) (hlk : Cond.fieldLink M.1.cls idx RX5 q.1 "[I" ∈ zTb) (hd : decode M.2.1 pc = .ok (.getstatic idx, 3)) (kk : zZ g X nc ns σ (pc + 3) L (.ref (1000 + k) :: S)) : zZ g X nc ns σ pc L S :=
  fun H locs ls hH hS hl => va_gets C.1 C.2.1 (C.2.2.2.2.2.2.2.2.2.1.2.2.1 k q hq).1 hS C.2.2.2.1 (C.2.2.2.2.1 _ hlk) (fun _ h => h) hd (kk H locs ls hH hS hl)
theorem z_getsN (C : zC g X M d mc ms) {q : String × List Int} (hq : zSN[k]? = some q) {host : String} (hlk : Cond.fieldLinkNest M.1.cls idx RX5 q.1 "[I" host ∈ zNw) (ho : (Cond.fieldLinkNest M.1.cls idx RX5 q.1 "[I" host).onTables = true) (hd : decode M.2.1 pc = .ok (.getstatic idx, 3)) (kk : zZ g X nc ns σ (pc + 3) L (.ref (1000 + k) :: S)) : zZ g X nc ns σ pc L S :=
  fun H locs ls hH hS hl => va_getsN C.1 C.2.1 (C.2.2.2.2.2.2.2.2.2.1.2.2.1 k q hq).1 hS C.2.2.2.1 (va_Nw.use ho (C.2.2.2.2.2.2.2.2.2.1.2.1 _ hlk)) (fun _ h => h) hd (kk H locs ls hH hS hl)
theorem z_ialdS (C : zC g X M d mc ms) {q : String × List Int} (hq : zSN[k]? = some q) {j : Int} (e : Nat) (hj : j = e) (he : e < q.2.length) (hn : q.2.length < 2 ^ 31) (hd : decode M.2.1 pc = .ok (.iaload, 1)) (kk : zZ g X nc ns σ (pc + 1) L (.int (iI (q.2.getD e 0)) :: S)) : zZ g X nc ns σ pc L (.int (iI j) :: .ref (1000 + k) :: S) := by
  subst hj
  rw [← iI_nI]
  intro H locs ls hH hS hl
  refine va_ti C.1 C.2.1 (C.2.2.2.2.2.2.2.2.2.1.2.2.1 k q hq).2 hS (vp_in_nI he hn) (v := .int (iI (q.2.getD e 0))) (by rw [nI_clamp (show e < 2 ^ 31 by omega)]) hd (kk H locs ls hH hS hl)
/-- a literal -/
theorem z_ldcS (C : zC g X M d mc ms) {q : Nat} (tx : String) (hq : (M.1.cls, idx, tx, q) ∈ zTn) (hd : decode M.2.1 pc = .ok (.ldc idx, 2)) (kk : zZ g X nc ns σ (pc + 2) L (.ref (1010 + q) :: S)) : zZ g X nc ns σ pc L S :=
  fun H locs ls hH hS hl => va_ldcS C.1 C.2.1 C.2.2.2.1 (C.2.2.2.2.2.2.2.2.2.1.2.2.2.1 _ hq) hd (kk H locs ls hH hS hl)
end ZE
