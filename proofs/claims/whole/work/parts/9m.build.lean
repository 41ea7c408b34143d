/-! THE WORLD IS BUILT: objects and rows are made; contracts of constructors -/
def zAo (U : State) : Prop := va_AO RX2 U ∧ va_AO RX3 U
theorem zAo.moved {u U : State} (h : u.vm.Alike U.vm) (q : zAo u) : zAo U := ⟨q.1.moved h, q.2.moved h⟩
def zRunB (g : zG) (M : zM) (d mc ms : Nat) (as : List Value) (σ : zSt) (post : Option Value → zSt → Prop) : Prop :=
  Met (zl g) M.1 (zws M) (zRm d mc ms) (va_Pc (as.map (zv g)) (fun U => zHp g σ U.heap ∧ zF g U U.heap ∧ zAo U)) (zQc g post) mc ms (zA g)
theorem zRunB_intro {g : zG} {M : zM} {d mc ms : Nat} {as : List Value} {σ : zSt} {post : Option Value → zSt → Prop} (hy : plainName M.1.cls = true) (hl : (lg_sl as).length ≤ M.2.2.1)
    (h : ∀ X : zX, zC g X M d mc ms → zAo (xs X) → zR g X mc ms post → zZ g X 0 0 σ 0 (lv_args 0 as) []) : zRunB g M d mc ms as σ post := by
  refine Met.ofW (cc := M.2.1) (maxL := M.2.2.1) (ret := M.2.2.2) hy rfl ?_
  intro p e s m args below meth c s₁ B hml hv
  obtain ⟨rfl, hH, hF, hO⟩ := hv
  have hts := atoms_spec (ws := zws M) B.pre
  have hX := h (p, e, zRm d mc ms, s, m, (as.map (zv g)).toArray, below, meth, c, MQ below (zQc g post) (as.map (zv g)).toArray s mc ms (zA g))
    ⟨B.exec, B.bytes, hml, findClass_of_methodNamed B.named, fun w hw => hts w (List.mem_cons_of_mem _ hw), B.returns, B.notSynchronized, ⟨Nat.le_refl _, Nat.le_refl _⟩, ⟨Nat.le_refl _, Nat.le_refl _⟩, hF, by show zbs g ≤ s.heap.size; exact Nat.le_trans (Nat.le_add_right _ _) hH.1, (name_of_methodNamed B.named B.method).1⟩ hO rfl
  have hlen : (lg_sl (as.map (zv g))).length ≤ M.2.2.1 := by
    have e : ∀ vs : List Value, (lg_sl (vs.map (zv g))).length = (lg_sl vs).length := by
      intro vs
      induction vs with
      | nil => rfl
      | cons v vs ih =>
        simp only [lg_sl, List.map_cons, List.flatMap_cons, List.length_append, zv_cat] at ih ⊢
        rw [ih]
        split <;> rfl
    rw [e]; exact hl
  have hls := lv_entry (as.map (zv g)) (n := M.2.2.1) hlen
  rw [lg_entry_eq]
  rw [zLm_args] at hls
  exact hX s.heap [] _ hH va_S.rf (by show lv_has _ c.maxLocals _; rw [hml]; exact hls)
section ZBu
variable {g : zG} {X : zX} {M M' : zM} {d mc ms d' mc' ms' nc ns : Nat} {σ : zSt} {pc : Nat} {L : List (Nat × Value)} {S as : List Value} {post' : Option Value → zSt → Prop} {ci N n i idx k : Nat} {R : String} {T : u_T} {ty : Nat → FieldType}
theorem zFBB : FrameBlind (va_Pc (as.map (zv g)) (fun U => zHp g σ U.heap ∧ zF g U U.heap ∧ zAo U)) := fun a U f mk q => ⟨q.1, q.2.1, zF.calling f mk a q.2.2.1, zAo.moved (u := U) (U := U.calling f mk a) (Vm.Alike.refl U.vm) q.2.2.2⟩
theorem zZ_callB {n i : Nat} (C : zC g X M d mc ms) (hO : zAo (xs X)) (ok : zOk M' n) (hst : Cond.instanceMethod M'.1 ∈ zTb) (hnm : M'.1.name = "<init>") (hrt : M'.2.2.2 = none) {idx : Nat} (hlk : Cond.methodLink M.1.cls idx M'.1 ∈ zTb) (hR : zRunB g M' d' mc' ms' (.ref i :: as) σ post') (hn : as.length = n) (hd' : d' + 1 ≤ d) (hc : nc + mc' ≤ mc) (hs : ns + ms' ≤ ms) (hw : (S.map fun v => v.category).sum ≤ 8)
    (hd : decode M.2.1 pc = .ok (.invokespecial idx, 3)) (kk : ∀ r σ', post' r σ' → zZ g X (nc + mc') (ns + ms') σ' (pc + 3) L (r.toList ++ S)) : zZ g X nc ns σ pc L (as.reverse ++ .ref i :: S) := by
  intro H locs ls hH hS hl
  obtain ⟨o1, o2, o3, o4⟩ := ok
  have hts := C.2.2.2.2.1
  have hws : zws M' = Cond.code M'.1 M'.2.1 M'.2.2.1 none :: zTb := by rw [zws, hrt]
  have cw := callB_of (R := xR X) (own := M.1.cls) (index := idx) (mc := mc') (ms := ms') (ret := none) (rm := zRm d' mc' ms') n hts (zGood M M' o1) hws rfl rfl (hts _ o2) (hts _ hlk) o3 (zroom C hd' o4)
  have hrun := va_runI (b := za g i) (As := as.map (zv g)) (rest := S.map (zv g)) (g := F0 (xm X) pc ls ((as.map (zv g)).reverse ++ .ref (za g i) :: S.map (zv g))) (cells := nc) (slots := ns) (below := xb X) (meth := xh X) (e := xe X) (H := H) (locs := locs) ⟨C.1, C.2.1, C.2.2.1, C.2.2.2.1, hts⟩ hR ⟨cw, hnm, hts _ hst⟩ ⟨zFBB, fun U hU hW => ⟨rfl, by rw [hU]; exact hH, zF.at C hS hU hW, zAo.moved hW.alike hO⟩⟩ rfl ((List.length_map _).trans hn) (hl.1.trans C.2.2.1) rfl (by show 2 * 0 + _ ≤ 8; rw [zcat]; omega) hd ⟨Nat.le_trans hc C.2.2.2.2.2.2.2.2.1.1, Nat.le_trans hs C.2.2.2.2.2.2.2.2.1.2⟩
  rw [List.map_append, List.map_reverse]
  exact zcall hrun hS hl kk
theorem zZ_callB0 {σ1 : zSt} (C : zC g X M d mc ms) (hO : zAo (xs X)) (ok : zOk M' 0) (hst : Cond.instanceMethod M'.1 ∈ zTb) (hnm : M'.1.name = "<init>") (hrt : M'.2.2.2 = none) (hlk : Cond.methodLink M.1.cls idx M'.1 ∈ zTb) (hR : zRunB g M' d' mc' ms' [.ref i] σ (zIs none σ1)) (hd' : d' + 1 ≤ d) (hc : nc + mc' ≤ mc) (hs : ns + ms' ≤ ms) (hw : (S.map fun v => v.category).sum ≤ 8)
    (hd : decode M.2.1 pc = .ok (.invokespecial idx, 3)) (kk : zZ g X (nc + mc') (ns + ms') σ1 (pc + 3) L S) : zZ g X nc ns σ pc L (.ref i :: S) :=
  zZ_callB (as := []) C hO ok hst hnm hrt hlk hR rfl hd' hc hs hw hd (fun r1 σ' h => by obtain ⟨rfl, rfl⟩ := h; exact kk)
/-- Object.<init> -/
theorem z_objInit (C : zC g X M d mc ms) {a : Nat} (h1 : Cond.methodLink M.1.cls idx Lib.objectInit ∈ zTb) (h2 : Cond.instanceMethod Lib.objectInit ∈ zTb) (h3 : Cond.code Lib.objectInit ⟨#[0xb1]⟩ 1 none ∈ zTb) (h1d : 1 ≤ d) (hw : (S.map fun v => v.category).sum ≤ 8) (hd : decode M.2.1 pc = .ok (.invokespecial idx, 3)) (kk : zZ g X nc ns σ (pc + 3) L S) : zZ g X nc ns σ pc L (.ref a :: S) := by
  intro H locs ls hH hS hl
  have hts := C.2.2.2.2.1
  have hr := C.2.2.2.2.2.2.2.1
  refine W.objInit C.1 C.2.1 C.2.2.2.1 (hts _ h1) (hts _ h2) (hts _ h3) rfl hl.1 rfl hd (by omega) (by show 2 * 0 + _ + 12 ≤ _; rw [zcat]; omega) ?_
  exact kk H locs ls hH hS hl
/-- a cell more -/
def zP (σ : zSt) (kd : Nat × Nat) : zSt := (σ.1 ++ [kd], σ.2)
theorem zP_last {kd : Nat × Nat} (h : σ.1.length = i) : (zP σ kd).1[i]? = some kd := by
  subst h
  simp [zP]
theorem zP_old {kd kj : Nat × Nat} (h : σ.1[i]? = some kj) : (zP σ kd).1[i]? = some kj := by
  have := (List.getElem?_eq_some_iff.mp h).1
  simp only [zP]
  rw [List.getElem?_append_left this]
  exact h
theorem zP_len {kd : Nat × Nat} (h : σ.1.length = i) : (zP σ kd).1.length = i + 1 := by simp [zP, h]
theorem zHp_new {H H1 : Heap} (hH : zHp g σ H) (hl : σ.1.length < zNA) {kd : Nat × Nat} (z1 : H1.size = H.size + 1) (o1 : ∀ q, q < H.size → H1[q]? = H[q]?) (hc : va_at (zD g) vwCl (za g σ.1.length, zE g σ σ.1.length kd) H1) : zHp g (zP σ kd) H1 := by
  have hs := hH.2.1 hl
  have hl2 : (zP σ kd).1.length = σ.1.length + 1 := zP_len rfl
  have h74 : zNA = 74 := rfl
  refine ⟨by rw [hl2]; omega, fun _ => by rw [hl2]; omega, by rw [hl2]; omega, fun j kj hj => ?_⟩
  rw [show zE g (zP σ kd) j kj = zE g σ j kj from zE_cong kj rfl rfl rfl]
  by_cases e : j < σ.1.length
  · have hj2 : σ.1[j]? = some kj := by
      simp only [zP] at hj
      rw [List.getElem?_append_left e] at hj
      exact hj
    refine (hH.2.2.2 j kj hj2).kept (o1 _ ?_)
    show za g j < H.size
    rw [(hH.ad hj2).1]
    omega
  · have hj3 := (List.getElem?_eq_some_iff.mp hj).1
    rw [hl2] at hj3
    have e2 : j = σ.1.length := by omega
    subst e2
    rw [zP_last rfl] at hj
    cases hj
    exact hc
def zdf : Nat → Value
  | 0 => .int 0
  | 1 => .long 0
  | _ => .null
/-- from a place on, nothing is there yet -/
def zZr (σ : zSt) : Prop := ∀ i, σ.1.length ≤ i → (∀ k, σ.2.1 i k = 0) ∧ (∀ k, σ.2.2.1 i k = 0) ∧ (∀ k, σ.2.2.2 i k = none)
theorem zZr_P {kd : Nat × Nat} (h : zZr σ) : zZr (zP σ kd) := fun i hi => h i (by rw [zP_len rfl] at hi; omega)
theorem zZr_I {v : Int} (h : zZr σ) (hi : i < σ.1.length) : zZr (zI σ i k v) := fun j hj => by
  have h1 := h j hj
  have hne : j ≠ i := by have hj : σ.1.length ≤ j := hj; omega
  exact ⟨fun q => (zu_n (fun z => hne z.1)).trans (h1.1 q), h1.2.1, h1.2.2⟩
theorem zZr_J {v : Int64} (h : zZr σ) (hi : i < σ.1.length) : zZr (zJ σ i k v) := fun j hj => by
  have h1 := h j hj
  have hne : j ≠ i := by have hj : σ.1.length ≤ j := hj; omega
  exact ⟨h1.1, fun q => (zu_n (fun z => hne z.1)).trans (h1.2.1 q), h1.2.2⟩
theorem zZr_O {v : Nat} (h : zZr σ) (hi : i < σ.1.length) : zZr (zO σ i k v) := fun j hj => by
  have h1 := h j hj
  have hne : j ≠ i := by have hj : σ.1.length ≤ j := hj; omega
  exact ⟨h1.1, h1.2.1, fun q => (zu_n (fun z => hne z.1)).trans (h1.2.2 q)⟩
theorem zfs_zero {m : Nat} (hI : ∀ k, σ.2.1 m k = 0) (hJ : ∀ k, σ.2.2.1 m k = 0) (hO : ∀ k, σ.2.2.2 m k = none) : ∀ (ts : List Nat) (k : Nat), zfs g σ m ts k = ts.map zdf
  | [], _ => rfl
  | t :: ts, k => by
    simp only [zfs, List.map_cons]
    rw [zfs_zero hI hJ hO ts (k + 1)]
    congr 1
    match t with
    | 0 => simp only [zfv, zdf]; rw [hI]; rfl
    | 1 => simp only [zfv, zdf]; rw [hJ]
    | t + 2 => simp only [zfv, zdf]; rw [hO]; rfl
theorem z_new (C : zC g X M d mc ms) (K : zCl ci R T N ty) (hdf : ∀ j, j < N → defaultValue (ty j) = vp_V ((zft ci).map zdf) j) (hcl : Cond.classLink M.1.cls idx R ∈ zTb) (hins : Cond.instantiable R N ∈ zTb) (hini : Cond.initialized R ∈ zTb) (hz : zZr σ) {m : Nat} (hm : σ.1.length = m) (hl : m < 74) (hc : nc + 1 ≤ mc) (hs : ns + N ≤ ms)
    (hd : decode M.2.1 pc = .ok (.new idx, 3)) (kk : zZ g X (nc + 1) (ns + N) (zP σ (ci, N)) (pc + 3) L (.ref m :: S)) : zZ g X nc ns σ pc L S := by
  subst hm
  intro H locs ls hH hS hlv
  have hts := C.2.2.2.2.1
  have hKn := C.2.2.2.2.2.2.2.2.2.1.1.1 ci _ K.2.1
  have hsz : H.size = za g σ.1.length := by rw [za_lt (by omega)]; exact hH.2.1 hl
  have hz0 := hz _ (Nat.le_refl _)
  refine W.newcK C.1 C.2.1 C.2.2.2.1 (hts _ hcl) (hts _ hins) (hts _ hini) rfl hd (Nat.le_trans hc C.2.2.2.2.2.2.2.2.1.1) (Nat.le_trans hs C.2.2.2.2.2.2.2.2.1.2) hKn.2.1 hsz (fun H1 kC hkC e1 z1 o1 => ?_)
  rw [← hsz] at z1 o1
  refine kk H1 _ ls (zHp_new hH hl z1 o1 ?_) ⟨Nat.le_trans hS.1 (by omega), fun x h1 h2 => (o1 x (Nat.lt_of_lt_of_le h1 hS.1)).trans (hS.2.1 x h1 h2), hS.2.2⟩ hlv
  rw [zE, if_pos K.1, zfs_zero hz0.1 hz0.2.1 hz0.2.2]
  exact ⟨_, K.2.1, (u_born ty hts K.2.2.1 hKn hkC e1 K.2.2.2.1).to hdf⟩
theorem z_newr (C : zC g X M d mc ms) {atype : ArrayType} (t kd : Nat) (ht : (zTy g)[t]? = some (zcy g t, newarray.typeOf atype)) (hno : ∀ q, newarray.typeOf atype ≠ .object q) (harr : Cond.arrayClass (newarray.typeOf atype) ∈ zTb) {m : Nat} (hm : σ.1.length = m) (hl : m < 74) (hn : n < 2 ^ 20) (hc : nc + 1 ≤ mc) (hs : ns + n ≤ ms)
    (hcell : ∃ a0 : vp_A, zE g σ m (kd, n) = .inl (zcy g t, a0) ∧ vp_cell (zcy g t) a0 = arrV (zcy g t) n (fun _ => defaultValue (newarray.typeOf atype))) (hb : componentBytes (newarray.typeOf atype) ≤ 8)
    {v : Int} (hv : v = (n : Int)) (hd : decode M.2.1 pc = .ok (.newarray atype, 2)) (kk : zZ g X (nc + 1) (ns + n) (zP σ (kd, n)) (pc + 2) L (.ref m :: S)) : zZ g X nc ns σ pc L (.int (iI v) :: S) := by
  subst hm
  subst hv
  rw [← iI_nI]
  intro H locs ls hH hS hlv
  have hts := C.2.2.2.2.1
  have hsz : H.size = za g σ.1.length := by rw [za_lt (by omega)]; exact hH.2.1 hl
  refine va_newaK C.1 C.2.1 (hts _ harr) rfl hd rfl (n := nI n) (N := n) (fun q => ?_) (nI_clamp (show n < 2 ^ 31 by omega)) ?_ (Nat.le_trans hc C.2.2.2.2.2.2.2.2.1.1) (Nat.le_trans hs C.2.2.2.2.2.2.2.2.1.2) hsz (fun H1 cA e1 z1 o1 hAr hNm => ?_)
  · rw [iI_nI, show (0 : Int32) = iI 0 from rfl, iI_lt (by omega) (by omega)] at q
    omega
  · exact Nat.le_trans (Nat.mul_le_mul_left n hb) (by omega)
  · rw [← hsz] at z1 o1
    refine kk H1 _ ls (zHp_new hH hl z1 o1 ?_) ⟨Nat.le_trans hS.1 (by omega), fun x h1 h2 => (o1 x (Nat.lt_of_lt_of_le h1 hS.1)).trans (hS.2.1 x h1 h2), hS.2.2⟩ hlv
    have hra := (C.2.2.2.2.2.2.2.2.2.1.1.2 t _ ht).2
    have hca : (xs X).vm.findClass ("[" ++ (newarray.typeOf atype).toString) = some (zcy g t) := by
      revert hra hno
      simp only [va_RA]
      cases atype <;> exact fun _ hra => hra
    have hcA : cA = zcy g t := Option.some.inj (hNm.symm.trans hca)
    subst hcA
    obtain ⟨a0, g1, g2⟩ := hcell
    rw [g1]
    show H1[za g σ.1.length]? = some (vp_cell _ _)
    rw [e1]
    exact congrArg some g2.symm
theorem z_newI (C : zC g X M d mc ms) (harr : Cond.arrayClass .int ∈ zTb) (hz : zZr σ) {m : Nat} (hm : σ.1.length = m) (hl : m < 74) (hn : n < 2 ^ 20) (hc : nc + 1 ≤ mc) (hs : ns + n ≤ ms) {v : Int} (hv : v = (n : Int)) (hd : decode M.2.1 pc = .ok (.newarray .int, 2)) (kk : zZ g X (nc + 1) (ns + n) (zP σ (7, n)) (pc + 2) L (.ref m :: S)) : zZ g X nc ns σ pc L (.int (iI v) :: S) :=
  z_newr (atype := .int) C 0 7 rfl (fun _ h => by cases h) harr hm hl hn hc hs ⟨_, zE_7, by
    rw [vp_cell_i]
    congr 1
    funext j
    rw [(hz m (by omega)).1]
    rfl⟩ (by decide) hv hd kk
theorem z_newJ (C : zC g X M d mc ms) (harr : Cond.arrayClass .long ∈ zTb) (hz : zZr σ) {m : Nat} (hm : σ.1.length = m) (hl : m < 74) (hn : n < 2 ^ 20) (hc : nc + 1 ≤ mc) (hs : ns + n ≤ ms) {v : Int} (hv : v = (n : Int)) (hd : decode M.2.1 pc = .ok (.newarray .long, 2)) (kk : zZ g X (nc + 1) (ns + n) (zP σ (8, n)) (pc + 2) L (.ref m :: S)) : zZ g X nc ns σ pc L (.int (iI v) :: S) :=
  z_newr (atype := .long) C 1 8 rfl (fun _ h => by cases h) harr hm hl hn hc hs ⟨_, zE_8, by
    rw [vp_cell_l]
    congr 1
    funext j
    rw [(hz m (by omega)).2.1]
    rfl⟩ (by decide) hv hd kk
theorem z_newZ (C : zC g X M d mc ms) (harr : Cond.arrayClass .boolean ∈ zTb) (hz : zZr σ) {m : Nat} (hm : σ.1.length = m) (hl : m < 74) (hn : n < 2 ^ 20) (hc : nc + 1 ≤ mc) (hs : ns + n ≤ ms) {v : Int} (hv : v = (n : Int)) (hd : decode M.2.1 pc = .ok (.newarray .boolean, 2)) (kk : zZ g X (nc + 1) (ns + n) (zP σ (9, n)) (pc + 2) L (.ref m :: S)) : zZ g X nc ns σ pc L (.int (iI v) :: S) :=
  z_newr (atype := .boolean) C 2 9 rfl (fun _ h => by cases h) harr hm hl hn hc hs ⟨_, zE_9, by
    rw [vp_cell_i]
    congr 1
    funext j
    rw [(hz m (by omega)).1]
    rfl⟩ (by decide) hv hd kk
theorem z_anew (C : zC g X M d mc ms) (t kd : Nat) (ht : (zTy g)[t]? = some (zcy g t, .object R)) (hov : va_AO R (xs X)) (hcl : Cond.classLink M.1.cls idx R ∈ zTb) (hz : zZr σ) {m : Nat} (hm : σ.1.length = m) (hl : m < 74) (hn : n < 2 ^ 20) (hc : nc + 1 ≤ mc) (hs : ns + n ≤ ms)
    (hcell : zE g σ m (kd, n) = .inl (zcy g t, n, .inr (.inr (.inr (.inr (fun k => (σ.2.2.2 m k).map (za g)))))))
    {v : Int} (hv : v = (n : Int)) (hd : decode M.2.1 pc = .ok (.anewarray idx, 3)) (kk : zZ g X (nc + 1) (ns + n) (zP σ (kd, n)) (pc + 3) L (.ref m :: S)) : zZ g X nc ns σ pc L (.int (iI v) :: S) := by
  subst hm
  subst hv
  rw [← iI_nI]
  intro H locs ls hH hS hlv
  have hts := C.2.2.2.2.1
  have hsz : H.size = za g σ.1.length := by rw [za_lt (by omega)]; exact hH.2.1 hl
  have hcn : (nI n).toNatClampNeg = n := nI_clamp (show n < 2 ^ 31 by omega)
  refine W.anew C.1 C.2.1 C.2.2.2.1 (hts _ hcl) (va_AO.use hov) rfl hd rfl (n := nI n) (fun q => ?_) (by rw [hcn]; omega) (Nat.le_trans hc C.2.2.2.2.2.2.2.2.1.1) (by rw [hcn]; exact Nat.le_trans hs C.2.2.2.2.2.2.2.2.1.2) (fun cA kA comp f1 f2 f3 f4 => ?_)
  · rw [iI_nI, show (0 : Int32) = iI 0 from rfl, iI_lt (by omega) (by omega)] at q
    omega
  rw [hcn]
  generalize hH1 : H.push ({ cls := cA, slots := Array.replicate n .null, vm := .none } : Cell) = H1
  have z1 : H1.size = H.size + 1 := by rw [← hH1, Array.size_push]
  have e1 : H1[H.size]? = some (arrV cA n (fun _ => .null)) := by rw [← hH1, Array.getElem?_push_size, ← arrV_new]
  have o1 : ∀ q : Nat, q < H.size → H1[q]? = H[q]? := fun q hq => by rw [← hH1, Array.getElem?_push, if_neg (Nat.ne_of_lt hq)]
  obtain ⟨kA', comp', -, -, -, h4⟩ := (C.2.2.2.2.2.2.2.2.2.1.1.2 t _ ht).2
  have hcA : cA = zcy g t := Option.some.inj (f1.symm.trans h4)
  subst hcA
  have hq := kk H1 locs ls (zHp_new hH hl z1 o1 (by
    rw [hcell]
    show H1[za g σ.1.length]? = some (vp_cell _ _)
    rw [← hsz, e1, vp_cell_q]
    congr 2
    funext j
    rw [(hz _ (Nat.le_refl _)).2.2]
    rfl)) ⟨Nat.le_trans hS.1 (by omega), fun x h1 h2 => (o1 x (Nat.lt_of_lt_of_le h1 hS.1)).trans (hS.2.1 x h1 h2), hS.2.2⟩ hlv
  rw [hsz]
  exact hq
theorem z_aast (C : zC g X M d mc ms) {j : Int} (e t : Nat) (b : Nat) {r : vw_C} {nb : Nat} (hj : j = e) (ht : (zTy g)[t]? = some (zcy g t, .object r.1)) (hrow : ∀ τ : zSt, zE g τ i (k, n) = .inl (zcy g t, n, .inr (.inr (.inr (.inr (fun q => (τ.2.2.2 i q).map (za g))))))) (hi : σ.1[i]? = some (k, n)) (he : e < n) (hn : n < 2 ^ 31) (hb : σ.1[b]? = some (ci, nb)) (hlt : ci < 7) (hr : vwCl[ci]? = some r)
    (hd : decode M.2.1 pc = .ok (.aastore, 1)) (kk : zZ g X nc ns (zO σ i e b) (pc + 1) L S) : zZ g X nc ns σ pc L (.ref b :: .int (iI j) :: .ref i :: S) := by
  subst hj
  rw [← iI_nI]
  intro H locs ls hH hS hl
  have hK := C.2.2.2.2.2.2.2.2.2.1.1
  have hro : H[za g i]? = some (vp_cell (zcy g t) (n, .inr (.inr (.inr (.inr (fun q => (σ.2.2.2 i q).map (za g))))))) := by
    have h1 := hH.2.2.2 i _ hi
    rw [hrow σ] at h1
    exact h1
  obtain ⟨r', hr', cellV, g1, g2, g3, -⟩ := hH.obj hb hlt
  have hcls := (hK.1 ci r hr).2
  obtain ⟨kA, comp, k1, k2, k3, -⟩ := (hK.2 t _ ht).2
  have hcomp : comp = (zD g).1 ci := Option.some.inj (k3.symm.trans hcls.1)
  subst hcomp
  obtain ⟨kC, hkC, -⟩ := hcls.2
  have hcn : (nI e).toNatClampNeg = e := nI_clamp (show e < 2 ^ 31 by omega)
  have hin := vp_in_nI he hn
  refine W.aast C.1 C.2.1 hro (fun q h => by cases h) (fun h => by cases h) k1 k2 rfl hkC ⟨fun q => hin (Or.inl q), by show _ < (arrV _ _ _).slots.size; rw [arrV_size]; exact Nat.not_le.mp fun q => hin (Or.inr q)⟩ g1 (fun q h => by rw [g3] at h; cases h) (by rw [g2]; exact hkC) (by rw [g2]; exact va_assign hcls) rfl rfl hd fun H1 e2 z oq => ?_
  rw [hcn] at e2
  refine kk H1 _ ls (hH.put (σ' := zO σ i e b) rfl hi z oq ?_ (fun j kj h => zO_ne j kj h)) (hS.put z oq (zA_in hH hi)) hl
  rw [hrow]
  show H1[za g i]? = some (vp_cell _ _)
  rw [e2, vp_cell_q, vp_cell_q, arrV_store]
  congr 2
  funext q
  by_cases hq : q = e
  · subst hq
    simp [updV, va_rf, zu]
  · simp [updV, hq, zu]
end ZBu
