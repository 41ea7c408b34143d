/-! System.arraycopy, over the whole world -/
def zWs (g : zG) (σ : zSt) : va_W := (List.range σ.1.length).map (fun i => (za g i, zE g σ i (σ.1.getD i (0, 0))))
section ZP
variable {g : zG} {X : zX} {M : zM} {d mc ms nc ns : Nat} {σ : zSt} {pc : Nat} {L : List (Nat × Value)} {S : List Value} {idx : Nat}
theorem zWs_at {i : Nat} {kd : Nat × Nat} (hi : σ.1[i]? = some kd) : (zWs g σ)[i]? = some (za g i, zE g σ i kd) := by
  have hl := (List.getElem?_eq_some_iff.mp hi).1
  have he : σ.1[i] = kd := Option.some.inj ((List.getElem?_eq_getElem hl).symm.trans hi)
  simp [zWs, hl, he]
theorem zWs_of {k : Nat} {q : Nat × va_E} (h : (zWs g σ)[k]? = some q) : ∃ kd, σ.1[k]? = some kd ∧ q = (za g k, zE g σ k kd) := by
  have hl : k < σ.1.length := by
    have := (List.getElem?_eq_some_iff.mp h).1
    simpa [zWs] using this
  refine ⟨σ.1[k], List.getElem?_eq_getElem hl, ?_⟩
  have h2 := zWs_at (g := g) (List.getElem?_eq_getElem hl)
  exact (Option.some.inj (h2.symm.trans h)).symm
theorem zHp.ws {H : Heap} (h : zHp g σ H) : va_P (zD g) vwCl (zWs g σ) H := by
  intro k q hk
  obtain ⟨kd, h1, rfl⟩ := zWs_of hk
  exact h.2.2.2 k kd h1
theorem zHp.wd {H : Heap} (h : zHp g σ H) : va_D (zA g) (zWs g σ) := by
  refine ⟨fun i j p q hi hj e => ?_, fun k q hk => ?_⟩
  · obtain ⟨k1, a1, rfl⟩ := zWs_of hi
    obtain ⟨k2, a2, rfl⟩ := zWs_of hj
    simp only [(h.ad a1).1, (h.ad a2).1] at e
    omega
  · obtain ⟨kd, h1, rfl⟩ := zWs_of hk
    exact zA_in h h1
theorem zHp.set {H H1 : Heap} (h : zHp g σ H) (hN : zNA ≤ σ.1.length) {σ' : zSt} (h1 : σ'.1 = σ.1) {i : Nat} {kd : Nat × Nat} {e : va_E} (hi : σ.1[i]? = some kd) (hP : va_P (zD g) vwCl ((zWs g σ).set i (za g i, e)) H1) (he : zE g σ' i kd = e) (hs : ∀ j kj, j ≠ i → zE g σ' j kj = zE g σ j kj) : zHp g σ' H1 := by
  have hc : ∀ j kj, σ'.1[j]? = some kj → va_at (zD g) vwCl (za g j, zE g σ' j kj) H1 := by
    intro j kj hj
    rw [h1] at hj
    have hw := zWs_at (g := g) hj
    by_cases q : j = i
    · subst q
      cases hj.symm.trans hi
      rw [he]
      exact hP j _ (List.getElem?_set_self (List.getElem?_eq_some_iff.mp hw).1)
    · rw [hs j kj q]
      exact hP j _ (by rw [List.getElem?_set_ne (Ne.symm q)]; exact hw)
  have hlen : 0 < σ.1.length := Nat.lt_of_lt_of_le (by decide) hN
  have hl : σ.1.length - 1 < σ.1.length := by omega
  have h5 := (hc (σ.1.length - 1) σ.1[σ.1.length - 1] (by rw [h1]; exact List.getElem?_eq_getElem hl)).lt
  have h6 := (h.ad (List.getElem?_eq_getElem hl)).1
  simp only [h6] at h5
  refine ⟨by rw [h1]; omega, fun q => ?_, by rw [h1]; exact h.2.2.1, hc⟩
  rw [h1] at q
  omega
def zcp {α : Type} (f : Nat → Nat → α) (a b sp dp n : Nat) : Nat → Nat → α := fun i k => if i = b then va_cpy (f a) (f b) sp dp n k else f i k
theorem zcp_b {α : Type} {f : Nat → Nat → α} {a b sp dp n : Nat} : zcp f a b sp dp n b = va_cpy (f a) (f b) sp dp n := by
  funext k
  simp [zcp]
theorem zcp_ne {α : Type} {f : Nat → Nat → α} {a b sp dp n i : Nat} (h : i ≠ b) : zcp f a b sp dp n i = f i := by
  funext k
  simp [zcp, h]
abbrev zcpI (σ : zSt) (a b sp dp n : Nat) : zSt := (σ.1, zcp σ.2.1 a b sp dp n, σ.2.2.1, σ.2.2.2)
abbrev zcpJ (σ : zSt) (a b sp dp n : Nat) : zSt := (σ.1, σ.2.1, zcp σ.2.2.1 a b sp dp n, σ.2.2.2)
theorem zcp_iI (f g : Nat → Int) (sp dp n : Nat) : (va_cpy (fun k => iI (f k)) (fun k => iI (g k)) sp dp n) = fun k => iI (va_cpy f g sp dp n k) := by
  funext k
  simp only [va_cpy]
  split <;> rfl
theorem znfw : nativeFrameWords "java/lang/System" "arraycopy" 5 + 11 ≤ 40 := by decide
theorem z_cpI (C : zC g X M d mc ms) (hlk : Cond.methodLink M.1.cls idx arraycopyName ∈ zTb) (hnat : Cond.native arraycopyName ∈ zTb) (hst : Cond.static arraycopyName ∈ zTb) (hini : Cond.initialized "java/lang/System" ∈ zTb) {x y z : Int} {a b n0 n1 : Nat} (sp dp n : Nat) (hx : x = sp) (hy : y = dp) (hz : z = n) (ha : σ.1[a]? = some (7, n0)) (hb : σ.1[b]? = some (7, n1)) (h0 : sp + n ≤ n0) (h1 : dp + n ≤ n1) (hs0 : n0 < 2 ^ 30) (hs1 : n1 < 2 ^ 30) (hN : zNA ≤ σ.1.length) (h1d : 1 ≤ d) (hw : (S.map fun v => v.category).sum ≤ 8)
    (hd : decode M.2.1 pc = .ok (.invokestatic idx, 3)) (kk : zZ g X nc ns (zcpI σ a b sp dp n) (pc + 3) L S) : zZ g X nc ns σ pc L (.int (iI z) :: .int (iI y) :: .ref b :: .int (iI x) :: .ref a :: S) := by
  subst hx; subst hy; subst hz
  intro H locs ls hH hS hl
  have hts := C.2.2.2.2.1
  have wa := zWs_at (g := g) ha
  have wb := zWs_at (g := g) hb
  rw [zE_7] at wa wb
  have hr := C.2.2.2.2.2.2.2.1
  have hm := C.2.2.1
  have c1 : (iI (sp : Int)).toNatClampNeg = sp := nI_clamp (n := sp) (by omega)
  have c2 : (iI (dp : Int)).toNatClampNeg = dp := nI_clamp (n := dp) (by omega)
  have c3 : (iI (n : Int)).toNatClampNeg = n := nI_clamp (n := n) (by omega)
  refine va_copyi (D := zD g) (cl := vwCl) (tys := zTy g) (ty := .int) C.1 C.2.1 hl.1.symm C.2.2.2.1 (hts _ hlk) (hts _ hnat) (hts _ hst) (hts _ hini) C.2.2.2.2.2.2.2.2.2.1.1 hH.ws hH.wd hS a b 0 0 wa wb rfl rfl rfl (nI_pos (n := sp) (by omega)) (nI_pos (n := dp) (by omega)) (nI_pos (n := n) (by omega)) (by rw [c1, c3]; exact h0) (by rw [c2, c3]; exact h1) (fun _ _ => rfl) (by omega) (by rw [zcat]; have := znfw; omega) hd (fun H1 locs1 hP hD hS1 => ?_)
  rw [c1, c2, c3, zcp_iI] at hP
  exact kk H1 locs1 ls (hH.set hN (σ' := zcpI σ a b sp dp n) rfl hb hP (by rw [zE_7]; simp only [zcp_b]) (fun j kj h => zE_cong kj (zcp_ne h) rfl rfl)) hS1 hl
theorem z_cpJ (C : zC g X M d mc ms) (hlk : Cond.methodLink M.1.cls idx arraycopyName ∈ zTb) (hnat : Cond.native arraycopyName ∈ zTb) (hst : Cond.static arraycopyName ∈ zTb) (hini : Cond.initialized "java/lang/System" ∈ zTb) {x y z : Int} {a b n0 n1 : Nat} (sp dp n : Nat) (hx : x = sp) (hy : y = dp) (hz : z = n) (ha : σ.1[a]? = some (8, n0)) (hb : σ.1[b]? = some (8, n1)) (h0 : sp + n ≤ n0) (h1 : dp + n ≤ n1) (hs0 : n0 < 2 ^ 30) (hs1 : n1 < 2 ^ 30) (hN : zNA ≤ σ.1.length) (h1d : 1 ≤ d) (hw : (S.map fun v => v.category).sum ≤ 8)
    (hd : decode M.2.1 pc = .ok (.invokestatic idx, 3)) (kk : zZ g X nc ns (zcpJ σ a b sp dp n) (pc + 3) L S) : zZ g X nc ns σ pc L (.int (iI z) :: .int (iI y) :: .ref b :: .int (iI x) :: .ref a :: S) := by
  subst hx; subst hy; subst hz
  intro H locs ls hH hS hl
  have hts := C.2.2.2.2.1
  have wa := zWs_at (g := g) ha
  have wb := zWs_at (g := g) hb
  rw [zE_8] at wa wb
  have hr := C.2.2.2.2.2.2.2.1
  have hm := C.2.2.1
  have c1 : (iI (sp : Int)).toNatClampNeg = sp := nI_clamp (n := sp) (by omega)
  have c2 : (iI (dp : Int)).toNatClampNeg = dp := nI_clamp (n := dp) (by omega)
  have c3 : (iI (n : Int)).toNatClampNeg = n := nI_clamp (n := n) (by omega)
  refine va_copyl (D := zD g) (cl := vwCl) (tys := zTy g) (ty := .long) C.1 C.2.1 hl.1.symm C.2.2.2.1 (hts _ hlk) (hts _ hnat) (hts _ hst) (hts _ hini) C.2.2.2.2.2.2.2.2.2.1.1 hH.ws hH.wd hS a b 1 1 wa wb rfl rfl rfl (nI_pos (n := sp) (by omega)) (nI_pos (n := dp) (by omega)) (nI_pos (n := n) (by omega)) (by rw [c1, c3]; exact h0) (by rw [c2, c3]; exact h1) (fun _ _ => rfl) (by omega) (by rw [zcat]; have := znfw; omega) hd (fun H1 locs1 hP hD hS1 => ?_)
  rw [c1, c2, c3] at hP
  exact kk H1 locs1 ls (hH.set hN (σ' := zcpJ σ a b sp dp n) rfl hb hP (by rw [zE_8]; simp only [zcp_b]) (fun j kj h => zE_cong kj rfl (zcp_ne h) rfl)) hS1 hl
end ZP
