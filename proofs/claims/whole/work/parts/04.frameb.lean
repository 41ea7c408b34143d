/-! what a walk stands in -/
abbrev zX : Type := Program × Env × Room × State × MethodId × Array Value × List Frame × Method × Code × (State → Prop)
abbrev xp (X : zX) : Program := X.1
abbrev xe (X : zX) : Env := X.2.1
abbrev xR (X : zX) : Room := X.2.2.1
abbrev xs (X : zX) : State := X.2.2.2.1
abbrev xm (X : zX) : MethodId := X.2.2.2.2.1
abbrev xa (X : zX) : Array Value := X.2.2.2.2.2.1
abbrev xb (X : zX) : List Frame := X.2.2.2.2.2.2.1
abbrev xh (X : zX) : Method := X.2.2.2.2.2.2.2.1
abbrev xc (X : zX) : Code := X.2.2.2.2.2.2.2.2.1
abbrev xQ (X : zX) : State → Prop := X.2.2.2.2.2.2.2.2.2
/-- a method: name, bytes, locals, type of the answer -/
abbrev zM : Type := MethodName × ByteArray × Nat × Option FieldType
def zTb : List Cond := lw_tbl.filter goodWord
theorem zTb_of {w : Cond} (h : w ∈ lw_tbl) (hg : goodWord w = true) : w ∈ zTb := List.mem_filter.mpr ⟨h, hg⟩
def zws (M : zM) : List Cond := .code M.1 M.2.1 M.2.2.1 M.2.2.2 :: zTb
def zC (g : zG) (X : zX) (M : zM) (d mc ms : Nat) : Prop :=
  (xp X).tables.exec = Jvm.exec ∧ (xc X).code = M.2.1 ∧ (xc X).maxLocals = M.2.2.1 ∧ (xs X).vm.findClass M.1.cls = some (xm X).cls ∧ (∀ w ∈ zTb, w.before (xa X) (xs X) = true) ∧
  (xh X).sig.returnType = M.2.2.2 ∧ (xh X).locks = false ∧ (d ≤ (xR X).frames ∧ 64 * d ≤ (xR X).locals) ∧ (mc ≤ (xR X).cells ∧ ms ≤ (xR X).slots) ∧ zF g (xs X) (xs X).heap ∧ zbs g ≤ (xs X).heap.size ∧ ((xh X).name = M.1.name)
def zLm (g : zG) (L : List (Nat × Value)) : List (Nat × Value) := L.map (fun q => (q.1, zv g q.2))
/-- from here the walk comes to its end -/
def zZ (g : zG) (X : zX) (nc ns : Nat) (σ : zSt) (pc : Nat) (L : List (Nat × Value)) (S : List Value) : Prop :=
  ∀ (H : Heap) (locs : List Loc) (ls : Array Slot), zHp g σ H → va_S (zA g) (xs X).heap H locs → lv_has ls (xc X).maxLocals (zLm g L) →
    W (xp X) (zl g) (xe X) (xR X) (xs X) (xm X) (xa X) (xb X) (xh X) (xc X) H locs nc ns (xQ X) (F0 (xm X) pc ls (S.map (zv g)))
theorem zv_cat (g : zG) (v : Value) : (zv g v).category = v.category := by cases v <;> rfl
theorem zLm_args (g : zG) : ∀ (vs : List Value) (i : Nat), lv_args i (vs.map (zv g)) = zLm g (lv_args i vs)
  | [], _ => rfl
  | v :: vs, i => by
    simp only [List.map_cons, lv_args, zLm, zv_cat]
    rw [zLm_args g vs]
    rfl
theorem zLm_filter (g : zG) (L : List (Nat × Value)) (f : Nat → Nat → Bool) : (zLm g L).filter (fun q => f q.1 q.2.category) = zLm g (L.filter (fun q => f q.1 q.2.category)) := by
  simp only [zLm, List.filter_map]
  congr 2
  funext q
  simp [zv_cat]
/-- storing a value of one slot, of two -/
def zput1 (i : Nat) (v : Value) (L : List (Nat × Value)) : List (Nat × Value) := (i, v) :: L.filter (fun q => !(q.1 == i) && !(q.1 + 1 == i && q.2.category == 2))
def zput2 (i : Nat) (v : Value) (L : List (Nat × Value)) : List (Nat × Value) := (i, v) :: L.filter (fun q => !(q.1 == i) && (!(q.1 == i + 1) && !(q.1 + 1 == i && q.2.category == 2)))
theorem zput1_m (g : zG) (i : Nat) (v : Value) (L : List (Nat × Value)) : (i, zv g v) :: (zLm g L).filter (fun q => !(q.1 == i) && !(q.1 + 1 == i && q.2.category == 2)) = zLm g (zput1 i v L) := by
  rw [zLm_filter g L (fun a c => !(a == i) && !(a + 1 == i && c == 2))]
  rfl
theorem zput2_m (g : zG) (i : Nat) (v : Value) (L : List (Nat × Value)) : (i, zv g v) :: (zLm g L).filter (fun q => !(q.1 == i) && (!(q.1 == i + 1) && !(q.1 + 1 == i && q.2.category == 2))) = zLm g (zput2 i v L) := by
  rw [zLm_filter g L (fun a c => !(a == i) && (!(a == i + 1) && !(a + 1 == i && c == 2)))]
  rfl
theorem zL_at {g : zG} {ls : Array Slot} {n : Nat} {L : List (Nat × Value)} (h : lv_has ls n (zLm g L)) (k : Nat) {i : Nat} {v : Value} (hk : L[k]? = some (i, v)) : ls[i]? = some (.val (zv g v)) :=
  lv_at h k (by simp [zLm, hk])
theorem zL_sub {g : zG} {ls : Array Slot} {n : Nat} {L L' : List (Nat × Value)} (h : lv_has ls n (zLm g L)) (ks : List Nat) (hl : lv_pick L ks = L') : lv_has ls n (zLm g L') := by
  refine lv_sub h ks ?_
  subst hl
  simp only [lv_pick, zLm, List.map_filterMap]
  congr 1
  funext k
  simp
/-- fewer locals are known behind -/
theorem zZ_sub {g : zG} {X : zX} {nc ns : Nat} {σ : zSt} {pc : Nat} {L L' : List (Nat × Value)} {S : List Value} (ks : List Nat) (hl : lv_pick L ks = L') (k : zZ g X nc ns σ pc L' S) : zZ g X nc ns σ pc L S :=
  fun H locs ls hH hS h => k H locs ls hH hS (zL_sub h ks hl)
theorem zZ_cast {g : zG} {X : zX} {nc ns : Nat} {σ σ' : zSt} {pc : Nat} {L L' : List (Nat × Value)} {S S' : List Value} (hσ : σ = σ') (hL : L = L') (hS : S = S') (k : zZ g X nc ns σ' pc L' S') : zZ g X nc ns σ pc L S := by
  subst hσ; subst hL; subst hS; exact k
/-- contracts -/
def zQc (g : zG) (post : Option Value → zSt → Prop) : Array Value → State → Outcome → State → Prop := fun _ st oc t => (∃ (r : Option Value) (σ' : zSt), oc = .returned (r.map (zv g)) ∧ post r σ' ∧ zHp g σ' t.heap) ∧ va_F (zA g) st t
def zRm (d mc ms : Nat) : Room := { frames := d, cells := mc, slots := ms, locals := 64 * d }
def zRuns (g : zG) (M : zM) (d mc ms : Nat) (as : List Value) (σ : zSt) (post : Option Value → zSt → Prop) : Prop :=
  Met (zl g) M.1 (zws M) (zRm d mc ms) (va_Pc (as.map (zv g)) (fun U => zHp g σ U.heap ∧ zF g U U.heap)) (zQc g post) mc ms (zA g)
def zIs (r : Option Value) (σ : zSt) : Option Value → zSt → Prop := fun r1 σ1 => r1 = r ∧ σ1 = σ
abbrev zRun (g : zG) (M : zM) (d : Nat) (as : List Value) (σ : zSt) (r : Option Value) (σ' : zSt) : Prop := zRuns g M d 0 0 as σ (zIs r σ')
/-- where a walk of a contract ends -/
def zR (g : zG) (X : zX) (mc ms : Nat) (post : Option Value → zSt → Prop) : Prop := xQ X = MQ (xb X) (zQc g post) (xa X) (xs X) mc ms (zA g)
theorem zRuns_intro {g : zG} {M : zM} {d mc ms : Nat} {as : List Value} {σ : zSt} {post : Option Value → zSt → Prop} (hy : plainName M.1.cls = true) (hl : (lg_sl as).length ≤ M.2.2.1)
    (h : ∀ X : zX, zC g X M d mc ms → zR g X mc ms post → zZ g X 0 0 σ 0 (lv_args 0 as) []) : zRuns g M d mc ms as σ post := by
  refine Met.ofW (cc := M.2.1) (maxL := M.2.2.1) (ret := M.2.2.2) hy rfl ?_
  intro p e s m args below meth c s₁ B hml hv
  obtain ⟨rfl, hH, hF⟩ := hv
  have hts := atoms_spec (ws := zws M) B.pre
  have hX := h (p, e, zRm d mc ms, s, m, (as.map (zv g)).toArray, below, meth, c, MQ below (zQc g post) (as.map (zv g)).toArray s mc ms (zA g))
    ⟨B.exec, B.bytes, hml, findClass_of_methodNamed B.named, fun w hw => hts w (List.mem_cons_of_mem _ hw), B.returns, B.notSynchronized, ⟨Nat.le_refl _, Nat.le_refl _⟩, ⟨Nat.le_refl _, Nat.le_refl _⟩, hF, by show zbs g ≤ s.heap.size; exact Nat.le_trans (Nat.le_add_right _ _) hH.1, (name_of_methodNamed B.named B.method).1⟩ rfl
  have hlen : (lg_sl (as.map (zv g))).length ≤ M.2.2.1 := by
    have e : ∀ vs : List Value, (lg_sl (vs.map (zv g))).length = (lg_sl vs).length := by
      intro vs
      induction vs with
      | nil => rfl
      | cons v vs ih =>
        simp only [lg_sl, List.map_cons, List.flatMap_cons, List.length_append, zv_cat] at ih ⊢
        rw [ih]
        split <;> rfl
    rw [e]; exact hl
  have hls := lv_entry (as.map (zv g)) (n := M.2.2.1) hlen
  rw [lg_entry_eq]
  rw [zLm_args] at hls
  exact hX s.heap [] _ hH va_S.rf (by show lv_has _ c.maxLocals _; rw [hml]; exact hls)
section ZR
variable {g : zG} {X : zX} {M : zM} {d mc ms nc ns : Nat} {σ : zSt} {pc : Nat} {L : List (Nat × Value)} {S : List Value} {post : Option Value → zSt → Prop}
theorem zq_of {v : Option Value} {H : Heap} {locs : List Loc} (hp : post v σ) (hH : zHp g σ H) (hS : va_S (zA g) (xs X).heap H locs) : ∀ t : State, t.heap = H → (xs X).WarmedH t.vm → zQc g post (xa X) (xs X) (.returned (v.map (zv g))) t :=
  fun t ht _ => ⟨⟨v, σ, rfl, hp, by rw [ht]; exact hH⟩, hS.F ht⟩
theorem zZ_iret (C : zC g X M d mc ms) (hR : zR g X mc ms post) {v : Int32} (hc : nc ≤ mc) (hs : ns ≤ ms) (hd : decode M.2.1 pc = .ok (.ireturn, 1)) (ht : M.2.2.2 = some .int) (hp : post (some (.int v)) σ) : zZ g X nc ns σ pc L [.int v] := by
  intro H locs ls hH hS hl
  refine W.widen hc hs ?_
  rw [hR]
  exact W.iret (v := v) C.1 C.2.1 (C.2.2.2.2.2.1.trans ht) (zq_of (v := some (.int v)) hp hH hS) hS.2.2 hd C.2.2.2.2.2.2.1
theorem zb_nar {v : Int32} (h : v = 0 ∨ v = 1) : narrow .boolean (.int v) = .int v := by rcases h with rfl | rfl <;> decide
theorem zZ_zret (C : zC g X M d mc ms) (hR : zR g X mc ms post) {v : Int32} (hc : nc ≤ mc) (hs : ns ≤ ms) (hd : decode M.2.1 pc = .ok (.ireturn, 1)) (ht : M.2.2.2 = some .boolean) (hv : v = 0 ∨ v = 1) (hp : post (some (.int v)) σ) : zZ g X nc ns σ pc L [.int v] := by
  intro H locs ls hH hS hl
  refine W.widen hc hs ?_
  rw [hR]
  exact W.zret (v := v) C.1 C.2.1 (C.2.2.2.2.2.1.trans ht) (zb_nar hv) (zq_of (v := some (.int v)) hp hH hS) hS.2.2 hd C.2.2.2.2.2.2.1
theorem zZ_nret (C : zC g X M d mc ms) (hR : zR g X mc ms post) {v : Int32} {ty : FieldType} (hc : nc ≤ mc) (hs : ns ≤ ms) (hd : decode M.2.1 pc = .ok (.ireturn, 1)) (ht : M.2.2.2 = some ty) (hv : narrow ty (.int v) = .int v) (hp : post (some (.int v)) σ) : zZ g X nc ns σ pc L [.int v] := by
  intro H locs ls hH hS hl
  refine W.widen hc hs ?_
  rw [hR]
  exact W.zret (v := v) C.1 C.2.1 (C.2.2.2.2.2.1.trans ht) hv (zq_of (v := some (.int v)) hp hH hS) hS.2.2 hd C.2.2.2.2.2.2.1
theorem zZ_lret (C : zC g X M d mc ms) (hR : zR g X mc ms post) {v : Int64} (hc : nc ≤ mc) (hs : ns ≤ ms) (hd : decode M.2.1 pc = .ok (.lreturn, 1)) (ht : M.2.2.2 = some .long) (hp : post (some (.long v)) σ) : zZ g X nc ns σ pc L [.long v] := by
  intro H locs ls hH hS hl
  refine W.widen hc hs ?_
  rw [hR]
  exact W.lret (v := v) C.1 C.2.1 (C.2.2.2.2.2.1.trans ht) (zq_of (v := some (.long v)) hp hH hS) hS.2.2 hd C.2.2.2.2.2.2.1
theorem zZ_vret (C : zC g X M d mc ms) (hR : zR g X mc ms post) (hc : nc ≤ mc) (hs : ns ≤ ms) (hd : decode M.2.1 pc = .ok (.return_, 1)) (ht : M.2.2.2 = none) (hp : post none σ) : zZ g X nc ns σ pc L [] := by
  intro H locs ls hH hS hl
  refine W.widen hc hs ?_
  rw [hR]
  exact W.vret C.1 C.2.1 (C.2.2.2.2.2.1.trans ht) (zq_of (v := none) hp hH hS) hS.2.2 hd C.2.2.2.2.2.2.1
/-! calls -/
theorem zGood (M M' : zM) (h : Cond.code M'.1 M'.2.1 M'.2.2.1 M'.2.2.2 ∈ zTb) : GoodIn zTb (zws M') := by
  intro w hw
  have h2 : w ∈ zTb := by
    rcases List.mem_cons.mp hw with rfl | h1
    · exact h
    · exact h1
  exact ⟨h2, good_of_word (List.mem_filter.mp h2).2⟩
theorem zF.at (C : zC g X M d mc ms) {H : Heap} {locs : List Loc} (hS : va_S (zA g) (xs X).heap H locs) {U : State} (hU : U.heap = H) (hW : (xs X).WarmedH U.vm) : zF g U U.heap := by
  rw [hU]
  exact zF.moved hW (zF.kept C.2.2.2.2.2.2.2.2.2.1 (fun a h1 h2 => hS.2.1 a h1 h2))
variable {M' : zM} {d' mc' ms' : Nat} {as : List Value} {post' : Option Value → zSt → Prop}
theorem zcall {H : Heap} {locs : List Loc} {ls : Array Slot} {st0 : List Value} {a : Array Value} (hr : va_Run (xp X) (zl g) (xe X) (xR X) (xs X) (xm X) (xa X) (xb X) (xh X) (xc X) H locs nc ns mc' ms' (F0 (xm X) pc ls st0) (S.map (zv g)) (zQc g post' a) (zA g)) (hS : va_S (zA g) (xs X).heap H locs) (hl : lv_has ls (xc X).maxLocals (zLm g L))
    (kk : ∀ r σ', post' r σ' → zZ g X (nc + mc') (ns + ms') σ' (pc + 3) L (r.toList ++ S)) : W (xp X) (zl g) (xe X) (xR X) (xs X) (xm X) (xa X) (xb X) (xh X) (xc X) H locs nc ns (xQ X) (F0 (xm X) pc ls st0) := by
  intro T hT X0
  obtain ⟨v, st₀, t, T', Lc, h0, X', hL, e1, e2, ⟨⟨r, σ', hv, hp, hH'⟩, hz, hk⟩, st⟩ := hr T hT X0
  cases hv
  rw [h0] at hz hk
  have hq := kk r σ' hp T'.heap (locs ++ Lc) ls (by rw [e1]; exact hH') ⟨Nat.le_trans hS.1 (by rw [e1]; exact hz), fun q h1 h2 => by rw [e1, hk q (Nat.lt_of_lt_of_le h1 hS.1) h2]; exact hS.2.1 q h1 h2, fun q hq => by
      rcases List.mem_append.mp hq with h | h
      · exact hS.2.2 q h
      · exact hL q h⟩ hl
  have e : (r.toList ++ S).map (zv g) = (r.map (zv g)).toList ++ S.map (zv g) := by cases r <;> simp
  rw [e] at hq
  obtain ⟨t2, a1, b1⟩ := hq T' rfl X'
  exact ⟨t2, st t2 a1, b1⟩
theorem zFB : FrameBlind (va_Pc (as.map (zv g)) (fun U => zHp g σ U.heap ∧ zF g U U.heap)) := fun a U f mk q => ⟨q.1, q.2.1, zF.calling f mk a q.2.2⟩
theorem zcat (S : List Value) : ((S.map (zv g)).map fun v => v.category) = S.map fun v => v.category := by
  rw [List.map_map]
  congr 1
  funext v
  exact zv_cat g v
/-- what is said of a callee once: its code is among the words; it is initialised; how many values it takes -/
def zOk (M' : zM) (n : Nat) : Prop := Cond.code M'.1 M'.2.1 M'.2.2.1 M'.2.2.2 ∈ zTb ∧ Cond.initialized M'.1.cls ∈ zTb ∧ (M'.1.cls ≠ "java/lang/invoke/MethodHandle" ∧ M'.1.cls ≠ "java/lang/invoke/VarHandle" ∧ (parseMethodDescriptor M'.1.desc).map (fun q => q.parameters.length) = some n) ∧ M'.2.2.1 ≤ 40
/-- the room at a call -/
theorem zroom (C : zC g X M d mc ms) (hd' : d' + 1 ≤ d) (hm : M'.2.2.1 ≤ 40) : (zRm d' mc' ms').frames + 1 ≤ (xR X).frames ∧ 8 + (M'.2.2.1 + 11) + (zRm d' mc' ms').locals ≤ (xR X).locals := by
  have h1 := C.2.2.2.2.2.2.2.1
  simp only [zRm]
  omega
theorem zZ_callS {n : Nat} (C : zC g X M d mc ms) (ok : zOk M' n) (hst : Cond.static M'.1 ∈ zTb) {idx : Nat} (hlk : Cond.methodLink M.1.cls idx M'.1 ∈ zTb) (hR : zRuns g M' d' mc' ms' as σ post') (hn : as.length = n) (hd' : d' + 1 ≤ d) (hc : nc + mc' ≤ mc) (hs : ns + ms' ≤ ms) (hw : (S.map fun v => v.category).sum ≤ 8)
    (hd : decode M.2.1 pc = .ok (.invokestatic idx, 3)) (kk : ∀ r σ', post' r σ' → zZ g X (nc + mc') (ns + ms') σ' (pc + 3) L (r.toList ++ S)) : zZ g X nc ns σ pc L (as.reverse ++ S) := by
  intro H locs ls hH hS hl
  obtain ⟨o1, o2, o3, o4⟩ := ok
  have hts := C.2.2.2.2.1
  have cw := callB_of (R := xR X) (own := M.1.cls) (index := idx) (mc := mc') (ms := ms') n hts (zGood M M' o1) rfl rfl rfl (hts _ o2) (hts _ hlk) o3 (zroom C hd' o4)
  have hrun := va_runS (rest := S.map (zv g)) (g := F0 (xm X) pc ls ((as.map (zv g)).reverse ++ S.map (zv g))) (cells := nc) (slots := ns) (below := xb X) (meth := xh X) (e := xe X) (H := H) (locs := locs) ⟨C.1, C.2.1, C.2.2.1, C.2.2.2.1, hts⟩ hR ⟨cw, hts _ hst⟩ ⟨zFB, fun U hU hW => ⟨rfl, by rw [hU]; exact hH, zF.at C hS hU hW⟩⟩ rfl ((List.length_map _).trans hn) (hl.1.trans C.2.2.1) rfl (by show 2 * 0 + _ ≤ 8; rw [zcat]; omega) hd ⟨Nat.le_trans hc C.2.2.2.2.2.2.2.2.1.1, Nat.le_trans hs C.2.2.2.2.2.2.2.2.1.2⟩
  rw [List.map_append, List.map_reverse]
  exact zcall hrun hS hl kk
theorem zrecv {H : Heap} (hK : va_K (zD g) vwCl (zTy g) (xs X)) (hH : zHp g σ H) {i ci n : Nat} (hi : σ.1[i]? = some (ci, n)) (hlt : ci < 7) {q : vw_C} (hc : vwCl[ci]? = some q) : ∃ cell : Cell, H[za g i]? = some cell ∧ cell.vm.isStatics = false ∧ (xs X).vm.findClass q.1 = some cell.cls := by
  have h1 := hH.2.2.2 i _ hi
  simp only [zE, hlt, if_true] at h1
  obtain ⟨q', h2, cell, g1, g2, g3, -⟩ := h1
  exact ⟨cell, g1, by rw [g3]; rfl, by rw [g2]; exact (hK.1 ci q hc).2.1⟩
theorem zZ_callV {n i ci k : Nat} {q : vw_C} (C : zC g X M d mc ms) (ok : zOk M' n) (hst : Cond.instanceMethod M'.1 ∈ zTb) (hse : Cond.selects M'.1.cls M'.1 M'.1 ∈ zTb) {idx : Nat} (hlk : Cond.methodLink M.1.cls idx M'.1 ∈ zTb) (hi : σ.1[i]? = some (ci, k)) (hlt : ci < 7) (hq : vwCl[ci]? = some q) (hcl : q.1 = M'.1.cls) (hR : zRuns g M' d' mc' ms' (.ref i :: as) σ post') (hn : as.length = n) (hd' : d' + 1 ≤ d) (hc : nc + mc' ≤ mc) (hs : ns + ms' ≤ ms) (hw : (S.map fun v => v.category).sum ≤ 8)
    (hd : decode M.2.1 pc = .ok (.invokevirtual idx, 3)) (kk : ∀ r σ', post' r σ' → zZ g X (nc + mc') (ns + ms') σ' (pc + 3) L (r.toList ++ S)) : zZ g X nc ns σ pc L (as.reverse ++ .ref i :: S) := by
  intro H locs ls hH hS hl
  obtain ⟨o1, o2, o3, o4⟩ := ok
  have hts := C.2.2.2.2.1
  have cw := callB_of (R := xR X) (own := M.1.cls) (index := idx) (mc := mc') (ms := ms') n hts (zGood M M' o1) rfl rfl rfl (hts _ o2) (hts _ hlk) o3 (zroom C hd' o4)
  have hrun := va_runV (C := M'.1.cls) (b := za g i) (As := as.map (zv g)) (rest := S.map (zv g)) (g := F0 (xm X) pc ls ((as.map (zv g)).reverse ++ .ref (za g i) :: S.map (zv g))) (cells := nc) (slots := ns) (below := xb X) (meth := xh X) (e := xe X) (H := H) (locs := locs) ⟨C.1, C.2.1, C.2.2.1, C.2.2.2.1, hts⟩ hR ⟨cw, hts _ hst, hts _ hse⟩ ⟨zFB, by rw [← hcl]; exact zrecv C.2.2.2.2.2.2.2.2.2.1.1 hH hi hlt hq, fun U hU hW => ⟨rfl, by rw [hU]; exact hH, zF.at C hS hU hW⟩⟩ rfl ((List.length_map _).trans hn) (hl.1.trans C.2.2.1) rfl (by show 2 * 0 + _ ≤ 8; rw [zcat]; omega) hd ⟨Nat.le_trans hc C.2.2.2.2.2.2.2.2.1.1, Nat.le_trans hs C.2.2.2.2.2.2.2.2.1.2⟩
  rw [List.map_append, List.map_reverse]
  exact zcall hrun hS hl kk
theorem zZ_callI {n i : Nat} (C : zC g X M d mc ms) (ok : zOk M' n) (hst : Cond.instanceMethod M'.1 ∈ zTb) (hnm : M'.1.name = "<init>") (hrt : M'.2.2.2 = none) {idx : Nat} (hlk : Cond.methodLink M.1.cls idx M'.1 ∈ zTb) (hR : zRuns g M' d' mc' ms' (.ref i :: as) σ post') (hn : as.length = n) (hd' : d' + 1 ≤ d) (hc : nc + mc' ≤ mc) (hs : ns + ms' ≤ ms) (hw : (S.map fun v => v.category).sum ≤ 8)
    (hd : decode M.2.1 pc = .ok (.invokespecial idx, 3)) (kk : ∀ r σ', post' r σ' → zZ g X (nc + mc') (ns + ms') σ' (pc + 3) L (r.toList ++ S)) : zZ g X nc ns σ pc L (as.reverse ++ .ref i :: S) := by
  intro H locs ls hH hS hl
  obtain ⟨o1, o2, o3, o4⟩ := ok
  have hts := C.2.2.2.2.1
  have hws : zws M' = Cond.code M'.1 M'.2.1 M'.2.2.1 none :: zTb := by rw [zws, hrt]
  have cw := callB_of (R := xR X) (own := M.1.cls) (index := idx) (mc := mc') (ms := ms') (ret := none) (rm := zRm d' mc' ms') n hts (zGood M M' o1) hws rfl rfl (hts _ o2) (hts _ hlk) o3 (zroom C hd' o4)
  have hrun := va_runI (b := za g i) (As := as.map (zv g)) (rest := S.map (zv g)) (g := F0 (xm X) pc ls ((as.map (zv g)).reverse ++ .ref (za g i) :: S.map (zv g))) (cells := nc) (slots := ns) (below := xb X) (meth := xh X) (e := xe X) (H := H) (locs := locs) ⟨C.1, C.2.1, C.2.2.1, C.2.2.2.1, hts⟩ hR ⟨cw, hnm, hts _ hst⟩ ⟨zFB, fun U hU hW => ⟨rfl, by rw [hU]; exact hH, zF.at C hS hU hW⟩⟩ rfl ((List.length_map _).trans hn) (hl.1.trans C.2.2.1) rfl (by show 2 * 0 + _ ≤ 8; rw [zcat]; omega) hd ⟨Nat.le_trans hc C.2.2.2.2.2.2.2.2.1.1, Nat.le_trans hs C.2.2.2.2.2.2.2.2.1.2⟩
  rw [List.map_append, List.map_reverse]
  exact zcall hrun hS hl kk
/-- a static method of a nest mate -/
theorem zZ_callN {n : Nat} (C : zC g X M d mc ms) (ok : zOk M' n) (hst : Cond.static M'.1 ∈ zTb) {idx : Nat} {host : String} (hlk : Cond.methodLinkNest M.1.cls idx M'.1 host ∈ zNw) (hR : zRuns g M' d' mc' ms' as σ post') (hn : as.length = n) (hd' : d' + 1 ≤ d) (hc : nc + mc' ≤ mc) (hs : ns + ms' ≤ ms) (hw : (S.map fun v => v.category).sum ≤ 8)
    (hd : decode M.2.1 pc = .ok (.invokestatic idx, 3)) (kk : ∀ r σ', post' r σ' → zZ g X (nc + mc') (ns + ms') σ' (pc + 3) L (r.toList ++ S)) : zZ g X nc ns σ pc L (as.reverse ++ S) := by
  intro H locs ls hH hS hl
  obtain ⟨o1, o2, o3, o4⟩ := ok
  have hts := C.2.2.2.2.1
  have hF := C.2.2.2.2.2.2.2.2.2.1
  have cw := va_cnB (R := xR X) (s := xs X) (args := xa X) (own := M.1.cls) (host := host) (index := idx) (mc := mc') (ms := ms') n hts (zGood M M' o1) rfl rfl rfl (hF.2.1 _ hlk) (hts _ o2) o3 (zroom C hd' o4)
  have hrun := va_runSN (rest := S.map (zv g)) (g := F0 (xm X) pc ls ((as.map (zv g)).reverse ++ S.map (zv g))) (cells := nc) (slots := ns) (below := xb X) (meth := xh X) (e := xe X) (H := H) (locs := locs) ⟨C.1, C.2.1, C.2.2.1, C.2.2.2.1, hts⟩ hR ⟨cw, hts _ hst, trivial⟩ ⟨zFB, fun U hU hW => ⟨rfl, by rw [hU]; exact hH, zF.at C hS hU hW⟩⟩ rfl ((List.length_map _).trans hn) (hl.1.trans C.2.2.1) rfl (by show 2 * 0 + _ ≤ 8; rw [zcat]; omega) hd ⟨Nat.le_trans hc C.2.2.2.2.2.2.2.2.1.1, Nat.le_trans hs C.2.2.2.2.2.2.2.2.1.2⟩
  rw [List.map_append, List.map_reverse]
  exact zcall hrun hS hl kk
end ZR
