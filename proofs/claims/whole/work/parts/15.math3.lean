/-! what no slot holds does not matter -/
theorem zZ_st {g : zG} {X : zX} {nc ns : Nat} {σ σ' : zSt} {pc : Nat} {L : List (Nat × Value)} {S : List Value} (h : ∀ H, zHp g σ H → zHp g σ' H) (k : zZ g X nc ns σ' pc L S) : zZ g X nc ns σ pc L S :=
  fun H locs ls hH hS hl => k H locs ls (h H hH) hS hl
theorem lay_ft : ∀ p ∈ LAY, p.1 < 7 → (zft p.1).length = p.2 := by decide +kernel
theorem lay_kd : ∀ p ∈ LAY, p.1 < 12 := by decide +kernel
theorem arrV_cong {cA : ClassId} {n : Nat} {f f' : Nat → Value} (h : ∀ j, j < n → f j = f' j) : arrV cA n f = arrV cA n f' := by
  unfold arrV
  congr 2
  funext j
  exact h j.val j.isLt
theorem zst_tail {g : zG} {I I' : Nat → Nat → Int} {J : Nat → Nat → Int64} {q : Nat × Nat} (h : ∀ i k kd n, LAY[i]? = some (kd, n) → k < n → I i k = I' i k) (H : Heap) (hH : zHp g (zst I J q) H) : zHp g (zst I' J q) H := by
  refine ⟨hH.1, hH.2.1, hH.2.2.1, fun i kd hi => ?_⟩
  have h1 := hH.2.2.2 i kd hi
  obtain ⟨kd, n⟩ := kd
  have hi' : LAY[i]? = some (kd, n) := hi
  have hk : kd < 12 := lay_kd _ (List.mem_of_getElem? hi')
  have hI : ∀ k, k < n → I i k = I' i k := fun k hk => h i k kd n hi' hk
  by_cases h7 : kd < 7
  · have hl : (zft kd).length = n := lay_ft _ (List.mem_of_getElem? hi') h7
    simp only [zE, h7, if_true] at h1 ⊢
    have e : zfs g (zst I J q) i (zft kd) 0 = zfs g (zst I' J q) i (zft kd) 0 := by
      refine zfs_eq _ _ (fun j t ht => ?_)
      have hj := (List.getElem?_eq_some_iff.mp ht).1
      match t with
      | 0 => simp only [zfv]; rw [hI _ (by omega)]
      | 1 => rfl
      | _ + 2 => rfl
    rw [← e]
    exact h1
  · rcases (show kd = 7 ∨ kd = 8 ∨ kd = 9 ∨ kd = 10 ∨ kd = 11 by omega) with rfl | rfl | rfl | rfl | rfl
    · rw [zE_7] at h1 ⊢
      show H[_]? = some (vp_cell _ _)
      have h2 : H[za g i]? = some (vp_cell _ _) := h1
      rw [h2, vp_cell_i, vp_cell_i]
      exact congrArg some (arrV_cong (fun j hj => by show Value.int (iI (I i j)) = Value.int (iI (I' i j)); rw [hI j hj]))
    · rw [zE_8] at h1 ⊢
      exact h1
    · rw [zE_9] at h1 ⊢
      show H[_]? = some (vp_cell _ _)
      have h2 : H[za g i]? = some (vp_cell _ _) := h1
      rw [h2, vp_cell_i, vp_cell_i]
      exact congrArg some (arrV_cong (fun j hj => by show Value.int (iI (I i j)) = Value.int (iI (I' i j)); rw [hI j hj]))
    · rw [zE_10] at h1 ⊢
      exact h1
    · rw [zE_11] at h1 ⊢
      exact h1
/-- a loop that counts up to N, with something that is carried along -/
theorem zforE {g : zG} {X : zX} {nc ns pc : Nat} {S : List Value} {α : Type} (N : Nat) (Pr : Nat → α → Prop) (σf : Nat → α → zSt) (Lf : Nat → α → List (Nat × Value)) (a0 : α) (h0 : Pr 0 a0) (step : ∀ e a, e < N → Pr e a → (∀ b, Pr (e + 1) b → zZ g X nc ns (σf (e + 1) b) pc (Lf (e + 1) b) S) → zZ g X nc ns (σf e a) pc (Lf e a) S) (exit : ∀ a, Pr N a → zZ g X nc ns (σf N a) pc (Lf N a) S) : zZ g X nc ns (σf 0 a0) pc (Lf 0 a0) S := by
  have key : ∀ n e a, e + n = N → Pr e a → zZ g X nc ns (σf e a) pc (Lf e a) S := by
    intro n
    induction n with
    | zero =>
      intro e a he hp
      have : e = N := by omega
      subst this
      exact exit a hp
    | succ n ih =>
      intro e a he hp
      exact step e a (by omega) hp (fun b h => ih (e + 1) b (by omega) h)
  exact key N 0 a0 (by omega) h0
/-- an end of which something stays open -/
def zEx {α : Type} (r : Option Value) (f : α → zSt) : Option Value → zSt → Prop := fun r1 σ1 => r1 = r ∧ ∃ a, σ1 = f a
theorem zEx_I {α : Type} {σ : zSt} {f : α → zSt} {v w : Int} (h : v = w) (a : α) (hσ : σ = f a) : zEx (some (.int (iI w))) f (some (.int (iI v))) σ := by subst h; exact ⟨rfl, a, hσ⟩
theorem zEx_J {α : Type} {σ : zSt} {f : α → zSt} {v w : Int64} (h : v = w) (a : α) (hσ : σ = f a) : zEx (some (.long w)) f (some (.long v)) σ := by subst h; exact ⟨rfl, a, hσ⟩
theorem zEx_V {α : Type} {σ : zSt} {f : α → zSt} (a : α) (hσ : σ = f a) : zEx none f none σ := ⟨rfl, a, hσ⟩
section YE
variable {g : zG} {X : zX} {M : zM} {d mc ms nc ns : Nat} {pc : Nat} {L : List (Nat × Value)} {S : List Value} {ci i idx : Nat}
theorem y_callVE0 (C : zC g X M d mc ms) {α : Type} {f : α → zSt} {σ : zSt} {M' : zM} {d' k : Nat} {r : Option Value} {cq : vw_C} (ok : zOk M' 0) (hst : Cond.instanceMethod M'.1 ∈ zTb) (hse : Cond.selects M'.1.cls M'.1 M'.1 ∈ zTb) (hlk : Cond.methodLink M.1.cls idx M'.1 ∈ zTb) (hR : zRuns g M' d' 0 0 [.ref i] σ (zEx r f)) (hi : σ.1[i]? = some (ci, k)) (hlt : ci < 7) (hq : vwCl[ci]? = some cq) (hcl : cq.1 = M'.1.cls) (hd' : d' + 1 ≤ d) (hc : nc ≤ mc) (hs : ns ≤ ms) (hw : (S.map fun v => v.category).sum ≤ 8) (hd : decode M.2.1 pc = .ok (.invokevirtual idx, 3)) (kk : ∀ a, zZ g X nc ns (f a) (pc + 3) L (r.toList ++ S)) : zZ g X nc ns σ pc L (.ref i :: S) :=
  zZ_callV (as := []) C ok hst hse hlk hi hlt hq hcl hR rfl hd' hc hs hw hd (fun r1 σ1 h => by obtain ⟨rfl, a, rfl⟩ := h; exact kk a)
theorem y_callNE0 (C : zC g X M d mc ms) {α : Type} {f : α → zSt} {σ : zSt} {M' : zM} {d' : Nat} {r : Option Value} {host : String} (ok : zOk M' 0) (hst : Cond.static M'.1 ∈ zTb) (hlk : Cond.methodLinkNest M.1.cls idx M'.1 host ∈ zNw) (hR : zRuns g M' d' 0 0 [] σ (zEx r f)) (hd' : d' + 1 ≤ d) (hc : nc ≤ mc) (hs : ns ≤ ms) (hw : (S.map fun v => v.category).sum ≤ 8) (hd : decode M.2.1 pc = .ok (.invokestatic idx, 3)) (kk : ∀ a, zZ g X nc ns (f a) (pc + 3) L (r.toList ++ S)) : zZ g X nc ns σ pc L (S) :=
  zZ_callN (as := []) C ok hst hlk hR rfl hd' hc hs hw hd (fun r1 σ1 h => by obtain ⟨rfl, a, rfl⟩ := h; exact kk a)
theorem y_callSE0 (C : zC g X M d mc ms) {α : Type} {f : α → zSt} {σ : zSt} {M' : zM} {d' : Nat} {r : Option Value} (ok : zOk M' 0) (hst : Cond.static M'.1 ∈ zTb) (hlk : Cond.methodLink M.1.cls idx M'.1 ∈ zTb) (hR : zRuns g M' d' 0 0 [] σ (zEx r f)) (hd' : d' + 1 ≤ d) (hc : nc ≤ mc) (hs : ns ≤ ms) (hw : (S.map fun v => v.category).sum ≤ 8) (hd : decode M.2.1 pc = .ok (.invokestatic idx, 3)) (kk : ∀ a, zZ g X nc ns (f a) (pc + 3) L (r.toList ++ S)) : zZ g X nc ns σ pc L (S) :=
  zZ_callS (as := []) C ok hst hlk hR rfl hd' hc hs hw hd (fun r1 σ1 h => by obtain ⟨rfl, a, rfl⟩ := h; exact kk a)
theorem y_callVE1 (C : zC g X M d mc ms) {α : Type} {f : α → zSt} {σ : zSt} {M' : zM} {d' k : Nat} {r : Option Value} {cq : vw_C} {a1 : Value} (ok : zOk M' 1) (hst : Cond.instanceMethod M'.1 ∈ zTb) (hse : Cond.selects M'.1.cls M'.1 M'.1 ∈ zTb) (hlk : Cond.methodLink M.1.cls idx M'.1 ∈ zTb) (hR : zRuns g M' d' 0 0 [.ref i, a1] σ (zEx r f)) (hi : σ.1[i]? = some (ci, k)) (hlt : ci < 7) (hq : vwCl[ci]? = some cq) (hcl : cq.1 = M'.1.cls) (hd' : d' + 1 ≤ d) (hc : nc ≤ mc) (hs : ns ≤ ms) (hw : (S.map fun v => v.category).sum ≤ 8) (hd : decode M.2.1 pc = .ok (.invokevirtual idx, 3)) (kk : ∀ a, zZ g X nc ns (f a) (pc + 3) L (r.toList ++ S)) : zZ g X nc ns σ pc L (a1 :: .ref i :: S) :=
  zZ_callV (as := [a1]) C ok hst hse hlk hi hlt hq hcl hR rfl hd' hc hs hw hd (fun r1 σ1 h => by obtain ⟨rfl, a, rfl⟩ := h; exact kk a)
theorem y_callNE1 (C : zC g X M d mc ms) {α : Type} {f : α → zSt} {σ : zSt} {M' : zM} {d' : Nat} {r : Option Value} {host : String} {a1 : Value} (ok : zOk M' 1) (hst : Cond.static M'.1 ∈ zTb) (hlk : Cond.methodLinkNest M.1.cls idx M'.1 host ∈ zNw) (hR : zRuns g M' d' 0 0 [a1] σ (zEx r f)) (hd' : d' + 1 ≤ d) (hc : nc ≤ mc) (hs : ns ≤ ms) (hw : (S.map fun v => v.category).sum ≤ 8) (hd : decode M.2.1 pc = .ok (.invokestatic idx, 3)) (kk : ∀ a, zZ g X nc ns (f a) (pc + 3) L (r.toList ++ S)) : zZ g X nc ns σ pc L (a1 :: S) :=
  zZ_callN (as := [a1]) C ok hst hlk hR rfl hd' hc hs hw hd (fun r1 σ1 h => by obtain ⟨rfl, a, rfl⟩ := h; exact kk a)
theorem y_callSE1 (C : zC g X M d mc ms) {α : Type} {f : α → zSt} {σ : zSt} {M' : zM} {d' : Nat} {r : Option Value} {a1 : Value} (ok : zOk M' 1) (hst : Cond.static M'.1 ∈ zTb) (hlk : Cond.methodLink M.1.cls idx M'.1 ∈ zTb) (hR : zRuns g M' d' 0 0 [a1] σ (zEx r f)) (hd' : d' + 1 ≤ d) (hc : nc ≤ mc) (hs : ns ≤ ms) (hw : (S.map fun v => v.category).sum ≤ 8) (hd : decode M.2.1 pc = .ok (.invokestatic idx, 3)) (kk : ∀ a, zZ g X nc ns (f a) (pc + 3) L (r.toList ++ S)) : zZ g X nc ns σ pc L (a1 :: S) :=
  zZ_callS (as := [a1]) C ok hst hlk hR rfl hd' hc hs hw hd (fun r1 σ1 h => by obtain ⟨rfl, a, rfl⟩ := h; exact kk a)
theorem y_callVE2 (C : zC g X M d mc ms) {α : Type} {f : α → zSt} {σ : zSt} {M' : zM} {d' k : Nat} {r : Option Value} {cq : vw_C} {a1 a2 : Value} (ok : zOk M' 2) (hst : Cond.instanceMethod M'.1 ∈ zTb) (hse : Cond.selects M'.1.cls M'.1 M'.1 ∈ zTb) (hlk : Cond.methodLink M.1.cls idx M'.1 ∈ zTb) (hR : zRuns g M' d' 0 0 [.ref i, a1, a2] σ (zEx r f)) (hi : σ.1[i]? = some (ci, k)) (hlt : ci < 7) (hq : vwCl[ci]? = some cq) (hcl : cq.1 = M'.1.cls) (hd' : d' + 1 ≤ d) (hc : nc ≤ mc) (hs : ns ≤ ms) (hw : (S.map fun v => v.category).sum ≤ 8) (hd : decode M.2.1 pc = .ok (.invokevirtual idx, 3)) (kk : ∀ a, zZ g X nc ns (f a) (pc + 3) L (r.toList ++ S)) : zZ g X nc ns σ pc L (a2 :: a1 :: .ref i :: S) :=
  zZ_callV (as := [a1, a2]) C ok hst hse hlk hi hlt hq hcl hR rfl hd' hc hs hw hd (fun r1 σ1 h => by obtain ⟨rfl, a, rfl⟩ := h; exact kk a)
theorem y_callNE2 (C : zC g X M d mc ms) {α : Type} {f : α → zSt} {σ : zSt} {M' : zM} {d' : Nat} {r : Option Value} {host : String} {a1 a2 : Value} (ok : zOk M' 2) (hst : Cond.static M'.1 ∈ zTb) (hlk : Cond.methodLinkNest M.1.cls idx M'.1 host ∈ zNw) (hR : zRuns g M' d' 0 0 [a1, a2] σ (zEx r f)) (hd' : d' + 1 ≤ d) (hc : nc ≤ mc) (hs : ns ≤ ms) (hw : (S.map fun v => v.category).sum ≤ 8) (hd : decode M.2.1 pc = .ok (.invokestatic idx, 3)) (kk : ∀ a, zZ g X nc ns (f a) (pc + 3) L (r.toList ++ S)) : zZ g X nc ns σ pc L (a2 :: a1 :: S) :=
  zZ_callN (as := [a1, a2]) C ok hst hlk hR rfl hd' hc hs hw hd (fun r1 σ1 h => by obtain ⟨rfl, a, rfl⟩ := h; exact kk a)
theorem y_callSE2 (C : zC g X M d mc ms) {α : Type} {f : α → zSt} {σ : zSt} {M' : zM} {d' : Nat} {r : Option Value} {a1 a2 : Value} (ok : zOk M' 2) (hst : Cond.static M'.1 ∈ zTb) (hlk : Cond.methodLink M.1.cls idx M'.1 ∈ zTb) (hR : zRuns g M' d' 0 0 [a1, a2] σ (zEx r f)) (hd' : d' + 1 ≤ d) (hc : nc ≤ mc) (hs : ns ≤ ms) (hw : (S.map fun v => v.category).sum ≤ 8) (hd : decode M.2.1 pc = .ok (.invokestatic idx, 3)) (kk : ∀ a, zZ g X nc ns (f a) (pc + 3) L (r.toList ++ S)) : zZ g X nc ns σ pc L (a2 :: a1 :: S) :=
  zZ_callS (as := [a1, a2]) C ok hst hlk hR rfl hd' hc hs hw hd (fun r1 σ1 h => by obtain ⟨rfl, a, rfl⟩ := h; exact kk a)
theorem y_callVE3 (C : zC g X M d mc ms) {α : Type} {f : α → zSt} {σ : zSt} {M' : zM} {d' k : Nat} {r : Option Value} {cq : vw_C} {a1 a2 a3 : Value} (ok : zOk M' 3) (hst : Cond.instanceMethod M'.1 ∈ zTb) (hse : Cond.selects M'.1.cls M'.1 M'.1 ∈ zTb) (hlk : Cond.methodLink M.1.cls idx M'.1 ∈ zTb) (hR : zRuns g M' d' 0 0 [.ref i, a1, a2, a3] σ (zEx r f)) (hi : σ.1[i]? = some (ci, k)) (hlt : ci < 7) (hq : vwCl[ci]? = some cq) (hcl : cq.1 = M'.1.cls) (hd' : d' + 1 ≤ d) (hc : nc ≤ mc) (hs : ns ≤ ms) (hw : (S.map fun v => v.category).sum ≤ 8) (hd : decode M.2.1 pc = .ok (.invokevirtual idx, 3)) (kk : ∀ a, zZ g X nc ns (f a) (pc + 3) L (r.toList ++ S)) : zZ g X nc ns σ pc L (a3 :: a2 :: a1 :: .ref i :: S) :=
  zZ_callV (as := [a1, a2, a3]) C ok hst hse hlk hi hlt hq hcl hR rfl hd' hc hs hw hd (fun r1 σ1 h => by obtain ⟨rfl, a, rfl⟩ := h; exact kk a)
theorem y_callNE3 (C : zC g X M d mc ms) {α : Type} {f : α → zSt} {σ : zSt} {M' : zM} {d' : Nat} {r : Option Value} {host : String} {a1 a2 a3 : Value} (ok : zOk M' 3) (hst : Cond.static M'.1 ∈ zTb) (hlk : Cond.methodLinkNest M.1.cls idx M'.1 host ∈ zNw) (hR : zRuns g M' d' 0 0 [a1, a2, a3] σ (zEx r f)) (hd' : d' + 1 ≤ d) (hc : nc ≤ mc) (hs : ns ≤ ms) (hw : (S.map fun v => v.category).sum ≤ 8) (hd : decode M.2.1 pc = .ok (.invokestatic idx, 3)) (kk : ∀ a, zZ g X nc ns (f a) (pc + 3) L (r.toList ++ S)) : zZ g X nc ns σ pc L (a3 :: a2 :: a1 :: S) :=
  zZ_callN (as := [a1, a2, a3]) C ok hst hlk hR rfl hd' hc hs hw hd (fun r1 σ1 h => by obtain ⟨rfl, a, rfl⟩ := h; exact kk a)
theorem y_callSE3 (C : zC g X M d mc ms) {α : Type} {f : α → zSt} {σ : zSt} {M' : zM} {d' : Nat} {r : Option Value} {a1 a2 a3 : Value} (ok : zOk M' 3) (hst : Cond.static M'.1 ∈ zTb) (hlk : Cond.methodLink M.1.cls idx M'.1 ∈ zTb) (hR : zRuns g M' d' 0 0 [a1, a2, a3] σ (zEx r f)) (hd' : d' + 1 ≤ d) (hc : nc ≤ mc) (hs : ns ≤ ms) (hw : (S.map fun v => v.category).sum ≤ 8) (hd : decode M.2.1 pc = .ok (.invokestatic idx, 3)) (kk : ∀ a, zZ g X nc ns (f a) (pc + 3) L (r.toList ++ S)) : zZ g X nc ns σ pc L (a3 :: a2 :: a1 :: S) :=
  zZ_callS (as := [a1, a2, a3]) C ok hst hlk hR rfl hd' hc hs hw hd (fun r1 σ1 h => by obtain ⟨rfl, a, rfl⟩ := h; exact kk a)
theorem y_callVE4 (C : zC g X M d mc ms) {α : Type} {f : α → zSt} {σ : zSt} {M' : zM} {d' k : Nat} {r : Option Value} {cq : vw_C} {a1 a2 a3 a4 : Value} (ok : zOk M' 4) (hst : Cond.instanceMethod M'.1 ∈ zTb) (hse : Cond.selects M'.1.cls M'.1 M'.1 ∈ zTb) (hlk : Cond.methodLink M.1.cls idx M'.1 ∈ zTb) (hR : zRuns g M' d' 0 0 [.ref i, a1, a2, a3, a4] σ (zEx r f)) (hi : σ.1[i]? = some (ci, k)) (hlt : ci < 7) (hq : vwCl[ci]? = some cq) (hcl : cq.1 = M'.1.cls) (hd' : d' + 1 ≤ d) (hc : nc ≤ mc) (hs : ns ≤ ms) (hw : (S.map fun v => v.category).sum ≤ 8) (hd : decode M.2.1 pc = .ok (.invokevirtual idx, 3)) (kk : ∀ a, zZ g X nc ns (f a) (pc + 3) L (r.toList ++ S)) : zZ g X nc ns σ pc L (a4 :: a3 :: a2 :: a1 :: .ref i :: S) :=
  zZ_callV (as := [a1, a2, a3, a4]) C ok hst hse hlk hi hlt hq hcl hR rfl hd' hc hs hw hd (fun r1 σ1 h => by obtain ⟨rfl, a, rfl⟩ := h; exact kk a)
theorem y_callNE4 (C : zC g X M d mc ms) {α : Type} {f : α → zSt} {σ : zSt} {M' : zM} {d' : Nat} {r : Option Value} {host : String} {a1 a2 a3 a4 : Value} (ok : zOk M' 4) (hst : Cond.static M'.1 ∈ zTb) (hlk : Cond.methodLinkNest M.1.cls idx M'.1 host ∈ zNw) (hR : zRuns g M' d' 0 0 [a1, a2, a3, a4] σ (zEx r f)) (hd' : d' + 1 ≤ d) (hc : nc ≤ mc) (hs : ns ≤ ms) (hw : (S.map fun v => v.category).sum ≤ 8) (hd : decode M.2.1 pc = .ok (.invokestatic idx, 3)) (kk : ∀ a, zZ g X nc ns (f a) (pc + 3) L (r.toList ++ S)) : zZ g X nc ns σ pc L (a4 :: a3 :: a2 :: a1 :: S) :=
  zZ_callN (as := [a1, a2, a3, a4]) C ok hst hlk hR rfl hd' hc hs hw hd (fun r1 σ1 h => by obtain ⟨rfl, a, rfl⟩ := h; exact kk a)
theorem y_callSE4 (C : zC g X M d mc ms) {α : Type} {f : α → zSt} {σ : zSt} {M' : zM} {d' : Nat} {r : Option Value} {a1 a2 a3 a4 : Value} (ok : zOk M' 4) (hst : Cond.static M'.1 ∈ zTb) (hlk : Cond.methodLink M.1.cls idx M'.1 ∈ zTb) (hR : zRuns g M' d' 0 0 [a1, a2, a3, a4] σ (zEx r f)) (hd' : d' + 1 ≤ d) (hc : nc ≤ mc) (hs : ns ≤ ms) (hw : (S.map fun v => v.category).sum ≤ 8) (hd : decode M.2.1 pc = .ok (.invokestatic idx, 3)) (kk : ∀ a, zZ g X nc ns (f a) (pc + 3) L (r.toList ++ S)) : zZ g X nc ns σ pc L (a4 :: a3 :: a2 :: a1 :: S) :=
  zZ_callS (as := [a1, a2, a3, a4]) C ok hst hlk hR rfl hd' hc hs hw hd (fun r1 σ1 h => by obtain ⟨rfl, a, rfl⟩ := h; exact kk a)
theorem y_callVE5 (C : zC g X M d mc ms) {α : Type} {f : α → zSt} {σ : zSt} {M' : zM} {d' k : Nat} {r : Option Value} {cq : vw_C} {a1 a2 a3 a4 a5 : Value} (ok : zOk M' 5) (hst : Cond.instanceMethod M'.1 ∈ zTb) (hse : Cond.selects M'.1.cls M'.1 M'.1 ∈ zTb) (hlk : Cond.methodLink M.1.cls idx M'.1 ∈ zTb) (hR : zRuns g M' d' 0 0 [.ref i, a1, a2, a3, a4, a5] σ (zEx r f)) (hi : σ.1[i]? = some (ci, k)) (hlt : ci < 7) (hq : vwCl[ci]? = some cq) (hcl : cq.1 = M'.1.cls) (hd' : d' + 1 ≤ d) (hc : nc ≤ mc) (hs : ns ≤ ms) (hw : (S.map fun v => v.category).sum ≤ 8) (hd : decode M.2.1 pc = .ok (.invokevirtual idx, 3)) (kk : ∀ a, zZ g X nc ns (f a) (pc + 3) L (r.toList ++ S)) : zZ g X nc ns σ pc L (a5 :: a4 :: a3 :: a2 :: a1 :: .ref i :: S) :=
  zZ_callV (as := [a1, a2, a3, a4, a5]) C ok hst hse hlk hi hlt hq hcl hR rfl hd' hc hs hw hd (fun r1 σ1 h => by obtain ⟨rfl, a, rfl⟩ := h; exact kk a)
theorem y_callNE5 (C : zC g X M d mc ms) {α : Type} {f : α → zSt} {σ : zSt} {M' : zM} {d' : Nat} {r : Option Value} {host : String} {a1 a2 a3 a4 a5 : Value} (ok : zOk M' 5) (hst : Cond.static M'.1 ∈ zTb) (hlk : Cond.methodLinkNest M.1.cls idx M'.1 host ∈ zNw) (hR : zRuns g M' d' 0 0 [a1, a2, a3, a4, a5] σ (zEx r f)) (hd' : d' + 1 ≤ d) (hc : nc ≤ mc) (hs : ns ≤ ms) (hw : (S.map fun v => v.category).sum ≤ 8) (hd : decode M.2.1 pc = .ok (.invokestatic idx, 3)) (kk : ∀ a, zZ g X nc ns (f a) (pc + 3) L (r.toList ++ S)) : zZ g X nc ns σ pc L (a5 :: a4 :: a3 :: a2 :: a1 :: S) :=
  zZ_callN (as := [a1, a2, a3, a4, a5]) C ok hst hlk hR rfl hd' hc hs hw hd (fun r1 σ1 h => by obtain ⟨rfl, a, rfl⟩ := h; exact kk a)
theorem y_callSE5 (C : zC g X M d mc ms) {α : Type} {f : α → zSt} {σ : zSt} {M' : zM} {d' : Nat} {r : Option Value} {a1 a2 a3 a4 a5 : Value} (ok : zOk M' 5) (hst : Cond.static M'.1 ∈ zTb) (hlk : Cond.methodLink M.1.cls idx M'.1 ∈ zTb) (hR : zRuns g M' d' 0 0 [a1, a2, a3, a4, a5] σ (zEx r f)) (hd' : d' + 1 ≤ d) (hc : nc ≤ mc) (hs : ns ≤ ms) (hw : (S.map fun v => v.category).sum ≤ 8) (hd : decode M.2.1 pc = .ok (.invokestatic idx, 3)) (kk : ∀ a, zZ g X nc ns (f a) (pc + 3) L (r.toList ++ S)) : zZ g X nc ns σ pc L (a5 :: a4 :: a3 :: a2 :: a1 :: S) :=
  zZ_callS (as := [a1, a2, a3, a4, a5]) C ok hst hlk hR rfl hd' hc hs hw hd (fun r1 σ1 h => by obtain ⟨rfl, a, rfl⟩ := h; exact kk a)
end YE
/-! more of a turn, in numbers -/
theorem iI_or {a b : Nat} (ha : a < 2 ^ 31) (hb : b < 2 ^ 31) : iI (a : Int) ||| iI (b : Int) = iI ((a ||| b : Nat) : Int) := by
  apply Int32.toBitVec_inj.mp
  show BitVec.ofInt 32 a ||| BitVec.ofInt 32 b = BitVec.ofInt 32 ((a ||| b : Nat) : Int)
  rw [BitVec.ofInt_natCast, BitVec.ofInt_natCast, BitVec.ofInt_natCast]
  apply BitVec.eq_of_toNat_eq
  rw [BitVec.toNat_or, BitVec.toNat_ofNat, BitVec.toNat_ofNat, BitVec.toNat_ofNat]
  have h1 : a ||| b < 2 ^ 31 := Nat.or_lt_two_pow ha hb
  rw [Nat.mod_eq_of_lt (by omega), Nat.mod_eq_of_lt (by omega), Nat.mod_eq_of_lt (by omega)]
theorem iI_bit {b : Nat} {k : Nat} (hb : b < 2 ^ k) (hk : k < 31) : iI (b : Int) ||| iI ((2 ^ k : Nat) : Int) = iI ((b + 2 ^ k : Nat) : Int) := by
  have h2 : (2 : Nat) ^ k < 2 ^ 31 := Nat.pow_lt_pow_right (by omega) hk
  rw [iI_or (by omega) h2]
  congr 2
  have := Nat.two_pow_add_eq_or_of_lt hb 1
  rw [Nat.mul_one] at this
  rw [Nat.or_comm, ← this, Nat.add_comm]
theorem iI_sh1 {k : Nat} (hk : k < 31) : iI 1 <<< (iI (k : Int) &&& 31) = iI ((2 ^ k : Nat) : Int) := by
  have h : ∀ k, k < 31 → iI 1 <<< (iI ((k : Nat) : Int) &&& 31) = iI ((2 ^ k : Nat) : Int) := by decide +kernel
  exact h k hk
/-- bits, as a number -/
def bitsN (P : Nat → Bool) : Nat → Nat
  | 0 => 0
  | k + 1 => bitsN P k + (if P k then 2 ^ k else 0)
theorem bitsN_lt (P : Nat → Bool) (k : Nat) : bitsN P k < 2 ^ k := by
  induction k with
  | zero => simp [bitsN]
  | succ k ih =>
    simp only [bitsN, Nat.pow_succ]
    split <;> omega
theorem bitsN_step {P : Nat → Bool} {k : Nat} (hk : k < 31) (h : P k = true) : iI (bitsN P k : Int) ||| iI ((2 ^ k : Nat) : Int) = iI (bitsN P (k + 1) : Int) := by
  rw [iI_bit (bitsN_lt P k) hk]
  simp [bitsN, h]
theorem bitsN_no {P : Nat → Bool} {k : Nat} (h : P k = false) : bitsN P (k + 1) = bitsN P k := by simp [bitsN, h]
theorem bitsN_cong {P Q : Nat → Bool} {n : Nat} (h : ∀ e, e < n → P e = Q e) : bitsN P n = bitsN Q n := by
  induction n with
  | zero => rfl
  | succ n ih => simp only [bitsN]; rw [ih (fun e he => h e (by omega)), h n (by omega)]
theorem cnt_cong {P Q : Nat → Bool} {n : Nat} (h : ∀ e, e < n → P e = Q e) : cnt P n = cnt Q n := by
  induction n with
  | zero => rfl
  | succ n ih => simp only [cnt]; rw [ih (fun e he => h e (by omega)), h n (by omega)]
theorem stp_0 {c d : Int} (hc : 0 ≤ c ∧ c ≤ 99) (hd : 0 ≤ d ∧ d ≤ 99) : stp c d ≤ 0 ↔ c = d := by
  unfold stp iabs
  constructor
  · intro h; omega
  · intro h; subst h; omega
def withinN (H : HV) (C : Nat → Int) (l : Int) : Int := cnt (fun e => decide (stp (C e) H.2.2.1 ≤ l * tmN (H.2.2.2.2.1 e).toNat)) H.2.2.2.1.toNat
def inN (H : HV) (C : Nat → Int) : Int := cnt (fun e => decide (C e = H.2.2.1)) H.2.2.2.1.toNat
def penN (H : HV) (C : Nat → Int) : Int := sumN (fun e => stp (C e) H.2.2.1) H.2.2.2.1.toNat
theorem sum_r {f : Nat → Int} {n : Nat} (h : ∀ e, e < n → 0 ≤ f e ∧ f e ≤ 18) : 0 ≤ sumN f n ∧ sumN f n ≤ 18 * n := by
  induction n with
  | zero => simp [sumN]
  | succ n ih =>
    have h1 := ih (fun e he => h e (by omega))
    have h2 := h n (by omega)
    simp only [sumN]
    omega
theorem goalN_r {I : Nat → Nat → Int} {J : Nat → Nat → Int64} {h : Nat} {dog : Int} {C : Nat → Int} {w : Nat} {kd : Int} (hg : gH I h) (hC : ∀ e, e < 5 → 0 ≤ C e ∧ C e ≤ 66) (hw : w < 5) : 0 ≤ goalN (hv I J h) dog C w kd ∧ goalN (hv I J h) dog C w kd ≤ 66 := by
  obtain ⟨g1, g2, g3, g4, g5, g6⟩ := hg
  unfold goalN
  refine git_r (show I h 0 ≤ 7 from g1.2) (hC w hw) ?_ _
  unfold markN
  split
  · show -1 ≤ I h 1 ∧ I h 1 ≤ 66
    omega
  · exact leadN_r (by show (I h 6).toNat ≤ 5; omega) hC
theorem turnC_r {I : Nat → Nat → Int} {J : Nat → Nat → Int64} {h : Nat} {dog : Int} {C : Nat → Int} (hg : gH I h) (hC : ∀ e, e < 5 → 0 ≤ C e ∧ C e ≤ 66) : ∀ k, k ≤ 5 → ∀ e, e < 5 → 0 ≤ turnC (hv I J h) dog C k e ∧ turnC (hv I J h) dog C k e ≤ 66 := by
  intro k
  induction k with
  | zero => intro _ e he; exact hC e he
  | succ k ih =>
    intro hk e he
    simp only [turnC, up1]
    split
    · exact goalN_r hg (ih (by omega)) (by omega)
    · exact ih (by omega) e he
theorem dogN_r {I : Nat → Nat → Int} {J : Nat → Nat → Int64} {h : Nat} {dog c : Int} (hg : gH I h) (hd : 0 ≤ dog ∧ dog ≤ 66) : 0 ≤ dogN (hv I J h) dog c ∧ dogN (hv I J h) dog c ≤ 66 := by
  unfold dogN
  split
  · rename_i h1
    simp only [canN, Bool.or_eq_true, decide_eq_true_eq] at h1
    rcases h1 with h1 | h1
    · subst h1
      show 0 ≤ dog + shN 0 ∧ dog + shN 0 ≤ 66
      simp [shN]
      exact hd
    · simp only [dogsN, Bool.and_eq_true] at h1
      exact openN_r hg.1.2 h1.2
  · exact hd
/-- the cells behind a TURN -/
def goneC (H : HV) (dog c : Int) (C : Nat → Int) : Nat → Int := turnC H (dogN H dog c) C H.2.2.2.1.toNat
