/-! the most, in numbers -/
def foldN {β : Type} (F : Nat → β → β) (a : β) : Nat → β
  | 0 => a
  | n + 1 => F n (foldN F a n)
def skP (H : HV) : Nat → SP → List Int → Int × List Int → Int × List Int
  | 0, p, path, acc => if withinN H p.2.2 0 ≤ acc.1 then acc else (inN H p.2.2, path)
  | k + 1, p, path, acc => if withinN H p.2.2 ((k + 1 : Nat) : Int) ≤ acc.1 then acc else foldN (fun c a => if canN H.1 H.2.1 H.2.2.1 p.1 (c : Int) = true then skP H k (turnS H p (c : Int)) (path ++ [(c : Int)]) a else a) acc 5
def frM (I I' : Nat → Nat → Int) (dd : Nat) : Prop := (∀ i, i ≠ 38 → i ≠ 54 → i ≠ 55 → (i < 42 + 2 * dd ∨ 54 ≤ i) → I' i = I i) ∧ (∀ j, j < dd → I' 54 j = I 54 j) ∧ ∀ k, k ≠ 3 → I' 38 k = I 38 k
theorem frM_rf {I : Nat → Nat → Int} {dd : Nat} : frM I I dd := ⟨fun _ _ _ _ _ => rfl, fun _ _ => rfl, fun _ _ => rfl⟩
theorem frM_of {I I' : Nat → Nat → Int} {dd : Nat} (h : frB I I' dd) (hd : dd ≤ 6) : frM I I' dd := ⟨fun i _ h2 _ h4 => h.1 i h2 h4, h.2, fun k _ => by rw [h.1 38 (by decide) (by omega)]⟩
theorem frM_tr {I I1 I2 : Nat → Nat → Int} {d1 dd : Nat} (h : dd ≤ d1) (a : frM I I1 dd) (b : frM I1 I2 d1) : frM I I2 dd :=
  ⟨fun i h1 h2 h3 h4 => (b.1 i h1 h2 h3 (by omega)).trans (a.1 i h1 h2 h3 h4), fun j hj => (b.2.1 j (by omega)).trans (a.2.1 j hj), fun k hk => (b.2.2 k hk).trans (a.2.2 k hk)⟩
theorem frM_hv {I I' : Nat → Nat → Int} {J : Nat → Nat → Int64} {dd : Nat} (h : frM I I' dd) : hv I' J 1 = hv I J 1 := hv_cong (h.1 1 (by decide) (by decide) (by decide) (by omega)) (h.1 2 (by decide) (by decide) (by decide) (by omega)) (h.1 3 (by decide) (by decide) (by decide) (by omega))
theorem frM_gH {I I' : Nat → Nat → Int} {dd : Nat} (h : frM I I' dd) (hg : gH I 1) : gH I' 1 := gH_cong (h.1 1 (by decide) (by decide) (by decide) (by omega)) (h.1 2 (by decide) (by decide) (by decide) (by omega)) (h.1 3 (by decide) (by decide) (by decide) (by omega)) hg
theorem frM_sp {I I' : Nat → Nat → Int} {dd : Nat} (h : frM I I' dd) (hd : dd ≤ 6) : spOf I' (40 + 2 * dd) = spOf I (40 + 2 * dd) := spOf_cong (h.1 _ (by omega) (by omega) (by omega) (by omega)) (h.1 _ (by omega) (by omega) (by omega) (by omega))
theorem frM_gS {I I' : Nat → Nat → Int} {dd : Nat} (h : frM I I' dd) (hd : dd ≤ 6) (hs : gS I (40 + 2 * dd)) : gS I' (40 + 2 * dd) := gS_cong (h.1 _ (by omega) (by omega) (by omega) (by omega)) (h.1 _ (by omega) (by omega) (by omega) (by omega)) hs
/-- what the Search holds of the most -/
def skA (I : Nat → Nat → Int) (acc : Int × List Int) : Prop := I 38 3 = acc.1 ∧ (-1 ≤ acc.1 ∧ acc.1 ≤ 5) ∧ ∀ j, j < acc.2.length → I 55 j = acc.2.getD j 0
def skT (I : Nat → Nat → Int) (dd : Nat) (path : List Int) : Prop := path.length = dd ∧ ∀ j, j < dd → I 54 j = path.getD j 0
def skPost (I : Nat → Nat → Int) (J : Nat → Nat → Int64) (q : Nat × Nat) (dd : Nat) (res : Int × List Int) : Option Value → zSt → Prop := fun r σ' => ∃ I', σ' = zst I' J q ∧ r = none ∧ frM I I' dd ∧ skA I' res
theorem skA_try {I : Nat → Nat → Int} {J : Nat → Nat → Int64} {dd : Nat} {c : Int} {acc : Int × List Int} (hd : dd < 6) (h : skA I acc) : skA (tryI I J dd c) acc := by
  have hf := frB_try (I := I) (J := J) (c := c) hd
  unfold skA
  rw [hf.1 38 (by decide) (by omega), hf.1 55 (by decide) (by omega)]
  exact h
theorem skT_try {I : Nat → Nat → Int} {J : Nat → Nat → Int64} {dd : Nat} {c : Int} {path : List Int} (hd : dd < 6) (h : skT I dd path) : skT (tryI I J dd c) (dd + 1) (path ++ [c]) := by
  refine ⟨by rw [List.length_append, h.1]; rfl, fun j hj => ?_⟩
  by_cases e : j = dd
  · subst e
    rw [try_54 hd, List.getD_eq_getElem?_getD, List.getElem?_append_right (by rw [h.1]; exact Nat.le_refl _), h.1]
    simp
  · rw [(frB_try (I := I) (J := J) (c := c) hd).2 j (by omega), h.2 j (by omega), List.getD_eq_getElem?_getD, List.getD_eq_getElem?_getD, List.getElem?_append_left (by rw [h.1]; omega)]
theorem skT_fr {I I' : Nat → Nat → Int} {dd : Nat} {path : List Int} (hf : frM I I' dd) (h : skT I dd path) : skT I' dd path := ⟨h.1, fun j hj => (hf.2.1 j hj).trans (h.2 j hj)⟩
