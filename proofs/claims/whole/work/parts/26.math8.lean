/-! the search, in numbers -/
def optN {β : Type} (F : Nat → Option β) : Nat → Option β
  | 0 => none
  | k + 1 => match optN F k with
    | some x => some x
    | none => F k
theorem optN_some {β : Type} {F : Nat → Option β} {n e : Nat} {x : β} (he : e < n) (h0 : optN F e = none) (h : F e = some x) : optN F n = some x := by
  induction n with
  | zero => omega
  | succ n ih =>
    simp only [optN]
    by_cases q : e = n
    · subst q
      rw [h0]
      exact h
    · rw [ih (by omega)]
theorem optN_none {β : Type} {F : Nat → Option β} {e : Nat} (h0 : optN F e = none) (h : F e = none) : optN F (e + 1) = none := by
  simp only [optN, h0]
  exact h
/-- the first row of k COMMANDS that brings all IN, left where it is too far; none -/
def brP (H : HV) : Nat → SP → Option (List Int)
  | 0, p => if withinN H p.2.2 0 < H.2.2.2.1 then none else some []
  | k + 1, p => if withinN H p.2.2 ((k + 1 : Nat) : Int) < H.2.2.2.1 then none else optN (fun c => if canN H.1 H.2.1 H.2.2.1 p.1 (c : Int) = true then (brP H k (turnS H p (c : Int))).map (fun l => (c : Int) :: l) else none) 5
/-- what a search from level dd on may change -/
def frB (I I' : Nat → Nat → Int) (dd : Nat) : Prop := (∀ i, i ≠ 54 → (i < 42 + 2 * dd ∨ 54 ≤ i) → I' i = I i) ∧ ∀ j, j < dd → I' 54 j = I 54 j
theorem frB_rf {I : Nat → Nat → Int} {dd : Nat} : frB I I dd := ⟨fun _ _ _ => rfl, fun _ _ => rfl⟩
theorem frB_try {I : Nat → Nat → Int} {J : Nat → Nat → Int64} {dd : Nat} {c : Int} (hd : dd < 6) : frB I (tryI I J dd c) dd := by
  refine ⟨fun i h1 h2 => ?_, fun j hj => ?_⟩
  · show zSp _ _ _ _ _ i = _
    rw [zSp_n (by omega) (by omega), zu_ne h1]
  · show zSp _ _ _ _ _ 54 j = _
    rw [zSp_n (by omega) (by omega)]
    exact zu_n (by omega)
theorem frB_tr {I I1 I2 : Nat → Nat → Int} {d1 dd : Nat} (h : dd ≤ d1) (a : frB I I1 dd) (b : frB I1 I2 d1) : frB I I2 dd :=
  ⟨fun i h1 h2 => (b.1 i h1 (by omega)).trans (a.1 i h1 h2), fun j hj => (b.2 j (by omega)).trans (a.2 j hj)⟩
theorem try_54 {I : Nat → Nat → Int} {J : Nat → Nat → Int64} {dd : Nat} {c : Int} (hd : dd < 6) : tryI I J dd c 54 dd = c := by
  show zSp _ _ _ _ _ 54 dd = _
  rw [zSp_n (by omega) (by omega)]
  exact zu_s
theorem try_sp {I : Nat → Nat → Int} {J : Nat → Nat → Int64} {dd : Nat} {c : Int} : spOf (tryI I J dd c) (40 + 2 * (dd + 1)) = turnS (hv I J 1) (spOf I (40 + 2 * dd)) c := spOf_sq
theorem frB_hv {I I' : Nat → Nat → Int} {J : Nat → Nat → Int64} {dd : Nat} (h : frB I I' dd) : hv I' J 1 = hv I J 1 := hv_cong (h.1 1 (by decide) (by omega)) (h.1 2 (by decide) (by omega)) (h.1 3 (by decide) (by omega))
theorem frB_gH {I I' : Nat → Nat → Int} {dd : Nat} (h : frB I I' dd) (hg : gH I 1) : gH I' 1 := gH_cong (h.1 1 (by decide) (by omega)) (h.1 2 (by decide) (by omega)) (h.1 3 (by decide) (by omega)) hg
theorem frB_sp {I I' : Nat → Nat → Int} {dd : Nat} (h : frB I I' dd) (hd : dd ≤ 6) : spOf I' (40 + 2 * dd) = spOf I (40 + 2 * dd) := spOf_cong (h.1 _ (by omega) (by omega)) (h.1 _ (by omega) (by omega))
theorem frB_gS {I I' : Nat → Nat → Int} {dd : Nat} (h : frB I I' dd) (hd : dd ≤ 6) (hs : gS I (40 + 2 * dd)) : gS I' (40 + 2 * dd) := gS_cong (h.1 _ (by omega) (by omega)) (h.1 _ (by omega) (by omega)) hs
theorem gS_sp_of {I : Nat → Nat → Int} {s : Nat} (h : gP (spOf I s)) : gS I s := h
def brPost (I : Nat → Nat → Int) (J : Nat → Nat → Int64) (q : Nat × Nat) (dd : Nat) (res : Option (List Int)) : Option Value → zSt → Prop := fun r σ' => ∃ I', σ' = zst I' J q ∧ r = some (.int (iI (bI res.isSome))) ∧ frB I I' dd ∧ ∀ l, res = some l → ∀ j, j < l.length → I' 54 (dd + j) = l.getD j 0
theorem withinN_r {I : Nat → Nat → Int} {J : Nat → Nat → Int64} {C : Nat → Int} {l : Int} (hg : gH I 1) : 0 ≤ withinN (hv I J 1) C l ∧ withinN (hv I J 1) C l ≤ 5 := by
  have h := cnt_r (fun e => decide (stp (C e) (hv I J 1).2.2.1 ≤ l * tmN ((hv I J 1).2.2.2.2.1 e).toNat)) (hv I J 1).2.2.2.1.toNat
  obtain ⟨_, _, _, g4, _⟩ := hg
  have h2 : (hv I J 1).2.2.2.1.toNat ≤ 5 := by show (I 1 6).toNat ≤ 5; omega
  unfold withinN
  omega
theorem inN_r {I : Nat → Nat → Int} {J : Nat → Nat → Int64} {C : Nat → Int} (hg : gH I 1) : 0 ≤ inN (hv I J 1) C ∧ inN (hv I J 1) C ≤ 5 := by
  have h := cnt_r (fun e => decide (C e = (hv I J 1).2.2.1)) (hv I J 1).2.2.2.1.toNat
  obtain ⟨_, _, _, g4, _⟩ := hg
  have h2 : (hv I J 1).2.2.2.1.toNat ≤ 5 := by show (I 1 6).toNat ≤ 5; omega
  unfold inN
  omega
