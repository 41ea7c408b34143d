/-! what a search for the most finds -/
def skG (r : Int × List Int) (n : Nat) : Prop := 0 ≤ r.1 ∧ r.2.length = n
theorem withinN_0 (H : HV) (C : Nat → Int) (l : Int) : 0 ≤ withinN H C l := by
  unfold withinN
  exact (cnt_r _ _).1
theorem skP_or {H : HV} : ∀ (k : Nat) (p : SP) (path : List Int) (acc : Int × List Int), skP H k p path acc = acc ∨ skG (skP H k p path acc) (path.length + k) := by
  intro k
  induction k with
  | zero =>
    intro p path acc
    unfold skP
    split
    · exact .inl rfl
    · exact .inr ⟨(cnt_r _ _).1, rfl⟩
  | succ k ih =>
    intro p path acc
    unfold skP
    split
    · exact .inl rfl
    · have key : ∀ n, foldN (fun c a => if canN H.1 H.2.1 H.2.2.1 p.1 (c : Int) = true then skP H k (turnS H p (c : Int)) (path ++ [(c : Int)]) a else a) acc n = acc ∨ skG (foldN (fun c a => if canN H.1 H.2.1 H.2.2.1 p.1 (c : Int) = true then skP H k (turnS H p (c : Int)) (path ++ [(c : Int)]) a else a) acc n) (path.length + (k + 1)) := by
        intro n
        induction n with
        | zero => exact .inl rfl
        | succ n ihn =>
          simp only [foldN]
          split
          · rcases ih (turnS H p (n : Int)) (path ++ [(n : Int)]) (foldN (fun c a => if canN H.1 H.2.1 H.2.2.1 p.1 (c : Int) = true then skP H k (turnS H p (c : Int)) (path ++ [(c : Int)]) a else a) acc n) with h | h
            · rw [h]; exact ihn
            · refine .inr ⟨h.1, h.2.trans ?_⟩
              rw [List.length_append]; simp; omega
          · exact ihn
      exact key 5
theorem skP_good {H : HV} : ∀ (k : Nat) (p : SP) (path : List Int) (acc : Int × List Int), acc.1 = -1 → skG (skP H k p path acc) (path.length + k) := by
  intro k
  induction k with
  | zero =>
    intro p path acc ha
    unfold skP
    rw [if_neg (by have := withinN_0 H p.2.2 0; omega)]
    exact ⟨(cnt_r _ _).1, rfl⟩
  | succ k ih =>
    intro p path acc ha
    unfold skP
    rw [if_neg (by have := withinN_0 H p.2.2 ((k + 1 : Nat) : Int); omega)]
    have key : ∀ n, skG (foldN (fun c a => if canN H.1 H.2.1 H.2.2.1 p.1 (c : Int) = true then skP H k (turnS H p (c : Int)) (path ++ [(c : Int)]) a else a) acc (n + 1)) (path.length + (k + 1)) := by
      intro n
      induction n with
      | zero =>
        simp only [foldN]
        rw [if_pos (by simp [canN])]
        have := ih (turnS H p ((0 : Nat) : Int)) (path ++ [((0 : Nat) : Int)]) acc ha
        refine ⟨this.1, this.2.trans ?_⟩
        rw [List.length_append]; simp; omega
      | succ n ihn =>
        rw [foldN]
        split
        · rcases skP_or k (turnS H p ((n + 1 : Nat) : Int)) (path ++ [((n + 1 : Nat) : Int)]) (foldN (fun c a => if canN H.1 H.2.1 H.2.2.1 p.1 (c : Int) = true then skP H k (turnS H p (c : Int)) (path ++ [(c : Int)]) a else a) acc (n + 1)) with h | h
          · rw [h]; exact ihn
          · refine ⟨h.1, h.2.trans ?_⟩
            rw [List.length_append]; simp; omega
        · exact ihn
    exact key 4
def orN (a b : Int) : Int := (iI a ||| iI b).toInt
def bareR (T : Int64) (k : Nat) (r : Int) : Int := if T &&& lsh 255 (8 * (k : Int)) = 0 then orN r ((2 ^ k : Nat) : Int) else r
def bareF (T : Int64) : Nat → Int
  | 0 => 0
  | k + 1 => if T &&& lsh 72340172838076673 (k : Int) = 0 then orN (bareR T k (bareF T k)) ((2 ^ (7 + k) : Nat) : Int) else bareR T k (bareF T k)
/-- all but the Search's and the trial's own cells stand as they were -/
def frS (I I' : Nat → Nat → Int) : Prop := ∀ i, (i < 36 ∨ 58 ≤ i) → I' i = I i
theorem frS_rf {I : Nat → Nat → Int} : frS I I := fun _ _ => rfl
theorem frS_most {I I2 : Nat → Nat → Int} {p : SP} (h : frM (zSq (zu I 38 3 (-1)) 40 p) I2 0) : frS I I2 := fun i hi => by
  rw [h.1 i (by omega) (by omega) (by omega) (by omega)]
  show zSp _ _ _ _ _ i = _
  rw [zSp_n (by omega) (by omega), zu_ne (by omega)]
def fMost (m i : Int) : Int := if (0 ≤ m ∧ m ≤ 5) ∧ -1 ≤ i ∧ i < m then 0 else -2
def mostN (I : Nat → Nat → Int) (J : Nat → Nat → Int64) (m i : Int) : Int := if i = -1 then (skP (hv I J 1) m.toNat (spOf I 4) [] (-1, [])).1 else (skP (hv I J 1) m.toNat (spOf I 4) [] (-1, [])).2.getD i.toNat 0
