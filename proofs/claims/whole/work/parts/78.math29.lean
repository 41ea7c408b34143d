theorem frG_tr {I I1 I2 : Nat → Nat → Int} {d1 dd : Nat} (h : dd ≤ d1) (a : frG I I1 dd) (b : frG I1 I2 d1) : frG I I2 dd :=
  ⟨fun i h1 h2 => (b.1 i h1 h2).trans (a.1 i h1 h2), fun j hj => (b.2.1 j (by omega)).trans (a.2.1 j hj), fun j hj => (b.2.2 j (by omega)).trans (a.2.2 j hj)⟩
/-! the reference's most -/
def skR (H : HV) : Nat → SP → List Int → Int × List Int → Int × List Int
  | 0, p, path, acc => if inN H p.2.2 ≤ acc.1 then acc else (inN H p.2.2, path)
  | k + 1, p, path, acc => foldN (fun c a => if canN H.1 H.2.1 H.2.2.1 p.1 (c : Int) = true then skR H k (turnS H p (c : Int)) (path ++ [(c : Int)]) a else a) acc 5
def frK (I I' : Nat → Nat → Int) (dd : Nat) : Prop := (∀ i, i ≠ 58 → i ≠ 70 → i ≠ 71 → i ≠ 72 → I' i = I i) ∧ (∀ k, k ≠ 28 → I' 58 k = I 58 k) ∧ (∀ j, j < dd → I' 71 j = I 71 j) ∧ ∀ j, j < 7 * dd → I' 70 j = I 70 j
theorem frK_rf {I : Nat → Nat → Int} {dd : Nat} : frK I I dd := ⟨fun _ _ _ _ _ => rfl, fun _ _ => rfl, fun _ _ => rfl, fun _ _ => rfl⟩
theorem frK_tr {I I1 I2 : Nat → Nat → Int} {d1 dd : Nat} (h : dd ≤ d1) (a : frK I I1 dd) (b : frK I1 I2 d1) : frK I I2 dd :=
  ⟨fun i h1 h2 h3 h4 => (b.1 i h1 h2 h3 h4).trans (a.1 i h1 h2 h3 h4), fun k hk => (b.2.1 k hk).trans (a.2.1 k hk), fun j hj => (b.2.2.1 j (by omega)).trans (a.2.2.1 j hj), fun j hj => (b.2.2.2 j (by omega)).trans (a.2.2.2 j hj)⟩
theorem frK_sv {I : Nat → Nat → Int} {dd : Nat} {p : SP} : frK I (svI I dd p) dd := ⟨fun i _ h1 _ _ => svI_n h1, fun k _ => by rw [svI_n (by decide)], fun j _ => by rw [svI_n (by decide)], fun j hj => by unfold svI; rw [if_neg (by omega)]⟩
theorem frK_k {I I' : Nat → Nat → Int} {dd : Nat} (h : frK I I' dd) {k : Nat} (hk : k < 28) : I' 58 k = I 58 k := h.2.1 k (by omega)
theorem frK_hv {I I' : Nat → Nat → Int} {dd : Nat} (h : frK I I' dd) : hvR I' = hvR I := by
  unfold hvR
  rw [frK_k h (by decide), frK_k h (by decide), frK_k h (by decide), h.1 59 (by decide) (by decide) (by decide) (by decide), h.1 60 (by decide) (by decide) (by decide) (by decide), h.1 61 (by decide) (by decide) (by decide) (by decide)]
theorem frK_gR {I I' : Nat → Nat → Int} {dd : Nat} (h : frK I I' dd) (hg : gR I) : gR I' := by
  unfold gR
  rw [frK_k h (by decide), frK_k h (by decide), frK_k h (by decide), frK_k h (by decide), h.1 59 (by decide) (by decide) (by decide) (by decide), h.1 60 (by decide) (by decide) (by decide) (by decide), h.1 61 (by decide) (by decide) (by decide) (by decide)]
  exact hg
theorem frK_sp {I I' : Nat → Nat → Int} {dd : Nat} (h : frK I I' dd) : spR I' = spR I := by
  unfold spR
  rw [frK_k h (by decide), frK_k h (by decide), h.1 62 (by decide) (by decide) (by decide) (by decide)]
theorem frK_o {I I' : Nat → Nat → Int} {dd : Nat} (h : frK I I' dd) (ho : openN (I 58 0) (maskW (I 59)) (I 58 3) = true) : openN (I' 58 0) (maskW (I' 59)) (I' 58 3) = true := by
  rw [frK_k h (by decide), frK_k h (by decide), h.1 59 (by decide) (by decide) (by decide) (by decide)]
  exact ho
theorem frK_R {I I' : Nat → Nat → Int} {dd : Nat} (h : frK I I' dd) : frR I I' := ⟨fun i h1 h2 => h.1 i h1 (by omega) (by omega) (by omega), fun k hk => h.2.1 k (by omega)⟩
theorem frK_back {I I' I2 : Nat → Nat → Int} {dd : Nat} {c : Int} {p : SP} (h : frK I I' dd) (hs : svAt I' dd (spR I)) (h2 : frK (tryR I' dd c p) I2 (dd + 1)) : frK I (zRq I2 (spR I)) dd ∧ svAt I2 dd (spR I) := by
  have e70 : ∀ j, j < 7 * (dd + 1) → I2 70 j = I' 70 j := fun j hj => by
    rw [h2.2.2.2 j hj]
    unfold tryR
    rw [zRq_n (by decide) (by decide), zu_ne (by decide)]
  refine ⟨⟨fun i h3 h4 h5 h6 => ?_, fun k hk => ?_, fun j hj => ?_, fun j hj => ?_⟩, ?_, ?_, fun e he => ?_⟩
  · by_cases h5b : i = 62
    · subst h5b; rfl
    · rw [zRq_n h3 h5b, h2.1 i h3 h4 h5 h6]
      unfold tryR
      rw [zRq_n h3 h5b, zu_ne h5]
      exact h.1 i h3 h4 h5 h6
  · have h6 := h2.2.1 k hk
    have h7 := h.2.1 k hk
    unfold tryR at h6
    simp only [zRq, if_true] at h6 ⊢
    by_cases h8 : k = 3
    · subst h8; rfl
    · by_cases h9 : k = 4
      · subst h9; rfl
      · rw [if_neg h8, if_neg h9] at h6 ⊢
        rw [h6, zu_ne (by decide), h7]
  · rw [zRq_n (by decide) (by decide), h2.2.2.1 j (by omega)]
    unfold tryR
    rw [zRq_n (by decide) (by decide), zu_n (by omega)]
    exact h.2.2.1 j hj
  · rw [zRq_n (by decide) (by decide), e70 j (by omega)]
    exact h.2.2.2 j hj
  · rw [e70 _ (by omega)]; exact hs.1
  · rw [e70 _ (by omega)]; exact hs.2.1
  · rw [e70 _ (by omega)]; exact hs.2.2 e he
def skAR (I : Nat → Nat → Int) (acc : Int × List Int) : Prop := I 58 28 = acc.1 ∧ (-1 ≤ acc.1 ∧ acc.1 ≤ 5) ∧ ∀ j, j < acc.2.length → I 72 j = acc.2.getD j 0
def skTR (I : Nat → Nat → Int) (dd : Nat) (path : List Int) : Prop := path.length = dd ∧ ∀ j, j < dd → I 71 j = path.getD j 0
def skPostR (I : Nat → Nat → Int) (J : Nat → Nat → Int64) (q : Nat × Nat) (dd : Nat) (res : Int × List Int) : Option Value → zSt → Prop := fun r σ' => ∃ I', σ' = zst I' J q ∧ r = none ∧ frK I I' dd ∧ skAR I' res
theorem skAR_q {I : Nat → Nat → Int} {p : SP} {acc : Int × List Int} (h : skAR I acc) : skAR (zRq I p) acc := by
  unfold skAR
  rw [zRq_k (by decide) (by decide), zRq_n (by decide) (by decide)]
  exact h
theorem skAR_sv {I : Nat → Nat → Int} {dd : Nat} {p : SP} {acc : Int × List Int} (h : skAR I acc) : skAR (svI I dd p) acc := by
  unfold skAR
  rw [svI_n (by decide), svI_n (by decide)]
  exact h
theorem skAR_try {I : Nat → Nat → Int} {dd : Nat} {c : Int} {p : SP} {acc : Int × List Int} (h : skAR I acc) : skAR (tryR I dd c p) acc := skAR_q (by
  unfold skAR
  rw [zu_ne (by decide), zu_ne (by decide)]
  exact h)
theorem skTR_fr {I I' : Nat → Nat → Int} {dd : Nat} {path : List Int} (hf : frK I I' dd) (h : skTR I dd path) : skTR I' dd path := ⟨h.1, fun j hj => (hf.2.2.1 j hj).trans (h.2 j hj)⟩
theorem skTR_try {I : Nat → Nat → Int} {dd : Nat} {c : Int} {p : SP} {path : List Int} (h : skTR I dd path) : skTR (tryR I dd c p) (dd + 1) (path ++ [c]) := by
  refine ⟨by rw [List.length_append, h.1]; rfl, fun j hj => ?_⟩
  unfold tryR
  rw [zRq_n (by decide) (by decide)]
  by_cases e : j = dd
  · subst e
    rw [zu_s, List.getD_eq_getElem?_getD, List.getElem?_append_right (by rw [h.1]; exact Nat.le_refl _), h.1]
    simp
  · rw [zu_n (by omega), h.2 j (by omega), List.getD_eq_getElem?_getD, List.getD_eq_getElem?_getD, List.getElem?_append_left (by rw [h.1]; omega)]
/-- the reference's best, with the row that is copied -/
def stB (I : Nat → Nat → Int) (x : Int) (C : Nat → Int) : Nat → Nat → Int := fun i k => if i = 72 then C k else zu I 58 28 x i k
theorem stB_0 {I : Nat → Nat → Int} {x : Int} : stB I x (cpK (I 72) (I 71) 0) = zu I 58 28 x := by
  funext i k
  unfold stB
  by_cases h : i = 72
  · subst h
    rw [if_pos rfl, zu_ne (by decide)]
    unfold cpK
    rw [if_neg (by omega)]
  · rw [if_neg h]
theorem stB_p {I : Nat → Nat → Int} {x v : Int} {C : Nat → Int} {m : Nat} : zu (stB I x C) 72 m v = stB I x (up1 C m v) := by
  funext i k
  simp only [zu, stB, up1]
  by_cases h : i = 72
  · subst h
    by_cases h2 : k = m
    · simp [h2]
    · simp [h2]
  · simp [h]
theorem stB_n {I : Nat → Nat → Int} {x : Int} {C : Nat → Int} {i : Nat} (h : i ≠ 72) : stB I x C i = zu I 58 28 x i := by
  funext k
  unfold stB
  rw [if_neg h]
theorem stB_k {I : Nat → Nat → Int} {x : Int} {dd : Nat} {path : List Int} (hx : -1 ≤ x ∧ x ≤ 5) (h : skTR I dd path) : frK I (stB I x (cpK (I 72) (I 71) dd)) dd ∧ skAR (stB I x (cpK (I 72) (I 71) dd)) (x, path) := by
  refine ⟨⟨fun i h1 h2 h3 h4 => ?_, fun k hk => ?_, fun j _ => ?_, fun j _ => ?_⟩, ?_, hx, fun j hj => ?_⟩
  · rw [stB_n h4, zu_ne h1]
  · rw [stB_n (by decide), zu_n (by omega)]
  · rw [stB_n (by decide), zu_ne (by decide)]
  · rw [stB_n (by decide), zu_ne (by decide)]
  · rw [stB_n (by decide)]; exact zu_s
  · have hj2 : j < dd := by rw [← h.1]; exact hj
    show (if (72 : Nat) = 72 then cpK (I 72) (I 71) dd j else _) = path.getD j 0
    rw [if_pos rfl]
    unfold cpK
    rw [if_pos hj2]
    exact h.2 j hj2
theorem skR_or {H : HV} : ∀ (k : Nat) (p : SP) (path : List Int) (acc : Int × List Int), skR H k p path acc = acc ∨ skG (skR H k p path acc) (path.length + k) := by
  intro k
  induction k with
  | zero =>
    intro p path acc
    unfold skR
    split
    · exact .inl rfl
    · exact .inr ⟨(cnt_r _ _).1, rfl⟩
  | succ k ih =>
    intro p path acc
    unfold skR
    have key : ∀ n, foldN (fun c a => if canN H.1 H.2.1 H.2.2.1 p.1 (c : Int) = true then skR H k (turnS H p (c : Int)) (path ++ [(c : Int)]) a else a) acc n = acc ∨ skG (foldN (fun c a => if canN H.1 H.2.1 H.2.2.1 p.1 (c : Int) = true then skR H k (turnS H p (c : Int)) (path ++ [(c : Int)]) a else a) acc n) (path.length + (k + 1)) := by
      intro n
      induction n with
      | zero => exact .inl rfl
      | succ n ihn =>
        simp only [foldN]
        split
        · rcases ih (turnS H p (n : Int)) (path ++ [(n : Int)]) (foldN (fun c a => if canN H.1 H.2.1 H.2.2.1 p.1 (c : Int) = true then skR H k (turnS H p (c : Int)) (path ++ [(c : Int)]) a else a) acc n) with h | h
          · rw [h]; exact ihn
          · refine .inr ⟨h.1, h.2.trans ?_⟩
            rw [List.length_append]; simp; omega
        · exact ihn
    exact key 5
theorem skR_good {H : HV} : ∀ (k : Nat) (p : SP) (path : List Int) (acc : Int × List Int), acc.1 = -1 → skG (skR H k p path acc) (path.length + k) := by
  intro k
  induction k with
  | zero =>
    intro p path acc ha
    unfold skR
    rw [if_neg (by have : 0 ≤ inN H p.2.2 := (cnt_r _ _).1; omega)]
    exact ⟨(cnt_r _ _).1, rfl⟩
  | succ k ih =>
    intro p path acc ha
    unfold skR
    have key : ∀ n, skG (foldN (fun c a => if canN H.1 H.2.1 H.2.2.1 p.1 (c : Int) = true then skR H k (turnS H p (c : Int)) (path ++ [(c : Int)]) a else a) acc (n + 1)) (path.length + (k + 1)) := by
      intro n
      induction n with
      | zero =>
        simp only [foldN]
        rw [if_pos (by simp [canN])]
        have := ih (turnS H p ((0 : Nat) : Int)) (path ++ [((0 : Nat) : Int)]) acc ha
        refine ⟨this.1, this.2.trans ?_⟩
        rw [List.length_append]; simp; omega
      | succ n ihn =>
        rw [foldN]
        split
        · rcases skR_or k (turnS H p ((n + 1 : Nat) : Int)) (path ++ [((n + 1 : Nat) : Int)]) (foldN (fun c a => if canN H.1 H.2.1 H.2.2.1 p.1 (c : Int) = true then skR H k (turnS H p (c : Int)) (path ++ [(c : Int)]) a else a) acc (n + 1)) with h | h
          · rw [h]; exact ihn
          · refine ⟨h.1, h.2.trans ?_⟩
            rw [List.length_append]; simp; omega
        · exact ihn
    exact key 4
def mostR (I : Nat → Nat → Int) (m i : Int) : Int := if i = -1 then (skR (hvR I) m.toNat (spR I) [] (-1, [])).1 else (skR (hvR I) m.toNat (spR I) [] (-1, [])).2.getD i.toNat 0
theorem frR_u {I : Nat → Nat → Int} {x : Int} : frR I (zu I 58 28 x) := ⟨fun i h1 _ => zu_ne h1, fun k h => zu_n (by omega)⟩
