/-! how the reference's ewes go -/
def ffold (n : Int) (w : Int64) (dog mark cell : Int) : Nat → Int
  | 0 => -1
  | k + 1 => if ¬ bsN n w cell (k + 1) = -1 ∧ stp cell dog < stp (bsN n w cell (k + 1)) dog ∧ (ffold n w dog mark cell k = -1 ∨ (¬ mark = -1 ∧ stp (bsN n w cell (k + 1)) mark < stp (ffold n w dog mark cell k) mark)) then bsN n w cell (k + 1) else ffold n w dog mark cell k
theorem bsN_7 {n : Int} {w : Int64} {c : Int} {k : Nat} (hn : n ≤ 7) : bsN n w c k = -1 ∨ gC7 (bsN n w c k) := by
  unfold bsN
  split
  · next h => exact .inr (gC7_o hn h)
  · exact .inl rfl
theorem ffold_7 {n : Int} {w : Int64} {dog mark cell : Int} (hn : n ≤ 7) (k : Nat) : ffold n w dog mark cell k = -1 ∨ gC7 (ffold n w dog mark cell k) := by
  induction k with
  | zero => exact .inl rfl
  | succ k ih =>
    simp only [ffold]
    split
    · exact bsN_7 hn
    · exact ih
theorem ffold_n {n : Int} {w : Int64} {dog mark cell : Int} (hn : n ≤ 7) (k : Nat) : (ffold n w dog mark cell k = -1 ∧ nfold n w dog mark cell k = (cell, 0)) ∨ (¬ ffold n w dog mark cell k = -1 ∧ ¬ ffold n w dog mark cell k = cell ∧ nfold n w dog mark cell k = (ffold n w dog mark cell k, farN mark (ffold n w dog mark cell k))) := by
  induction k with
  | zero => exact .inl ⟨rfl, rfl⟩
  | succ k ih =>
    have h7 := bsN_7 (w := w) (c := cell) (k := k + 1) hn
    simp only [ffold, nfold]
    unfold nstp
    obtain ⟨b, hb⟩ : ∃ b, b = bsN n w cell (k + 1) := ⟨_, rfl⟩
    rw [← hb] at h7 ⊢
    unfold bsN at hb
    by_cases ho : openN n w (cell + shN (k + 1)) = true
    · rw [if_pos ho] at hb
      have hr := gC7_o hn ho
      rw [← hb] at ho hr ⊢
      have hb1 : ¬ b = -1 := by have := hr.1.1; omega
      by_cases hs : stp cell dog < stp b dog
      · have hbc : ¬ b = cell := fun q => by rw [q] at hs; omega
        rcases ih with ⟨i1, i2⟩ | ⟨i1, i2, i3⟩
        · rw [i1, i2, if_pos ⟨hb1, hs, .inl rfl⟩, if_pos ⟨ho, hs, .inl rfl⟩]
          exact .inr ⟨hb1, hbc, rfl⟩
        · rw [i3]
          obtain ⟨fd, hfd⟩ : ∃ fd, fd = ffold n w dog mark cell k := ⟨_, rfl⟩
          rw [← hfd] at i1 i2 ⊢
          by_cases hm : ¬ mark = -1 ∧ stp b mark < stp fd mark
          · rw [if_pos ⟨hb1, hs, .inr hm⟩, if_pos ⟨ho, hs, .inr (by unfold farN; rw [if_neg hm.1, if_neg hm.1]; exact hm.2)⟩]
            exact .inr ⟨hb1, hbc, rfl⟩
          · rw [if_neg (fun q => by rcases q.2.2 with z | z; exact i1 z; exact hm z), if_neg (fun q => by
              rcases q.2.2 with z | z
              · exact i2 z
              · unfold farN at z
                by_cases m1 : mark = -1
                · rw [if_pos m1, if_pos m1] at z; omega
                · rw [if_neg m1, if_neg m1] at z; exact hm ⟨m1, z⟩)]
            exact .inr ⟨i1, i2, rfl⟩
      · rw [if_neg (fun q => hs q.2.1), if_neg (fun q => hs q.2.1)]
        exact ih
    · rw [if_neg ho] at hb
      rw [if_neg (fun q => q.1 hb), if_neg (fun q => ho q.1)]
      exact ih
theorem flee_n {n : Int} {w : Int64} {dog mark cell : Int} (hn : n ≤ 7) : nextN n w cell dog mark = if ffold n w dog mark cell 4 = -1 then cell else ffold n w dog mark cell 4 := by
  unfold nextN
  rcases ffold_n (w := w) (dog := dog) (mark := mark) (cell := cell) hn 4 with ⟨i1, i2⟩ | ⟨i1, i2, i3⟩
  · rw [i2, if_pos i1]
  · rw [i3, if_neg i1]
theorem up1_self {C : Nat → Int} {w : Nat} : up1 C w (C w) = C := by
  funext k
  simp only [up1]
  split
  · next h => rw [h]
  · rfl
theorem up1_up1 {C : Nat → Int} {w : Nat} {a b : Int} : up1 (up1 C w a) w b = up1 C w b := by
  funext k
  simp only [up1]
  split <;> rfl
theorem up1_s {C : Nat → Int} {w : Nat} {a : Int} : up1 C w a w = a := if_pos rfl
theorem zu62 {I : Nat → Nat → Int} {w : Nat} {v : Int} : zu I 62 w v = zRq I (I 58 3, I 58 4, up1 (I 62) w v) := by
  have h := zRq_pc (I := I) (p := spR I) (e := w) (v := v)
  rw [zRq_self] at h
  exact h
theorem zu583 {I : Nat → Nat → Int} {v : Int} : zu I 58 3 v = zRq I (v, I 58 4, I 62) := by
  have h := zRq_p3 (I := I) (p := spR I) (v := v)
  rw [zRq_self] at h
  exact h
theorem zu584 {I : Nat → Nat → Int} {v : Int} : zu I 58 4 v = zRq I (I 58 3, v, I 62) := by
  have h := zRq_p4 (I := I) (p := spR I) (v := v)
  rw [zRq_self] at h
  exact h
theorem zRq_s0 {I : Nat → Nat → Int} {w : Nat} : zRq I (I 58 3, I 58 4, up1 (I 62) w (I 62 w)) = I := by
  rw [up1_self]
  exact zRq_self
theorem leadN_up {K C : Nat → Int} {pen v : Int} {w n : Nat} : leadN K (up1 C w v) pen w n = leadN K C pen w n := by
  have hP : leadP K (up1 C w v) pen w = leadP K C pen w := by
    funext e
    unfold leadP up1
    by_cases h : e = w
    · simp [h]
    · simp [h]
  unfold leadN
  rw [hP]
  split
  · next e he =>
    have h2 := (firstN_lt he).2
    have hne : e ≠ w := fun q => by rw [q] at h2; simp [leadP] at h2
    simp [up1, hne]
  · rfl
theorem git_1 {n : Int} {w : Int64} {pen dog fears stares mark c : Int} (hp : ¬ c = pen) : git n w pen dog fears stares mark c 1 = if stp c dog ≤ fears ∧ stares < stp c dog then nextN n w c dog mark else c := by
  show gstp n w pen dog fears stares mark c = _
  unfold gstp
  rw [if_neg hp]
theorem leadN_7 {K C : Nat → Int} {pen : Int} {w n : Nat} (hn : n ≤ 5) (hC : ∀ e, e < 5 → gC7 (C e)) : leadN K C pen w n = -1 ∨ gC7 (leadN K C pen w n) := by
  unfold leadN
  split
  · next e he => exact .inr (hC e (by have := (firstN_lt he).1; omega))
  · exact .inl rfl
theorem bsN_c {n : Int} {w : Int64} {pen c : Int} {k : Nat} (hc : gC7 c) (hn : n ≤ 7) : (¬ bsN n w c k = -1 ∧ ¬ bsN n w c k = pen) ↔ dogsN n w pen (c + shN k) = true := by
  have h7 := bsN_7 (w := w) (c := c) (k := k) hn
  unfold bsN at h7 ⊢
  unfold dogsN
  by_cases ho : openN n w (c + shN k) = true
  · rw [if_pos ho] at h7 ⊢
    have h8 := gC7_o hn ho
    have : ¬ c + shN k = -1 := by have := h8.1.1; omega
    rw [ho]
    simp [this]
  · rw [if_neg ho] at h7 ⊢
    have ho := Bool.eq_false_iff.mpr ho
    rw [ho]
    simp
/-- a place of the saved row: what it keeps at a depth -/
def svI (I : Nat → Nat → Int) (d : Nat) (p : SP) : Nat → Nat → Int := fun i k => if i = 70 ∧ 7 * d ≤ k ∧ k < 7 * d + 7 then (if k = 7 * d then p.1 else if k = 7 * d + 1 then p.2.1 else p.2.2 (k - (7 * d + 2))) else I i k
def svK (I : Nat → Nat → Int) (d : Nat) (p : SP) (m : Nat) : Nat → Nat → Int := fun i k => if i = 70 ∧ 7 * d ≤ k ∧ k < 7 * d + 2 + m then (if k = 7 * d then p.1 else if k = 7 * d + 1 then p.2.1 else p.2.2 (k - (7 * d + 2))) else I i k
theorem svK_s {I : Nat → Nat → Int} {d m : Nat} {p : SP} : zu (svK I d p m) 70 (7 * d + 2 + m) (p.2.2 m) = svK I d p (m + 1) := by
  funext i k
  simp only [zu, svK]
  by_cases h : i = 70 ∧ k = 7 * d + 2 + m
  · obtain ⟨rfl, rfl⟩ := h
    rw [if_pos ⟨rfl, rfl⟩, if_pos (by omega), if_neg (by omega), if_neg (by omega), show 7 * d + 2 + m - (7 * d + 2) = m by omega]
  · rw [if_neg h]
    by_cases h2 : i = 70 ∧ 7 * d ≤ k ∧ k < 7 * d + 2 + m
    · rw [if_pos h2, if_pos (show i = 70 ∧ 7 * d ≤ k ∧ k < 7 * d + 2 + (m + 1) by omega)]
    · rw [if_neg h2, if_neg (by omega)]
theorem svK_0 {I : Nat → Nat → Int} {d : Nat} {p : SP} : zu (zu I 70 (7 * d) p.1) 70 (7 * d + 1) p.2.1 = svK I d p 0 := by
  funext i k
  simp only [zu, svK]
  by_cases h : i = 70
  · subst h
    by_cases h1 : k = 7 * d + 1
    · subst h1
      rw [if_pos ⟨rfl, rfl⟩, if_pos (by omega), if_neg (by omega), if_pos rfl]
    · rw [if_neg (by omega)]
      by_cases h2 : k = 7 * d
      · subst h2
        rw [if_pos ⟨rfl, rfl⟩, if_pos (by omega), if_pos rfl]
      · rw [if_neg (by omega), if_neg (by omega)]
  · rw [if_neg (by omega), if_neg (by omega), if_neg (by omega)]
theorem svK_5 {I : Nat → Nat → Int} {d : Nat} {p : SP} : svK I d p 5 = svI I d p := rfl
theorem svI_n {I : Nat → Nat → Int} {d i : Nat} {p : SP} (h : i ≠ 70) : svI I d p i = I i := by
  funext k
  unfold svI
  rw [if_neg (by omega)]
theorem svK_n {I : Nat → Nat → Int} {d m i : Nat} {p : SP} (h : i ≠ 70) : svK I d p m i = I i := by
  funext k
  unfold svK
  rw [if_neg (by omega)]
/-- what is saved at a depth -/
def svP (I : Nat → Nat → Int) (d : Nat) : SP := (I 70 (7 * d), I 70 (7 * d + 1), fun e => I 70 (7 * d + 2 + e))
theorem svI_p {I : Nat → Nat → Int} {d : Nat} {p : SP} : (svP (svI I d p) d).1 = p.1 ∧ (svP (svI I d p) d).2.1 = p.2.1 ∧ ∀ e, e < 5 → (svP (svI I d p) d).2.2 e = p.2.2 e := by
  refine ⟨?_, ?_, fun e he => ?_⟩
  · show svI I d p 70 (7 * d) = _
    unfold svI
    rw [if_pos (by omega), if_pos rfl]
  · show svI I d p 70 (7 * d + 1) = _
    unfold svI
    rw [if_pos (by omega), if_neg (by omega), if_pos rfl]
  · show svI I d p 70 (7 * d + 2 + e) = _
    unfold svI
    rw [if_pos (by omega), if_neg (by omega), if_neg (by omega), show 7 * d + 2 + e - (7 * d + 2) = e by omega]
def cpK (C S : Nat → Int) (m : Nat) : Nat → Int := fun k => if k < m then S k else C k
theorem cpK_s {C S : Nat → Int} {m : Nat} : up1 (cpK C S m) m (S m) = cpK C S (m + 1) := by
  funext k
  simp only [up1, cpK]
  by_cases h : k = m
  · subst h; rw [if_pos rfl, if_pos (by omega)]
  · rw [if_neg h]
    by_cases h2 : k < m
    · rw [if_pos h2, if_pos (by omega)]
    · rw [if_neg h2, if_neg (by omega)]
