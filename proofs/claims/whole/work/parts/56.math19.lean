/-! a HILL read from THE TAPE, in numbers -/
def gHR (R : HR) : Prop := ((3 ≤ R.1 0 ∧ R.1 0 ≤ 7) ∧ (0 ≤ R.1 1 ∧ R.1 1 ≤ 66) ∧ (0 ≤ R.1 2 ∧ R.1 2 ≤ 12) ∧ (0 ≤ R.1 6 ∧ R.1 6 ≤ 5) ∧ (∀ e, e < 5 → 0 ≤ R.2.2.1 e ∧ R.2.2.1 e ≤ 5) ∧ (∀ e, e < 5 → 0 ≤ R.2.2.2.1 e ∧ R.2.2.2.1 e ≤ 9)) ∧ (0 ≤ R.2.2.2.2.1 0 ∧ R.2.2.2.2.1 0 ≤ 66) ∧ (0 ≤ R.2.2.2.2.1 1 ∧ R.2.2.2.2.1 1 ≤ 4) ∧ (∀ e, e < 5 → 0 ≤ R.2.2.2.2.2 e ∧ R.2.2.2.2.2 e ≤ 66)
def drI (I : Nat → Nat → Int) (R : HR) : Nat → Nat → Int := fun i => if i = 13 then R.1 else if i = 14 then R.2.2.1 else if i = 15 then R.2.2.2.1 else if i = 16 then R.2.2.2.2.1 else if i = 17 then R.2.2.2.2.2 else I i
def drJ (J : Nat → Nat → Int64) (R : HR) : Nat → Nat → Int64 := zu J 13 5 R.2.1
theorem drI_n {I : Nat → Nat → Int} {R : HR} {i : Nat} (h : i < 13 ∨ 17 < i) : drI I R i = I i := by
  unfold drI
  rw [if_neg (by omega), if_neg (by omega), if_neg (by omega), if_neg (by omega), if_neg (by omega)]
theorem dr_g {I : Nat → Nat → Int} {R : HR} (h : gHR R) : gH (drI I R) 13 := h.1
theorem dr_s {I : Nat → Nat → Int} {R : HR} (h : gHR R) : gS (drI I R) 16 := h.2
theorem dr_set {I : Nat → Nat → Int} {R : HR} {k : Nat} {v : Int} : zu (drI I R) 13 k v = drI I (setR R k v) := by
  funext i j
  simp only [zu, drI, setR, up1]
  by_cases h : i = 13
  · subst h
    by_cases h2 : j = k <;> simp [h2, up1]
  · simp [h]
theorem dr_dog {I : Nat → Nat → Int} {R : HR} {v : Int} : zu (drI I R) 16 0 v = drI I (dogR R v) := by
  funext i j
  simp only [zu, drI, dogR, up1]
  by_cases h : i = 16
  · subst h
    by_cases h2 : j = 0 <;> simp [h2, up1]
  · simp [h]
theorem dr_ewe {I : Nat → Nat → Int} {R : HR} {kd a c : Int} : zu (zu (zu (zu (drI I R) 14 (R.1 6).toNat kd) 15 (R.1 6).toNat a) 17 (R.1 6).toNat c) 13 6 (R.1 6 + 1) = drI I (eweR R kd a c) := by
  funext i j
  simp only [zu, drI, eweR, up1]
  by_cases h : i = 13
  · subst h; by_cases h2 : j = 6 <;> simp [h2, up1]
  · by_cases h3 : i = 14
    · subst h3; simp [up1]
    · by_cases h4 : i = 15
      · subst h4; simp [up1]
      · by_cases h5 : i = 17
        · subst h5; simp [up1]
        · simp [h, h3, h4, h5]
theorem drJ_w {J : Nat → Nat → Int64} {R : HR} {w : Int64} : zu (drJ J R) 13 5 w = drJ J (walR R w) := by
  funext i j
  simp only [drJ, zu, walR]
  split <;> rfl
theorem drJ_5 {J : Nat → Nat → Int64} {R : HR} : drJ J R 13 5 = R.2.1 := zu_s
theorem drI_tk {I : Nat → Nat → Int} {R : HR} {f : Nat → Int} {n p : Nat} : tkI (drI I R) f n p = drI (tkI I f n p) R := by
  funext i j
  unfold tkI zTk
  simp only [drI]
  by_cases h : i = 11
  · subst h
    simp
  · simp [h]
theorem tk_tk {I : Nat → Nat → Int} {f f' : Nat → Int} {n n' p p' : Nat} : tkI (tkI I f n p) f' n' p' = tkI I f' n' p' := zTk_tk
/-- what the next token's reading finds -/
theorem dr_nx {I : Nat → Nat → Int} {R : HR} {n p : Nat} (hn : I 11 1 = (n : Nat)) (hT : gT I) (hp : p ≤ n) :
    drI (tkI I (I 12) n p) R 12 = I 12 ∧ (drI (tkI I (I 12) n p) R 11 1).toNat = n ∧ (drI (tkI I (I 12) n p) R 11 5).toNat = tokE (I 12) n p ∧ gT (drI (tkI I (I 12) n p) R) ∧ (0 ≤ drI (tkI I (I 12) n p) R 11 5 ∧ drI (tkI I (I 12) n p) R 11 5 ≤ drI (tkI I (I 12) n p) R 11 1) ∧ tkI (drI (tkI I (I 12) n p) R) (I 12) n (tokE (I 12) n p) = drI (tkI I (I 12) n (tokE (I 12) n p)) R := by
  have h12 : drI (tkI I (I 12) n p) R 12 = I 12 := by rw [drI_n (by omega)]; exact zTk_12
  have h11 : drI (tkI I (I 12) n p) R 11 = tkI I (I 12) n p 11 := drI_n (by omega)
  have h1 : drI (tkI I (I 12) n p) R 11 1 = (n : Nat) := by rw [h11]; exact hn
  have h5 : drI (tkI I (I 12) n p) R 11 5 = (tokE (I 12) n p : Nat) := by rw [h11]; rfl
  have hf : ∀ k, k < n → 0 ≤ I 12 k := fun k hk => (hT.2 k (by have := hT.1; omega)).1
  have hr := tok_r (p := p) hf hp
  refine ⟨h12, by rw [h1]; exact Int.toNat_natCast n, by rw [h5]; exact Int.toNat_natCast _, ?_, by rw [h1, h5]; omega, by rw [drI_tk, tk_tk]⟩
  unfold gT
  rw [h12, h1, ← hn]
  exact hT
theorem nm_ok {I : Nat → Nat → Int} {n p : Nat} (hn : I 11 1 = (n : Nat)) (hT : gT I) : -1 ≤ nmN (I 12) n p ∧ nmN (I 12) n p ≤ 99 := nmN_r (fun k hk => (hT.2 k (by have := hT.1; omega)).1)
theorem tokE_n {I : Nat → Nat → Int} {n p : Nat} (hn : I 11 1 = (n : Nat)) (hT : gT I) (hp : p ≤ n) : tokE (I 12) n p ≤ n := (tok_r (fun k hk => (hT.2 k (by have := hT.1; omega)).1) hp).2.2
/-- k statements on: from where the next is read, what there is then -/
def paS (f : Nat → Int) (n : Nat) (R : HR) : Nat → Nat × HR
  | 0 => (0, R)
  | k + 1 => (tokE f n (tokE f n (stF f n (paS f n R k).1 (paS f n R k).2).2.1), (stF f n (paS f n R k).1 (paS f n R k).2).2.2)
def paE (f : Nat → Int) (n : Nat) (R : HR) (k : Nat) : Bool := !((stF f n (paS f n R k).1 (paS f n R k).2).1 && decide (tokT f n (tokE f n (stF f n (paS f n R k).1 (paS f n R k).2).2.1) = 3))
def paO (f : Nat → Int) (n k : Nat) (s : Bool × Nat × HR) : Int × Nat × HR :=
  if s.1 = false then (-20 - (skN f n s.2.1 : Nat), s.2.1, s.2.2)
  else if tokT f n (tokE f n s.2.1) = 0 then (((k + 1 : Nat) : Int), tokE f n s.2.1, s.2.2)
  else (-20 - (skN f n (tokE f n s.2.1) : Nat), tokE f n s.2.1, s.2.2)
def paR (f : Nat → Int) (n : Nat) (R : HR) : Int × Nat × HR := match firstN (paE f n R) 250 with
  | some k => paO f n k (stF f n (paS f n R k).1 (paS f n R k).2)
  | none => (0, 0, R)
theorem st6_p {f : Nat → Int} {n p : Nat} {R : HR} : (stSide f n p R).2.1 = p ∧ (stWall f n p R).2.1 = p ∧ (stGap f n p R).2.1 = p ∧ (stPen f n p R).2.1 = p ∧ (stDog f n p R).2.1 = p ∧ (stWind f n p R).2.1 = p := by
  refine ⟨?_, ?_, ?_, ?_, ?_, ?_⟩
  · unfold stSide; split <;> rfl
  · unfold stWall; split <;> rfl
  · unfold stGap; split <;> rfl
  · unfold stPen; split <;> rfl
  · unfold stDog; split <;> rfl
  · unfold stWind; split <;> rfl
theorem stE_p {f : Nat → Int} {n p : Nat} {R : HR} : ((stEwe f n p R).2.1 = p ∧ (stEwe f n p R).1 = false) ∨ (stEwe f n p R).2.1 = tokE f n p ∨ (stEwe f n p R).2.1 = tokE f n (tokE f n p) ∨ (stEwe f n p R).2.1 = tokE f n (tokE f n (tokE f n p)) := by
  unfold stEwe
  split
  · exact .inl ⟨rfl, rfl⟩
  · split
    · exact .inr (.inl rfl)
    · split
      · exact .inr (.inr (.inl rfl))
      · split
        · exact .inr (.inr (.inr rfl))
        · exact .inr (.inr (.inr rfl))
/-- where the last token's reading began -/
theorem stF_p {f : Nat → Int} {n p : Nat} {R : HR} : ((stF f n p R).2.1 = p ∧ (stF f n p R).1 = false) ∨ (tokT f n p = 1 ∧ ((stF f n p R).2.1 = tokE f n p ∨ (stF f n p R).2.1 = tokE f n (tokE f n p) ∨ (stF f n p R).2.1 = tokE f n (tokE f n (tokE f n p)))) := by
  have h := st6_p (f := f) (n := n) (p := tokE f n p) (R := R)
  have he := stE_p (f := f) (n := n) (p := p) (R := R)
  unfold stF
  split
  · exact .inl ⟨rfl, rfl⟩
  · next ht =>
    have ht := Decidable.not_not.mp ht
    split
    · exact .inr ⟨ht, .inl h.1⟩
    · split
      · exact .inr ⟨ht, .inl h.2.1⟩
      · split
        · exact .inr ⟨ht, .inl h.2.2.1⟩
        · split
          · exact .inr ⟨ht, .inl h.2.2.2.1⟩
          · split
            · exact .inr ⟨ht, .inl h.2.2.2.2.1⟩
            · split
              · rcases he with he | he
                · exact .inl he
                · exact .inr ⟨ht, he⟩
              · split
                · exact .inr ⟨ht, .inl h.2.2.2.2.2⟩
                · exact .inl ⟨rfl, rfl⟩
theorem st_le {f : Nat → Int} {n p : Nat} {R : HR} (hf : ∀ k, k < n → 0 ≤ f k) (hp : p ≤ n) : p ≤ (stF f n p R).2.1 ∧ (stF f n p R).2.1 ≤ n := by
  have h1 := tok_r (p := p) hf hp
  have h2 := tok_r (p := tokE f n p) hf h1.2.2
  have h3 := tok_r (p := tokE f n (tokE f n p)) hf h2.2.2
  rcases stF_p (f := f) (n := n) (p := p) (R := R) with h | ⟨_, h | h | h⟩
  · rw [h.1]; omega
  · rw [h]; omega
  · rw [h]; omega
  · rw [h]; omega
theorem st_up {f : Nat → Int} {n p : Nat} {R : HR} (hf : ∀ k, k < n → 0 ≤ f k) (hp : p ≤ n) (h : (stF f n p R).1 = true) : p + 1 ≤ (stF f n p R).2.1 := by
  have h1 := tok_r (p := p) hf hp
  have h2 := tok_r (p := tokE f n p) hf h1.2.2
  have h3 := tok_r (p := tokE f n (tokE f n p)) hf h2.2.2
  rcases stF_p (f := f) (n := n) (p := p) (R := R) with q | ⟨ht, q⟩
  · rw [q.2] at h; cases h
  · have h0 := (tok_all (Or.inl ht) hf).1
    rcases q with q | q | q <;> rw [q] <;> omega
theorem eweR_g {R : HR} {kd a c : Int} (h : gHR R) (h6 : ¬ 5 ≤ R.1 6) (hk : 0 ≤ kd ∧ kd < 6) (ha : 0 ≤ a ∧ a ≤ 9) (hc : 0 ≤ c ∧ c ≤ 66) : gHR (eweR R kd a c) := by
  obtain ⟨⟨a1, a2, a3, a4, a5, a6⟩, b1, b2, b3⟩ := h
  refine ⟨⟨by simpa [eweR, up1] using a1, by simpa [eweR, up1] using a2, by simpa [eweR, up1] using a3, by simp [eweR, up1]; omega, fun e he => ?_, fun e he => ?_⟩, b1, b2, fun e he => ?_⟩
  · simp only [eweR, up1]
    split
    · omega
    · exact a5 e he
  · simp only [eweR, up1]
    split
    · omega
    · exact a6 e he
  · simp only [eweR, up1]
    split
    · omega
    · exact b3 e he
theorem st_g {f : Nat → Int} {n p : Nat} {R : HR} (h : gHR R) : gHR (stF f n p R).2.2 := by
  have hc : ∀ c, isCellN (R.1 0) c = true → 0 ≤ c ∧ c ≤ 66 := fun c hc => isCellN_r h.1.1.2 hc
  have ho : ∀ w c, openN (R.1 0) w c = true → 0 ≤ c ∧ c ≤ 66 := fun w c hc => openN_r h.1.1.2 hc
  unfold stF
  split
  · exact h
  · split
    · unfold stSide; split
      · next q => exact ⟨⟨by have := h.1.1; simp [setR, up1]; omega, h.1.2⟩, h.2⟩
      · exact h
    · split
      · unfold stWall; split <;> exact h
      · split
        · unfold stGap; split <;> exact h
        · split
          · unfold stPen; split
            · next q =>
              simp only [mpR, Bool.and_eq_true] at q
              exact ⟨⟨h.1.1, ho _ _ q.1, h.1.2.2⟩, h.2⟩
            · exact h
          · split
            · unfold stDog; split
              · next q =>
                simp only [dogsN, Bool.and_eq_true] at q
                exact ⟨h.1, ho _ _ q.2, h.2.2⟩
              · exact h
            · split
              · unfold stEwe; split
                · exact h
                · split
                  · exact h
                  · split
                    · exact h
                    · split
                      · next q1 q2 q3 q4 => exact eweR_g h q1 (Decidable.not_not.mp q2) (Decidable.not_not.mp q3) (ho _ _ q4)
                      · exact h
              · split
                · unfold stWind; split
                  · next q => exact ⟨⟨h.1.1, h.1.2.1, q, h.1.2.2.2⟩, h.2⟩
                  · exact h
                · exact h
theorem paS_ok {f : Nat → Int} {n : Nat} {R : HR} (hf : ∀ k, k < n → 0 ≤ f k) (h : gHR R) (k : Nat) : (paS f n R k).1 ≤ n ∧ gHR (paS f n R k).2 := by
  induction k with
  | zero => exact ⟨Nat.zero_le _, h⟩
  | succ k ih =>
    have h1 := st_le (R := (paS f n R k).2) hf ih.1
    have h2 := tok_r hf h1.2
    have h3 := tok_r hf h2.2.2
    exact ⟨h3.2.2, st_g ih.2⟩
theorem paS_up {f : Nat → Int} {n : Nat} {R : HR} (hf : ∀ k, k < n → 0 ≤ f k) (h : gHR R) (k : Nat) (hk : firstN (paE f n R) k = none) : k ≤ (paS f n R k).1 := by
  induction k with
  | zero => exact Nat.zero_le _
  | succ k ih =>
    have h0 := firstN_none.mp hk
    have h1 := ih (firstN_none.mpr (fun e he => h0 e (by omega)))
    have h2 := h0 k (by omega)
    simp only [paE, Bool.not_eq_false', Bool.and_eq_true, decide_eq_true_eq] at h2
    have ok := paS_ok hf h k
    have h3 := st_up hf ok.1 h2.1
    have h3' := st_le (R := (paS f n R k).2) hf ok.1
    have h4 := tok_r hf h3'.2
    have h5 := tok_r hf h4.2.2
    show k + 1 ≤ tokE f n (tokE f n (stF f n (paS f n R k).1 (paS f n R k).2).2.1)
    omega
theorem pa_some {f : Nat → Int} {n : Nat} {R : HR} (hn : n ≤ 250) (hf : ∀ k, k < n → 0 ≤ f k) (h : gHR R) : firstN (paE f n R) 250 ≠ none := by
  intro q
  have h1 := paS_up hf h 250 q
  have h2 := (paS_ok hf h 250).1
  have h3 := paS_up hf h 249 (firstN_none.mpr (fun e he => firstN_none.mp q e (by omega)))
  have h0 := firstN_none.mp q 249 (by omega)
  simp only [paE, Bool.not_eq_false', Bool.and_eq_true, decide_eq_true_eq] at h0
  have ok := paS_ok hf h 249
  have h4 := st_up hf ok.1 h0.1
  have h5 := st_le (R := (paS f n R 249).2) hf ok.1
  have h6 := tok_r hf h5.2
  have h8 := tok_r hf h6.2.2
  have h7 : ¬ n ≤ skN f n (tokE f n (stF f n (paS f n R 249).1 (paS f n R 249).2).2.1) := mt (tokT_0 hf).mpr (by omega)
  omega
