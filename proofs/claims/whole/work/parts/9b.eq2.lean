/-! class and reference: who moved, fewest, most, ways -/
theorem nfold_n {n : Int} {w : Int64} {dog mark cell : Int} : ∀ k, ((nfold n w dog mark cell k).1 = cell ∨ stp cell dog < stp (nfold n w dog mark cell k).1 dog) ∧ ((nfold n w dog mark cell k).1 = cell ↔ ∀ j, j < k → ¬ (openN n w (cell + shN (j + 1)) = true ∧ stp cell dog < stp (cell + shN (j + 1)) dog)) := by
  intro k
  induction k with
  | zero => exact ⟨.inl rfl, fun _ j hj => by omega, fun _ => rfl⟩
  | succ k ih =>
    simp only [nfold, nstp]
    obtain ⟨x, hx⟩ : ∃ x, x = nfold n w dog mark cell k := ⟨_, rfl⟩
    rw [← hx] at ih ⊢
    by_cases h : openN n w (cell + shN (k + 1)) = true ∧ stp cell dog < stp (cell + shN (k + 1)) dog ∧ (x.1 = cell ∨ farN mark (cell + shN (k + 1)) < x.2)
    · rw [if_pos h]
      refine ⟨.inr h.2.1, fun z => ?_, fun z => absurd ⟨h.1, h.2.1⟩ (z k (by omega))⟩
      exfalso
      have h2 := h.2.1
      have z : cell + shN (k + 1) = cell := z
      rw [z] at h2
      omega
    · rw [if_neg h]
      refine ⟨ih.1, fun z j hj => ?_, fun z => ih.2.mpr (fun j hj => z j (by omega))⟩
      by_cases e : j = k
      · subst e
        exact fun q => h ⟨q.1, q.2, .inl z⟩
      · exact ih.2.mp z j (by omega)
theorem next_m {n : Int} {w : Int64} {dog mark mark' cell : Int} : nextN n w cell dog mark = cell ↔ nextN n w cell dog mark' = cell :=
  ((nfold_n (n := n) (w := w) (dog := dog) (mark := mark) (cell := cell) 4).2).trans ((nfold_n (mark := mark') 4).2).symm
theorem gstp_m {n : Int} {w : Int64} {pen dog fears stares mark mark' c : Int} : gstp n w pen dog fears stares mark c = c ↔ gstp n w pen dog fears stares mark' c = c := by
  unfold gstp
  split
  · exact Iff.rfl
  · split
    · exact next_m
    · exact Iff.rfl
theorem gstp_up {n : Int} {w : Int64} {pen dog fears stares mark c : Int} : gstp n w pen dog fears stares mark c = c ∨ stp c dog < stp (gstp n w pen dog fears stares mark c) dog := by
  unfold gstp
  split
  · exact .inl rfl
  · split
    · exact (nfold_n 4).1
    · exact .inl rfl
theorem git_up {n : Int} {w : Int64} {pen dog fears stares mark c : Int} (h : ¬ gstp n w pen dog fears stares mark c = c) : ∀ t, stp c dog < stp (git n w pen dog fears stares mark c (t + 1)) dog := by
  intro t
  induction t with
  | zero =>
    show stp c dog < stp (gstp n w pen dog fears stares mark c) dog
    exact gstp_up.resolve_left h
  | succ t ih =>
    rw [git]
    rcases gstp_up (n := n) (w := w) (pen := pen) (dog := dog) (fears := fears) (stares := stares) (mark := mark) (c := git n w pen dog fears stares mark c (t + 1)) with e | e
    · rw [e]; exact ih
    · omega
theorem git_st {n : Int} {w : Int64} {pen dog fears stares mark c : Int} (h : gstp n w pen dog fears stares mark c = c) : ∀ t, git n w pen dog fears stares mark c t = c := by
  intro t
  induction t with
  | zero => rfl
  | succ t ih => rw [git, ih]; exact h
theorem git_ne {n : Int} {w : Int64} {pen dog fears stares mark c : Int} {t : Nat} (ht : 0 < t) : git n w pen dog fears stares mark c t = c ↔ gstp n w pen dog fears stares mark c = c := by
  constructor
  · intro h
    by_cases q : gstp n w pen dog fears stares mark c = c
    · exact q
    · have h2 := git_up q (t - 1)
      rw [show t - 1 + 1 = t by omega, h] at h2
      omega
  · intro h; exact git_st h t
/-- whether it goes at all: its own CELL says so, not the others' -/
theorem goal_m {H : HV} {dog kd : Int} {C C' : Nat → Int} {w : Nat} (hk : 0 ≤ kd ∧ kd ≤ 5) (h : C' w = C w) : goalN H dog C' w kd = C w ↔ goalN H dog C w kd = C w := by
  have ht := (tmN_r (k := kd.toNat) (by omega)).1
  unfold goalN
  rw [h, git_ne (by omega), git_ne (by omega)]
  exact gstp_m
theorem turnC_s {H : HV} {dog : Int} {C : Nat → Int} : ∀ (n e : Nat), e < n → turnC H dog C n e = goalN H dog (turnC H dog C e) e (H.2.2.2.2.1 e) ∧ turnC H dog C e e = C e := by
  have hb : ∀ n e, n ≤ e → turnC H dog C n e = C e := by
    intro n
    induction n with
    | zero => intro e _; rfl
    | succ n ih =>
      intro e he
      simp only [turnC, up1]
      rw [if_neg (by omega)]
      exact ih e (by omega)
  intro n
  induction n with
  | zero => intro e he; omega
  | succ n ih =>
    intro e he
    refine ⟨?_, hb e e (Nat.le_refl e)⟩
    simp only [turnC, up1]
    by_cases q : e = n
    · subst q; rw [if_pos rfl]
    · rw [if_neg q]; exact (ih e (by omega)).1
theorem turn_ne {H : HV} {p : SP} {c : Int} {e : Nat} (hk : 0 ≤ H.2.2.2.2.1 e ∧ H.2.2.2.2.1 e ≤ 5) (he : e < H.2.2.2.1.toNat) : (turnS H p c).2.2 e = p.2.2 e ↔ goalN H (dogN H p.1 c) p.2.2 e (H.2.2.2.2.1 e) = p.2.2 e := by
  have h := turnC_s (H := H) (dog := dogN H p.1 c) (C := p.2.2) _ e he
  show turnC H (dogN H p.1 c) p.2.2 H.2.2.2.1.toNat e = p.2.2 e ↔ _
  rw [h.1]
  exact goal_m hk h.2
theorem dogN_0 {H : HV} {d : Int} : dogN H d 0 = d := by
  unfold dogN
  split
  · show d + shN 0 = d
    rw [show shN 0 = 0 from rfl, Int.add_zero]
  · rfl
theorem mv_at {I : Nat → Nat → Int} (hg : gR I) (d : Int) {e : Nat} (he : e < (I 58 5).toNat) : (!decide ((turnS (hvR I) (d, I 58 4, I 62) 0).2.2 e = I 62 e)) = (!decide (goalN (hvR I) d (I 62) e (I 60 e) = I 62 e)) := by
  have h := turn_ne (H := hvR I) (p := (d, I 58 4, I 62)) (c := 0) (e := e) (hg.2.2.2.2.1 e (by have := hg.2.2.2.1; omega)) he
  rw [dogN_0] at h
  exact congrArg _ (decide_eq_decide.mpr h)
theorem bitsN_cg {P Q : Nat → Bool} : ∀ n, (∀ e, e < n → P e = Q e) → bitsN P n = bitsN Q n
  | 0, _ => rfl
  | n + 1, h => by
    simp only [bitsN]
    rw [bitsN_cg n (fun e he => h e (by omega)), h n (by omega)]
theorem mvD_eq {I : Nat → Nat → Int} {J : Nat → Nat → Int64} (hg : gR I) (c : Int) : movD (VI I) (VJ I J) c = mvD I c :=
  bitsN_cg _ (fun e he => (mv_at hg c he).symm)
theorem mv_eq {I : Nat → Nat → Int} {J : Nat → Nat → Int64} (hg : gR I) : movN (VI I) (VJ I J) = mvR I := mvD_eq hg (I 58 3)
theorem still_eq {I : Nat → Nat → Int} {J : Nat → Nat → Int64} (hg : gR I) (w : Int) : stillN (VI I) (VJ I J) w = stillR I w := by
  have h : (fun (c : Nat) => bcI (movD (VI I) (VJ I J) (c : Int))) = (fun (c : Nat) => bcI (mvD I (c : Int))) := funext fun c => by rw [mvD_eq hg]
  unfold stillN stillR
  rw [h]
  rfl
theorem stp_sy (c d : Int) : stp c d = stp d c := by
  unfold stp iabs
  omega
theorem shy_eq {I : Nat → Nat → Int} {J : Nat → Nat → Int64} (w : Nat) : shyN (VI I) (VJ I J) w = shyR I w := by
  have h : (fun (c : Nat) => stp (c : Int) (I 62 w)) = (fun (c : Nat) => stp (I 62 w) (c : Int)) := funext fun c => stp_sy _ _
  unfold shyN shyR
  show shyF _ (fun (c : Nat) => stp (c : Int) (I 62 w)) 67 = _
  rw [h]
  rfl
theorem fewO_eq {I : Nat → Nat → Int} {J : Nat → Nat → Int64} (hg : gR I) (hs : gRS (spR I)) (m : Int) : fewO (hv (VI I) (VJ I J) 1) (spOf (VI I) 4) m = fewRO I m := by
  have h : fewP (hv (VI I) (VJ I J) 1) (spOf (VI I) 4) = (fun k => (bgP (hvR I) k (spR I)).isSome) := funext fun k => by
    show (brP (hvR I) k (spR I)).isSome = _
    rw [br_bg hg k _ hs]
  unfold fewO fewRO
  rw [h]
theorem fFew_eq {I : Nat → Nat → Int} {J : Nat → Nat → Int64} (hg : gR I) (hs : gRS (spR I)) (m i : Int) : fFewest (VI I) (VJ I J) m i = fFewR I m i := by
  unfold fFewest fFewR
  rw [fewO_eq hg hs]
  cases fewRO I m <;> rfl
theorem few_eq {I : Nat → Nat → Int} {J : Nat → Nat → Int64} (hg : gR I) (hs : gRS (spR I)) (m i : Int) : fewestN (VI I) (VJ I J) m i = fewestR I m i := by
  unfold fewestN fewestR
  rw [fewO_eq hg hs]
  cases fewRO I m with
  | none => rfl
  | some l =>
    show (if i = -1 then (l : Int) else ((brP (hvR I) l (spR I)).getD []).getD i.toNat 0) = _
    rw [br_bg hg l _ hs]
theorem most_eq {I : Nat → Nat → Int} {J : Nat → Nat → Int64} (hg : gR I) (hs : gRS (spR I)) (m i : Int) : mostN (VI I) (VJ I J) m i = mostR I m i := by
  unfold mostN mostR
  show (if i = -1 then (skP (hvR I) m.toNat (spR I) [] (-1, [])).1 else (skP (hvR I) m.toNat (spR I) [] (-1, [])).2.getD i.toNat 0) = _
  rw [sk_eq hg _ _ _ _ hs]
theorem ways_eq {I : Nat → Nat → Int} {J : Nat → Nat → Int64} {q : Nat × Nat} (hs : gRS (spR I)) (m : Int) : waysN (VI I) (VJ I J) q m = sgP (I 58 0) (maskW (I 59)) (I 58 2) m.toNat (I 58 3).toNat :=
  waA_sum hs.1.1 m.toNat

