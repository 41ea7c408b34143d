/-! class and reference: searches -/
theorem stp_1 {c p : Int} {k : Nat} (h1 : gC7 c) (h2 : gC7 (c + shN k)) : stp c p ≤ stp (c + shN k) p + 1 := by
  obtain ⟨h1, h1'⟩ := h1
  obtain ⟨h2, h2'⟩ := h2
  by_cases hk : k < 5
  · rcases (show k = 0 ∨ k = 1 ∨ k = 2 ∨ k = 3 ∨ k = 4 by omega) with rfl | rfl | rfl | rfl | rfl
    · rw [show shN 0 = 0 from rfl, Int.add_zero]; omega
    · rw [show shN 1 = -10 from rfl] at *
      unfold stp iabs
      (repeat' split) <;> omega
    · rw [show shN 2 = 10 from rfl] at *
      unfold stp iabs
      (repeat' split) <;> omega
    · rw [show shN 3 = -1 from rfl] at *
      unfold stp iabs
      (repeat' split) <;> omega
    · rw [show shN 4 = 1 from rfl] at *
      unfold stp iabs
      (repeat' split) <;> omega
  · have : shN k = 0 := by
      unfold shN
      rw [List.getD_eq_getElem?_getD, List.getElem?_eq_none (by show 5 ≤ k; omega)]
      rfl
    rw [this, Int.add_zero]; omega
theorem stp_cc {c : Int} : stp c c = 0 := by
  unfold stp iabs
  (repeat' split) <;> omega
theorem stp_00 {c p : Int} : stp c p ≤ 0 ↔ c = p := by
  constructor
  · intro h
    unfold stp iabs at h
    (repeat' split at h) <;> omega
  · rintro rfl
    rw [stp_cc]
    exact Int.le_refl 0
theorem nfold_c {n : Int} {w : Int64} {dog mark cell : Int} (hn : n ≤ 7) (hc : gC7 cell) (p : Int) : ∀ k, stp cell p ≤ stp (nfold n w dog mark cell k).1 p + 1 := by
  intro k
  induction k with
  | zero => show stp cell p ≤ stp cell p + 1; omega
  | succ k ih =>
    simp only [nfold, nstp]
    split
    · next h => exact stp_1 hc (gC7_o hn h.1)
    · exact ih
theorem git_c {n : Int} {w : Int64} {pen dog fears stares mark c : Int} (hn : n ≤ 7) (hc : gC7 c) (p : Int) : ∀ t : Nat, stp c p ≤ stp (git n w pen dog fears stares mark c t) p + t := by
  intro t
  induction t with
  | zero => show stp c p ≤ stp c p + ((0 : Nat) : Int); omega
  | succ t ih =>
    have h7 := git_7 (w := w) (pen := pen) (dog := dog) (fears := fears) (stares := stares) (mark := mark) hn hc t
    simp only [git]
    obtain ⟨x, hx⟩ : ∃ x, x = git n w pen dog fears stares mark c t := ⟨_, rfl⟩
    rw [← hx] at ih h7 ⊢
    have h2 : stp x p ≤ stp (gstp n w pen dog fears stares mark x) p + 1 := by
      unfold gstp
      split
      · omega
      · split
        · exact nfold_c hn h7 p 4
        · omega
    omega
theorem tmN_0 (k : Nat) : 0 ≤ tmN k := by
  unfold tmN
  match k with
  | 0 => decide
  | 1 => decide
  | 2 => decide
  | 3 => decide
  | 4 => decide
  | 5 => decide
  | k + 6 =>
    rw [List.getD_eq_getElem?_getD, List.getElem?_eq_none (by show 6 ≤ k + 6; omega)]
    decide
theorem goal_c {H : HV} {dog kd : Int} {C : Nat → Int} {w : Nat} (hn : H.1 ≤ 7) (hc : gC7 (C w)) (p : Int) : stp (C w) p ≤ stp (goalN H dog C w kd) p + tmN kd.toNat := by
  have h := git_c (w := H.2.1) (pen := H.2.2.1) (dog := dog) (fears := fearN H w kd) (stares := srN kd.toNat) (mark := markN H C w kd) hn hc p (tmN kd.toNat).toNat
  have := tmN_0 kd.toNat
  unfold goalN
  omega
theorem turnC_c {H : HV} {dog : Int} {C : Nat → Int} (hn : H.1 ≤ 7) (h : ∀ e, e < 5 → gC7 (C e)) (p : Int) : ∀ k, k ≤ 5 → (∀ e, k ≤ e → turnC H dog C k e = C e) ∧ ∀ e, e < 5 → stp (C e) p ≤ stp (turnC H dog C k e) p + tmN (H.2.2.2.2.1 e).toNat := by
  intro k
  induction k with
  | zero => exact fun _ => ⟨fun _ _ => rfl, fun e he => by have := tmN_0 (H.2.2.2.2.1 e).toNat; show stp (C e) p ≤ stp (C e) p + _; omega⟩
  | succ k ih =>
    intro hk
    have h1 := ih (by omega)
    have h7 := turnC_7 (H := H) (dog := dog) hn h k (by omega)
    refine ⟨fun e he => ?_, fun e he => ?_⟩
    · simp only [turnC, up1]
      rw [if_neg (by omega)]
      exact h1.1 e (by omega)
    · simp only [turnC, up1]
      by_cases q : e = k
      · subst q
        rw [if_pos rfl]
        have h2 := goal_c (dog := dog) (kd := H.2.2.2.2.1 e) (w := e) hn (h7 e he) p
        rw [h1.1 e (Nat.le_refl e)] at h2
        exact h2
      · rw [if_neg q]
        exact h1.2 e he
theorem cnt_le {P Q : Nat → Bool} : ∀ n, (∀ e, e < n → P e = true → Q e = true) → cnt P n ≤ cnt Q n
  | 0, _ => Int.le_refl _
  | n + 1, h => by
    have h1 := cnt_le n (fun e he => h e (by omega))
    have h2 := h n (by omega)
    simp only [cnt]
    have h3 : bI (P n) ≤ bI (Q n) := by
      revert h2
      cases P n <;> cases Q n <;> simp [bI]
    omega
theorem cnt_cg {P Q : Nat → Bool} {n : Nat} (h : ∀ e, e < n → P e = Q e) : cnt P n = cnt Q n :=
  Int.le_antisymm (cnt_le n (fun e he z => by rw [← h e he]; exact z)) (cnt_le n (fun e he z => by rw [h e he]; exact z))
theorem with_turn {I : Nat → Nat → Int} (hg : gR I) {p : SP} (hp : gRS p) (c : Int) (l : Nat) : withinN (hvR I) (turnS (hvR I) p c).2.2 (l : Int) ≤ withinN (hvR I) p.2.2 ((l + 1 : Nat) : Int) := by
  refine cnt_le _ (fun e he h => ?_)
  have h5 : e < 5 := by have := hg.2.2.2.1; have he : e < (I 58 5).toNat := he; omega
  have h1 := (turnC_c (H := hvR I) (dog := dogN (hvR I) p.1 c) hg.1.2 hp.2.2 (I 58 2) (I 58 5).toNat (by have := hg.2.2.2.1; omega)).2 e h5
  have h2 : stp (turnC (hvR I) (dogN (hvR I) p.1 c) p.2.2 (I 58 5).toNat e) (I 58 2) ≤ (l : Int) * tmN (I 60 e).toNat := of_decide_eq_true h
  refine decide_eq_true ?_
  show stp (p.2.2 e) (I 58 2) ≤ ((l + 1 : Nat) : Int) * tmN (I 60 e).toNat
  have h3 : stp (p.2.2 e) (I 58 2) ≤ stp (turnC (hvR I) (dogN (hvR I) p.1 c) p.2.2 (I 58 5).toNat e) (I 58 2) + tmN (I 60 e).toNat := h1
  rw [show ((l + 1 : Nat) : Int) = (l : Int) + 1 by omega, Int.add_mul, Int.one_mul]
  omega
theorem with_0 {H : HV} {C : Nat → Int} : withinN H C 0 = inN H C := cnt_cg (fun e _ => decide_eq_decide.mpr (by rw [Int.zero_mul]; exact stp_00))
theorem with_b {H : HV} {C : Nat → Int} {l : Int} (h : 0 ≤ H.2.2.2.1) : withinN H C l ≤ H.2.2.2.1 := by
  have := (cnt_r (fun e => decide (stp (C e) H.2.2.1 ≤ l * tmN (H.2.2.2.2.1 e).toNat)) H.2.2.2.1.toNat).2
  unfold withinN
  omega
theorem optN_c {β : Type} {F G : Nat → Option β} : ∀ n, (∀ c, c < n → F c = G c) → optN F n = optN G n
  | 0, _ => rfl
  | n + 1, h => by
    simp only [optN]
    rw [optN_c n (fun c hc => h c (by omega)), h n (by omega)]
theorem optN_e {β : Type} {F : Nat → Option β} {x : β} : ∀ n, optN F n = some x → ∃ c, c < n ∧ F c = some x
  | 0, h => by cases h
  | n + 1, h => by
    simp only [optN] at h
    cases h2 : optN F n with
    | some y =>
      rw [h2] at h
      cases h
      obtain ⟨c, hc, e⟩ := optN_e n h2
      exact ⟨c, by omega, e⟩
    | none =>
      rw [h2] at h
      exact ⟨n, by omega, h⟩
theorem foldN_c {β : Type} {F G : Nat → β → β} {a : β} : ∀ n, (∀ c x, c < n → F c x = G c x) → foldN F a n = foldN G a n
  | 0, _ => rfl
  | n + 1, h => by
    simp only [foldN]
    rw [foldN_c n (fun c x hc => h c x (by omega)), h n _ (by omega)]
theorem foldN_k {β : Type} {F : Nat → β → β} {a : β} : ∀ n, (∀ c, c < n → F c a = a) → foldN F a n = a
  | 0, _ => rfl
  | n + 1, h => by
    simp only [foldN]
    rw [foldN_k n (fun c hc => h c (by omega)), h n (by omega)]
theorem bgP_w {I : Nat → Nat → Int} (hg : gR I) : ∀ (k : Nat) (p : SP) (l : List Int), gRS p → bgP (hvR I) k p = some l → I 58 5 ≤ withinN (hvR I) p.2.2 (k : Int) := by
  intro k
  induction k with
  | zero =>
    intro p l hp h
    unfold bgP at h
    split at h
    · next h2 =>
      rw [show ((0 : Nat) : Int) = 0 from rfl, with_0, h2]
      exact Int.le_refl _
    · cases h
  | succ k ih =>
    intro p l hp h
    unfold bgP at h
    obtain ⟨c, hc, e⟩ := optN_e 5 h
    split at e
    · cases h2 : bgP (hvR I) k (turnS (hvR I) p (c : Int)) with
      | none => rw [h2] at e; cases e
      | some l2 =>
        have h3 := ih _ l2 (gRS_turn hg hp (c := (c : Int)) (by omega)) h2
        exact Int.le_trans h3 (with_turn hg hp (c : Int) k)
    · cases e
theorem br_bg {I : Nat → Nat → Int} (hg : gR I) : ∀ (k : Nat) (p : SP), gRS p → brP (hvR I) k p = bgP (hvR I) k p := by
  have hm : 0 ≤ (hvR I).2.2.2.1 := hg.2.2.2.1.1
  intro k
  induction k with
  | zero =>
    intro p hp
    unfold brP bgP
    have h1 := with_b (H := hvR I) (C := p.2.2) (l := 0) hm
    rw [with_0] at h1 ⊢
    by_cases h : inN (hvR I) p.2.2 < (hvR I).2.2.2.1
    · rw [if_pos h, if_neg (by omega)]
    · rw [if_neg h, if_pos (by omega)]
  | succ k ih =>
    intro p hp
    by_cases h : withinN (hvR I) p.2.2 ((k + 1 : Nat) : Int) < (hvR I).2.2.2.1
    · have h2 : bgP (hvR I) (k + 1) p = none := by
        cases h3 : bgP (hvR I) (k + 1) p with
        | none => rfl
        | some l =>
          have h4 := bgP_w hg (k + 1) p l hp h3
          have h5 : withinN (hvR I) p.2.2 ((k + 1 : Nat) : Int) < I 58 5 := h
          omega
      rw [h2]
      unfold brP
      rw [if_pos h]
    · unfold brP bgP
      rw [if_neg h]
      refine optN_c 5 (fun c hc => ?_)
      rw [ih _ (gRS_turn hg hp (c := (c : Int)) (by omega))]
theorem skR_k {I : Nat → Nat → Int} (hg : gR I) : ∀ (k : Nat) (p : SP) (path : List Int) (acc : Int × List Int), gRS p → withinN (hvR I) p.2.2 (k : Int) ≤ acc.1 → skR (hvR I) k p path acc = acc := by
  intro k
  induction k with
  | zero =>
    intro p path acc hp h
    unfold skR
    rw [show ((0 : Nat) : Int) = 0 from rfl, with_0] at h
    rw [if_pos h]
  | succ k ih =>
    intro p path acc hp h
    unfold skR
    refine foldN_k 5 (fun c hc => ?_)
    split
    · exact ih _ _ _ (gRS_turn hg hp (c := (c : Int)) (by omega)) (Int.le_trans (with_turn hg hp (c : Int) k) h)
    · rfl
theorem sk_eq {I : Nat → Nat → Int} (hg : gR I) : ∀ (k : Nat) (p : SP) (path : List Int) (acc : Int × List Int), gRS p → skP (hvR I) k p path acc = skR (hvR I) k p path acc := by
  intro k
  induction k with
  | zero =>
    intro p path acc hp
    unfold skP skR
    rw [with_0]
  | succ k ih =>
    intro p path acc hp
    by_cases h : withinN (hvR I) p.2.2 ((k + 1 : Nat) : Int) ≤ acc.1
    · rw [skR_k hg (k + 1) p path acc hp h]
      unfold skP
      rw [if_pos h]
    · unfold skP skR
      rw [if_neg h]
      refine foldN_c 5 (fun c x hc => ?_)
      rw [ih _ _ _ (gRS_turn hg hp (c := (c : Int)) (by omega))]
