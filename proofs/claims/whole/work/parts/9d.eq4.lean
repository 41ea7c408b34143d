/-! class and reference: apart, flock, rows done -/
theorem farF_le {C : Nat → Int} {pen m : Int} {w : Nat} (hm : 0 ≤ m) : ∀ k, farF C pen w k ≤ m ↔ ∀ b, b < k → ¬ C b = pen → stp (C b) (C w) ≤ m := by
  intro k
  induction k with
  | zero => exact ⟨fun _ b hb => by omega, fun _ => hm⟩
  | succ k ih =>
    simp only [farF]
    constructor
    · intro h b hb hp
      by_cases e : b = k
      · subst e
        rw [if_neg hp] at h
        omega
      · refine ih.mp ?_ b (by omega) hp
        split at h <;> omega
    · intro h
      have h1 := ih.mpr (fun b hb hp => h b (by omega) hp)
      split
      · exact h1
      · next hp =>
        have := h k (by omega) hp
        omega
theorem apF_le {C : Nat → Int} {pen m : Int} {n : Nat} (hm : 0 ≤ m) : ∀ k, apF C pen n k ≤ m ↔ ∀ a, a < k → ¬ C a = pen → ∀ b, b < n → ¬ C b = pen → stp (C b) (C a) ≤ m := by
  intro k
  induction k with
  | zero => exact ⟨fun _ b hb => by omega, fun _ => hm⟩
  | succ k ih =>
    simp only [apF]
    constructor
    · intro h a ha hp
      by_cases e : a = k
      · subst e
        rw [if_neg hp] at h
        exact (farF_le hm n).mp (by omega)
      · refine ih.mp ?_ a (by omega) hp
        split at h <;> omega
    · intro h
      have h1 := ih.mpr (fun a ha hp => h a (by omega) hp)
      split
      · exact h1
      · next hp =>
        have := (farF_le hm n).mpr (h k (by omega) hp)
        omega
theorem apI_le {C : Nat → Int} {pen x m : Int} {e : Nat} : ∀ f, apI C pen e x f ≤ m ↔ (x ≤ m ∧ ∀ b, b < f → ¬ C e = pen → ¬ C b = pen → stp (C e) (C b) ≤ m) := by
  intro f
  induction f with
  | zero => exact ⟨fun h => ⟨h, fun b hb => by omega⟩, fun h => h.1⟩
  | succ f ih =>
    simp only [apI]
    constructor
    · intro h
      have h0 : apI C pen e x f ≤ m := by split at h <;> omega
      refine ⟨(ih.mp h0).1, fun b hb h1 h2 => ?_⟩
      by_cases q : b = f
      · subst q
        rw [if_pos ⟨h1, h2⟩] at h
        omega
      · exact (ih.mp h0).2 b (by omega) h1 h2
    · intro h
      have h1 := ih.mpr ⟨h.1, fun b hb => h.2 b (by omega)⟩
      split
      · next hp =>
        have := h.2 f (by omega) hp.1 hp.2
        omega
      · exact h1
theorem apO_le {C : Nat → Int} {pen m : Int} (hm : 0 ≤ m) : ∀ k, apO C pen k ≤ m ↔ ∀ a, a < k → ∀ b, b < a → ¬ C a = pen → ¬ C b = pen → stp (C a) (C b) ≤ m := by
  intro k
  induction k with
  | zero => exact ⟨fun _ b hb => by omega, fun _ => hm⟩
  | succ k ih =>
    simp only [apO]
    rw [apI_le]
    constructor
    · intro h a ha b hb
      by_cases q : a = k
      · subst q; exact h.2 b hb
      · exact ih.mp h.1 a (by omega) b hb
    · intro h
      exact ⟨ih.mpr (fun a ha => h a (by omega)), fun b hb => h k (by omega) b hb⟩
theorem ap_0 {C : Nat → Int} {pen : Int} {n : Nat} : ∀ k, 0 ≤ apF C pen n k := by
  intro k
  induction k with
  | zero => exact Int.le_refl 0
  | succ k ih =>
    simp only [apF]
    split <;> omega
theorem apI_0 {C : Nat → Int} {pen x : Int} {e : Nat} (h : 0 ≤ x) : ∀ f, 0 ≤ apI C pen e x f := by
  intro f
  induction f with
  | zero => exact h
  | succ f ih =>
    simp only [apI]
    split <;> omega
theorem apO_0 {C : Nat → Int} {pen : Int} : ∀ k, 0 ≤ apO C pen k
  | 0 => Int.le_refl 0
  | k + 1 => apI_0 (apO_0 k) k
theorem ap_eq {C : Nat → Int} {pen : Int} {n : Nat} : apF C pen n n = apO C pen n := by
  have key : ∀ m, 0 ≤ m → (apF C pen n n ≤ m ↔ apO C pen n ≤ m) := fun m hm => by
    rw [apF_le hm, apO_le hm]
    constructor
    · intro h a ha b hb h1 h2
      rw [stp_sy]
      exact h a ha h1 b (by omega) h2
    · intro h a ha h1 b hb h2
      rcases Nat.lt_trichotomy a b with q | q | q
      · exact h b hb a q h2 h1
      · subst q; rw [stp_cc]; exact hm
      · rw [stp_sy]; exact h a ha b q h1 h2
  exact Int.le_antisymm ((key _ (apO_0 n)).mpr (Int.le_refl _)) ((key _ (ap_0 n)).mp (Int.le_refl _))
theorem fk_eq {C : Nat → Int} {pen : Int} {n e : Nat} : (!decide (C e = pen) && decide (2 < farF C pen e n)) = fkQ C pen n e := by
  unfold fkQ
  by_cases h1 : C e = pen
  · rw [decide_eq_true h1]
    have h2 : firstN (fkP C pen e) n = none := firstN_none.mpr (fun f _ => by unfold fkP; rw [decide_eq_true h1]; simp)
    rw [h2]
    rfl
  · rw [decide_eq_false h1]
    by_cases h2 : 2 < farF C pen e n
    · rw [decide_eq_true h2]
      cases h3 : firstN (fkP C pen e) n with
      | some x => rfl
      | none =>
        exfalso
        have h4 : farF C pen e n ≤ 2 := (farF_le (by decide) n).mpr (fun b hb hp => by
          have h5 := firstN_none.mp h3 b hb
          unfold fkP at h5
          rw [decide_eq_false h1, decide_eq_false hp] at h5
          by_cases q : e = b
          · subst q; rw [stp_cc]; decide
          · rw [decide_eq_false q] at h5
            rw [stp_sy]
            simpa using h5)
        omega
    · rw [decide_eq_false h2]
      have h3 : firstN (fkP C pen e) n = none := firstN_none.mpr (fun f hf => by
        have h4 := (farF_le (by decide) n).mp (Int.not_lt.mp h2) f hf
        unfold fkP
        by_cases q : C f = pen
        · rw [decide_eq_true q]; simp
        · have h5 := h4 q
          rw [stp_sy] at h5
          rw [decide_eq_false (show ¬ 2 < stp (C e) (C f) by omega)]
          simp)
      rw [h3]
      rfl
theorem ewes_eq {I : Nat → Nat → Int} {J : Nat → Nat → Int64} (hg : gR I) (w : Int) : ewesN (VI I) (VJ I J) w = ewesR I w := by
  unfold ewesN ewesR
  rw [mv_eq hg]
  show (if w = 0 then apF (I 62) (I 58 2) (I 58 5).toNat (I 58 5).toNat else if w = 1 then ((bitsN (fun e => !decide (I 62 e = I 58 2) && decide (2 < farF (I 62) (I 58 2) e (I 58 5).toNat)) (I 58 5).toNat : Nat) : Int) else if w = 2 then (nearF (I 62) (I 58 2) (I 58 3) (I 58 5).toNat).1 else (mvR I : Nat)) = _
  rw [ap_eq, bitsN_cg (Q := fkQ (I 62) (I 58 2) (I 58 5).toNat) _ (fun e _ => fk_eq)]
