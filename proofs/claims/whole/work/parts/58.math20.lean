/-! the draft, when a HILL's reading begins -/
def rd0 (I : Nat → Nat → Int) (J : Nat → Nat → Int64) : HR := (zHl I 13 1 13, J 1 5, I 2, I 3, zHl I 13 1 16, I 5)
theorem rd0_g {I : Nat → Nat → Int} {J : Nat → Nat → Int64} (hg : gH I 1) (hq : gS I 4) : gHR (rd0 I J) := ⟨hg, hq⟩
theorem rd0_I {I : Nat → Nat → Int} {J : Nat → Nat → Int64} : zu (zHl I 13 1) 11 5 0 = drI (zTk I (I 11 3) (I 11 4) ((0 : Nat) : Int)) (rd0 I J) := by
  funext i k
  by_cases h : i = 11
  · subst h
    rcases (show k = 3 ∨ k = 4 ∨ k = 5 ∨ (k ≠ 3 ∧ k ≠ 4 ∧ k ≠ 5) by omega) with rfl | rfl | rfl | ⟨h1, h2, h3⟩ <;> simp [zu, zHl, drI, zTk, *]
  · have e1 : zu (zHl I 13 1) 11 5 0 i k = zHl I 13 1 i k := zu_n (fun q => h q.1)
    rw [e1]
    by_cases h3 : i = 13
    · subst h3; rfl
    · by_cases h4 : i = 14
      · subst h4; rfl
      · by_cases h5 : i = 15
        · subst h5; rfl
        · by_cases h6 : i = 16
          · subst h6; rfl
          · by_cases h7 : i = 17
            · subst h7; rfl
            · simp only [zHl, drI, zTk]
              rw [if_neg h3, if_neg h4, if_neg h5, if_neg h6, if_neg h7, if_neg h3, if_neg h4, if_neg h5, if_neg h6, if_neg h7]
              exact (congrFun (zTk_n h) k).symm
theorem drI_zk {I : Nat → Nat → Int} {R : HR} {t s e : Int} {f : Nat → Int} {n p : Nat} : tkI (drI (zTk I t s e) R) f n p = drI (tkI I f n p) R := by
  rw [drI_tk]
  unfold tkI
  rw [zTk_tk]
theorem dr_n0 {I : Nat → Nat → Int} {R : HR} {t s : Int} {n p : Nat} (hn : I 11 1 = (n : Nat)) (hT : gT I) (hp : p ≤ n) :
    drI (zTk I t s (p : Nat)) R 12 = I 12 ∧ (drI (zTk I t s (p : Nat)) R 11 1).toNat = n ∧ (drI (zTk I t s (p : Nat)) R 11 5).toNat = p ∧ gT (drI (zTk I t s (p : Nat)) R) ∧ (0 ≤ drI (zTk I t s (p : Nat)) R 11 5 ∧ drI (zTk I t s (p : Nat)) R 11 5 ≤ drI (zTk I t s (p : Nat)) R 11 1) := by
  have h12 : drI (zTk I t s (p : Nat)) R 12 = I 12 := by rw [drI_n (by omega)]; exact zTk_12
  have h1 : drI (zTk I t s (p : Nat)) R 11 1 = (n : Nat) := by rw [drI_n (by omega)]; exact hn
  have h5 : drI (zTk I t s (p : Nat)) R 11 5 = (p : Nat) := by rw [drI_n (by omega)]; rfl
  refine ⟨h12, by rw [h1]; exact Int.toNat_natCast n, by rw [h5]; exact Int.toNat_natCast _, ?_, by rw [h1, h5]; omega⟩
  unfold gT
  rw [h12, h1, ← hn]
  exact hT
theorem paR_at {f : Nat → Int} {n e : Nat} {R : HR} (he : e < 250) (h0 : firstN (paE f n R) e = none) (h : paE f n R e = true) : paR f n R = paO f n e (stF f n (paS f n R e).1 (paS f n R e).2) := by
  unfold paR
  rw [firstN_some he h0 h]
theorem skN_n {I : Nat → Nat → Int} {n p : Nat} (hn : I 11 1 = (n : Nat)) (hT : gT I) (hp : p ≤ n) : skN (I 12) n p ≤ n := (tok_r (fun k hk => (hT.2 k (by have := hT.1; omega)).1) hp).1.2
theorem paR_r {I : Nat → Nat → Int} {n : Nat} {R : HR} (hn : I 11 1 = (n : Nat)) (hT : gT I) (hR : gHR R) : -300 ≤ (paR (I 12) n R).1 ∧ (paR (I 12) n R).1 ≤ 300 := by
  have hf : ∀ k, k < n → 0 ≤ I 12 k := fun k hk => (hT.2 k (by have := hT.1; omega)).1
  have hn2 : n ≤ 250 := by have := hT.1; omega
  unfold paR
  split
  · next k hk =>
    have hk2 := (firstN_lt hk).1
    have ok := paS_ok hf hR k
    have h1 := st_le (R := (paS (I 12) n R k).2) hf ok.1
    have h2 := tok_r hf h1.2
    have h3 := tok_r hf h2.2.2
    unfold paO
    (repeat' split) <;> (dsimp only; omega)
  · exact ⟨(by decide : (-300 : Int) ≤ 0), (by decide : (0 : Int) ≤ 300)⟩
