/-! a reading keeps walls and EWES on CELLS of the hill -/
def hwR (R : HR) : Prop := (∀ c, gC7 c → wallL R.2.1 c = true → isCellN (R.1 0) c = true) ∧ ∀ e, e < (R.1 6).toNat → isCellN (R.1 0) (R.2.2.2.2.2 e) = true
theorem clr_wall2 {w : Int64} {c d : Int} (hd : gC7 d) (h : wallL (w &&& (bitL c ^^^ (-1))) d = true) : wallL w d = true := by
  cases q : wallL w d with
  | true => rfl
  | false => rw [clr_wall hd q] at h; cases h
theorem st_hw {f : Nat → Int} {n p : Nat} {R : HR} (hg : R.1 0 ≤ 7) (h6 : 0 ≤ R.1 6) (h : hwR R) : hwR (stF f n p R).2.2 := by
  unfold stF
  split
  · exact h
  · split
    · unfold stSide; split
      · next q => exact ⟨fun c hc hw => isCell_up q.1 (h.1 c hc hw), fun e he => isCell_up q.1 (h.2 e he)⟩
      · exact h
    · split
      · unfold stWall; split
        · next q =>
          simp only [mwR, Bool.and_eq_true] at q
          refine ⟨fun c hc hw => ?_, h.2⟩
          have hw : wallL (R.2.1 ||| bitL (nmN f n (tokE f n p))) c = true := hw
          rw [or_wall (gC7_of hg q.1) hc, Bool.or_eq_true, decide_eq_true_eq] at hw
          rcases hw with hw | hw
          · exact h.1 c hc hw
          · rw [← hw]; exact q.1
        · exact h
      · split
        · unfold stGap; split
          · exact ⟨fun c hc hw => h.1 c hc (clr_wall2 hc hw), h.2⟩
          · exact h
        · split
          · unfold stPen; split <;> exact h
          · split
            · unfold stDog; split <;> exact h
            · split
              · unfold stEwe; split
                · exact h
                · split
                  · exact h
                  · split
                    · exact h
                    · split
                      · next q4 =>
                        refine ⟨h.1, fun e he => ?_⟩
                        have he : e < (R.1 6 + 1).toNat := he
                        show isCellN (R.1 0) (up1 R.2.2.2.2.2 (R.1 6).toNat (nmN f n (tokE f n (tokE f n (tokE f n p)))) e) = true
                        simp only [up1]
                        split
                        · simp only [openN, Bool.and_eq_true] at q4
                          exact q4.1
                        · exact h.2 e (by omega)
                      · exact h
              · split
                · unfold stWind; split <;> exact h
                · exact h
theorem pa_hw {f : Nat → Int} {n : Nat} {R : HR} (hf : ∀ k, k < n → 0 ≤ f k) (hg : gHR R) (h : hwR R) (k : Nat) : hwR (paS f n R k).2 := by
  induction k with
  | zero => exact h
  | succ k ih =>
    have a := (paS_ok hf hg k).2.1
    exact st_hw a.1.2 a.2.2.2.1.1 ih
theorem paR_hw {f : Nat → Int} {n : Nat} {R : HR} (hf : ∀ k, k < n → 0 ≤ f k) (hg : gHR R) (h : hwR R) : hwR (paR f n R).2.2 := by
  unfold paR
  split
  · next k hk =>
    have a := (paS_ok hf hg k).2.1
    have e : (paO f n k (stF f n (paS f n R k).1 (paS f n R k).2)).2.2 = (stF f n (paS f n R k).1 (paS f n R k).2).2.2 := by
      unfold paO
      (repeat' split) <;> rfl
    rw [e]
    exact st_hw a.1.2 a.2.2.2.1.1 (pa_hw hf hg h k)
  · exact h
/-- of a world whose view is told -/
theorem gHW_of {I : Nat → Nat → Int} (hw : ∀ c, c < 67 → I 59 c = 0 ∨ I 59 c = 1) (hj : ∀ c, c < 67 → 7 ≤ c % 10 → I 59 c = 0) (h : hwR (hrV I)) : gHW I := by
  refine ⟨fun c hc h1 => ?_, h.2⟩
  have h7 : gC7 (c : Int) := by
    refine ⟨by omega, ?_⟩
    by_cases q : 7 ≤ c % 10
    · rw [hj c hc q] at h1; cases h1
    · omega
  refine h.1 _ h7 ?_
  show wallL (maskW (I 59)) (c : Int) = true
  rw [wallMi h7, Int.toNat_natCast]
  exact decide_eq_true h1
theorem gHW_to {I : Nat → Nat → Int} (h : gHW I) : hwR (hrV I) := by
  refine ⟨fun c hc hw => ?_, h.2⟩
  have hw : wallL (maskW (I 59)) c = true := hw
  rw [wallMi hc, decide_eq_true_eq] at hw
  have h1 := hc.1
  have h2 := h.1 c.toNat (by omega) hw
  rw [show ((c.toNat : Nat) : Int) = c by omega] at h2
  exact h2
