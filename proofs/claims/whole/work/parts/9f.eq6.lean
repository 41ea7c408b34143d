/-! a reading keeps THE DOG on an open CELL -/
theorem bp_inj {c d : Nat} (h : c < 67) (h2 : c % 10 < 7) (h3 : d < 67) (h4 : d % 10 < 7) : bp c = bp d ↔ c = d := by
  constructor
  · intro e
    rw [← vc_bp h2, ← vc_bp h4, e]
  · rintro rfl; rfl
theorem or_wall {w : Int64} {c d : Int} (hc : gC7 c) (hd : gC7 d) : wallL (w ||| bitL c) d = (wallL w d || decide (c = d)) := by
  obtain ⟨c, rfl⟩ : ∃ n : Nat, c = n := ⟨c.toNat, by have := hc.1; omega⟩
  obtain ⟨d, rfl⟩ : ∃ n : Nat, d = n := ⟨d.toNat, by have := hd.1; omega⟩
  have h1 : c < 67 := by have := hc.1; omega
  have h2 : c % 10 < 7 := by have := hc.2; omega
  have h3 : d < 67 := by have := hd.1; omega
  have h4 : d % 10 < 7 := by have := hd.2; omega
  rw [wallL_b _ h3, wallL_b _ h3, Int64.toBitVec_or, BitVec.getLsbD_or, (bitL_b c h1).1, BitVec.getLsbD_twoPow]
  have h5 := (bitL_b c h1).2
  rw [decide_eq_true h5, Bool.true_and]
  refine congrArg _ (decide_eq_decide.mpr ?_)
  rw [bp_inj h1 h2 h3 h4]
  omega
theorem clr_wall {w : Int64} {c d : Int} (hd : gC7 d) (h : wallL w d = false) : wallL (w &&& (bitL c ^^^ (-1))) d = false := by
  obtain ⟨d, rfl⟩ : ∃ n : Nat, d = n := ⟨d.toNat, by have := hd.1; omega⟩
  have h3 : d < 67 := by have := hd.1; omega
  rw [wallL_b _ h3] at h ⊢
  rw [Int64.toBitVec_and, BitVec.getLsbD_and, h]
  rfl
theorem isCell_up {n m c : Int} (h : n ≤ m) (hc : isCellN n c = true) : isCellN m c = true := by
  simp only [isCellN, decide_eq_true_eq] at hc ⊢
  omega
def doR (R : HR) : Prop := openN (R.1 0) R.2.1 (R.2.2.2.2.1 0) = true
theorem st_do {f : Nat → Int} {n p : Nat} {R : HR} (hg : R.1 0 ≤ 7) (h7 : P7 R) (h : doR R) : doR (stF f n p R).2.2 := by
  unfold doR openN at h
  simp only [Bool.and_eq_true, Bool.not_eq_true'] at h
  have key : ∀ (a : Int) (w : Int64), isCellN a (R.2.2.2.2.1 0) = true → wallL w (R.2.2.2.2.1 0) = false → openN a w (R.2.2.2.2.1 0) = true := fun a w h1 h2 => by
    unfold openN
    rw [h1, h2]
    rfl
  have h0 : doR R := key _ _ h.1 h.2
  unfold stF
  split
  · exact h0
  · split
    · unfold stSide; split
      · next q => exact key _ _ (isCell_up q.1 h.1) h.2
      · exact h0
    · split
      · unfold stWall; split
        · next q =>
          simp only [mwR, Bool.and_eq_true, Bool.not_eq_true', decide_eq_false_iff_not] at q
          refine key _ _ h.1 ?_
          show wallL (R.2.1 ||| bitL _) _ = false
          rw [or_wall (gC7_of hg q.1) h7.2.1, h.2, decide_eq_false q.2.2.1]
          rfl
        · exact h0
      · split
        · unfold stGap; split
          · exact key _ _ h.1 (clr_wall h7.2.1 h.2)
          · exact h0
        · split
          · unfold stPen; split
            · exact key _ _ h.1 h.2
            · exact h0
          · split
            · unfold stDog; split
              · next q =>
                simp only [dogsN, Bool.and_eq_true] at q
                exact q.2
              · exact h0
            · split
              · unfold stEwe; split
                · exact h0
                · split
                  · exact h0
                  · split
                    · exact h0
                    · split
                      · exact key _ _ h.1 h.2
                      · exact h0
              · split
                · unfold stWind; split
                  · exact key _ _ h.1 h.2
                  · exact h0
                · exact h0
theorem pa_do {f : Nat → Int} {n : Nat} {R : HR} (hf : ∀ k, k < n → 0 ≤ f k) (hg : gHR R) (h7 : P7 R) (h : doR R) (k : Nat) : doR (paS f n R k).2 := by
  induction k with
  | zero => exact h
  | succ k ih => exact st_do (paS_ok hf hg k).2.1.1.2 (pa_p7 hf hg h7 k) ih
theorem paR_ok {f : Nat → Int} {n : Nat} {R : HR} (hf : ∀ k, k < n → 0 ≤ f k) (hg : gHR R) (h7 : P7 R) (h : doR R) : gHR (paR f n R).2.2 ∧ P7 (paR f n R).2.2 ∧ doR (paR f n R).2.2 := by
  unfold paR
  split
  · next k hk =>
    have a := paS_ok hf hg k
    have b := pa_p7 hf hg h7 k
    have c := pa_do hf hg h7 h k
    have e : (paO f n k (stF f n (paS f n R k).1 (paS f n R k).2)).2.2 = (stF f n (paS f n R k).1 (paS f n R k).2).2.2 := by
      unfold paO
      (repeat' split) <;> rfl
    rw [e]
    exact ⟨st_g a.2, st_p7 a.2.1.1.2 b, st_do a.2.1.1.2 b c⟩
  · exact ⟨hg, h7, h⟩
