/-! the reference reads a HILL -/
def P7 (R : HR) : Prop := gC7 (R.1 1) ∧ gC7 (R.2.2.2.2.1 0) ∧ ∀ e, e < 5 → gC7 (R.2.2.2.2.2 e)
theorem st_p7 {f : Nat → Int} {n p : Nat} {R : HR} (hn : R.1 0 ≤ 7) (h : P7 R) : P7 (stF f n p R).2.2 := by
  have ho : ∀ w c, openN (R.1 0) w c = true → gC7 c := fun w c hc => gC7_o hn hc
  unfold stF
  split
  · exact h
  · split
    · unfold stSide; split <;> exact h
    · split
      · unfold stWall; split <;> exact h
      · split
        · unfold stGap; split <;> exact h
        · split
          · unfold stPen; split
            · next q =>
              simp only [mpR, Bool.and_eq_true] at q
              exact ⟨ho _ _ q.1, h.2⟩
            · exact h
          · split
            · unfold stDog; split
              · next q =>
                simp only [dogsN, Bool.and_eq_true] at q
                exact ⟨h.1, ho _ _ q.2, h.2.2⟩
              · exact h
            · split
              · unfold stEwe; split
                · exact h
                · split
                  · exact h
                  · split
                    · exact h
                    · split
                      · next q4 =>
                        refine ⟨h.1, h.2.1, fun e he => ?_⟩
                        simp only [eweR, up1]
                        split
                        · exact ho _ _ q4
                        · exact h.2.2 e he
                      · exact h
              · split
                · unfold stWind; split <;> exact h
                · exact h
theorem pa_p7 {f : Nat → Int} {n : Nat} {R : HR} (hf : ∀ k, k < n → 0 ≤ f k) (h : gHR R) (h7 : P7 R) (k : Nat) : P7 (paS f n R k).2 := by
  induction k with
  | zero => exact h7
  | succ k ih => exact st_p7 (paS_ok hf h k).2.1.1.2 ih
theorem hr_g {I : Nat → Nat → Int} {R : HR} (e : hrV I = R) (h : gHR R) (h7 : P7 R) (hw : ∀ c, c < 67 → I 59 c = 0 ∨ I 59 c = 1) : gR I ∧ gRS (spR I) := by
  subst e
  obtain ⟨⟨a1, a2, a3, a4, a5, a6⟩, b1, b2, b3⟩ := h
  exact ⟨⟨a1, h7.1, a3, a4, a5, a6, hw⟩, h7.2.1, b2, h7.2.2⟩
theorem hrV_gHR {I : Nat → Nat → Int} (hg : gR I) (hs : gRS (spR I)) : gHR (hrV I) ∧ P7 (hrV I) := ⟨⟨VI_gH hg, VI_gS hs⟩, hg.2.1, hs.1, hs.2.2⟩
theorem hrV_c {I I1 : Nat → Nat → Int} (h : ∀ k, k < 14 → I1 58 k = I 58 k) (h59 : I1 59 = I 59) (h60 : I1 60 = I 60) (h61 : I1 61 = I 61) (h62 : I1 62 = I 62) : hrV I1 = hrV I := by
  have h1 : (fun k => VI I1 1 k) = (fun k => VI I 1 k) := by
    funext k
    show (if k = 0 then I1 58 0 else if k = 1 then I1 58 2 else if k = 2 then I1 58 9 else if k = 3 then I1 58 10 else if k = 4 then I1 58 11 else if k = 6 then I1 58 5 else 0) = (if k = 0 then I 58 0 else if k = 1 then I 58 2 else if k = 2 then I 58 9 else if k = 3 then I 58 10 else if k = 4 then I 58 11 else if k = 6 then I 58 5 else 0)
    rw [h 0 (by decide), h 2 (by decide), h 9 (by decide), h 10 (by decide), h 11 (by decide), h 5 (by decide)]
  have h2 : (fun k => VI I1 4 k) = (fun k => VI I 4 k) := by
    funext k
    show (if k = 0 then I1 58 3 else if k = 1 then I1 58 4 else 0) = (if k = 0 then I 58 3 else if k = 1 then I 58 4 else 0)
    rw [h 3 (by decide), h 4 (by decide)]
  unfold hrV
  rw [h1, h2, h59, h60, h61, h62]
theorem kp_n {I : Nat → Nat → Int} {r i : Nat} (h : i ≠ r) : kpI I r i = I i := by
  funext k
  exact mixP_n (decide_eq_false (fun z => h z.1))
/-- where the reading of a HILL begins -/
def hlK (I : Nat → Nat → Int) : Nat → Nat → Int := zu (kpI I 69) 58 15 0
theorem hlK_h {I : Nat → Nat → Int} : hrV (hlK I) = hrV I := hrV_c (fun k hk => by unfold hlK; rw [zu_n (by omega), kp_n (by decide)]) (by unfold hlK; rw [zu_ne (by decide), kp_n (by decide)]) (by unfold hlK; rw [zu_ne (by decide), kp_n (by decide)]) (by unfold hlK; rw [zu_ne (by decide), kp_n (by decide)]) (by unfold hlK; rw [zu_ne (by decide), kp_n (by decide)])
theorem hlK_n {I : Nat → Nat → Int} {i : Nat} (h : i ≠ 58) (h2 : i ≠ 69) : hlK I i = I i := by unfold hlK; rw [zu_ne h, kp_n h2]
theorem hlK_k {I : Nat → Nat → Int} {k : Nat} (h : k ≠ 15) : hlK I 58 k = I 58 k := by unfold hlK; rw [zu_n (by omega), kp_n (by decide)]
theorem hlK_69 {I : Nat → Nat → Int} {k : Nat} (h : k < 90) : hlK I 69 k = kpF I k := by
  unfold hlK
  rw [zu_ne (by decide)]
  show (if kpP 69 90 69 k = true then kpF I k else I 69 k) = kpF I k
  exact if_pos (decide_eq_true ⟨rfl, h⟩)
theorem frP_rf {I : Nat → Nat → Int} (h : ∀ c, c < 67 → I 59 c = 0 ∨ I 59 c = 1) : frP I I := ⟨fun _ _ => rfl, fun _ _ => rfl, h, fun _ _ _ => rfl⟩
theorem frP_tr {I I1 I2 : Nat → Nat → Int} (a : frP I I1) (b : frP I1 I2) : frP I I2 := ⟨fun i h => (b.1 i h).trans (a.1 i h), fun k h => (b.2.1 k h).trans (a.2.1 k h), b.2.2.1, fun c hc h7 => (b.2.2.2 c hc h7).trans (a.2.2.2 c hc h7)⟩
theorem frP_nx {I I1 : Nat → Nat → Int} {f : Nat → Int} {n p : Nat} (a : frP I I1) : frP I (nxR I1 f n p) := ⟨fun i h => (zTR_n (by omega)).trans (a.1 i h), fun k h => by
  rcases h with h | h
  · exact (zTR_k (.inl (by omega))).trans (a.2.1 k (.inl h))
  · exact (zTR_k (.inr h)).trans (a.2.1 k (.inr h)), fun c hc => by
  have h2 : nxR I1 f n p 59 = I1 59 := zTR_n (by decide)
  rw [h2]
  exact a.2.2.1 c hc, fun c hc h7 => by
  have h2 : nxR I1 f n p 59 = I1 59 := zTR_n (by decide)
  rw [h2]
  exact a.2.2.2 c hc h7⟩
theorem nx_h {I : Nat → Nat → Int} {f : Nat → Int} {n p : Nat} : hrV (nxR I f n p) = hrV I := hrV_c (fun k hk => zTR_k (.inl hk)) (zTR_n (by decide)) (zTR_n (by decide)) (zTR_n (by decide)) (zTR_n (by decide))
theorem frP_t {I I1 : Nat → Nat → Int} (a : frP I I1) (hT : gTR I) : gTR I1 := by
  unfold gTR
  rw [a.2.1 12 (.inl rfl), a.1 63 (by decide)]
  exact hT
/-- as far as the rows go -/
def hrL (R R' : HR) : Prop := R.1 = R'.1 ∧ R.2.1 = R'.2.1 ∧ R.2.2.2.2.1 = R'.2.2.2.2.1 ∧ ∀ e, e < 5 → R.2.2.1 e = R'.2.2.1 e ∧ R.2.2.2.1 e = R'.2.2.2.1 e ∧ R.2.2.2.2.2 e = R'.2.2.2.2.2 e
theorem kb_hr {I A : Nat → Nat → Int} (hw : ∀ c, c < 67 → I 59 c = 0 ∨ I 59 c = 1) (hA : ∀ k, k < 90 → A 69 k = kpF I k) : hrL (hrV (kbI A 69)) (hrV I) := by
  have e : ∀ k, kbI A 69 58 k = if k ∈ [11, 10, 9, 5, 4, 3, 2, 0] then kbB A 69 58 k else A 58 k := fun k => by
    show (if kbR [11, 10, 9, 5, 4, 3, 2, 0] 58 k = true then kbB A 69 58 k else A 58 k) = _
    by_cases h : k ∈ [11, 10, 9, 5, 4, 3, 2, 0]
    · rw [if_pos h, if_pos (show kbR [11, 10, 9, 5, 4, 3, 2, 0] 58 k = true from decide_eq_true (.inr (.inr (.inr (.inr ⟨rfl, h⟩)))))]
    · rw [if_neg h, if_neg (fun z => by have z2 := of_decide_eq_true z; rcases z2 with z2 | z2 | z2 | z2 | z2 <;> first | exact h z2.2 | exact absurd z2.1 (by decide))]
  have k0 : kbI A 69 58 0 = I 58 0 := by rw [e, if_pos (by decide)]; exact (hA 82 (by decide)).trans rfl
  have k2 : kbI A 69 58 2 = I 58 2 := by rw [e, if_pos (by decide)]; exact (hA 83 (by decide)).trans rfl
  have k3 : kbI A 69 58 3 = I 58 3 := by rw [e, if_pos (by decide)]; exact (hA 84 (by decide)).trans rfl
  have k4 : kbI A 69 58 4 = I 58 4 := by rw [e, if_pos (by decide)]; exact (hA 85 (by decide)).trans rfl
  have k5 : kbI A 69 58 5 = I 58 5 := by rw [e, if_pos (by decide)]; exact (hA 86 (by decide)).trans rfl
  have k9 : kbI A 69 58 9 = I 58 9 := by rw [e, if_pos (by decide)]; exact (hA 87 (by decide)).trans rfl
  have k10 : kbI A 69 58 10 = I 58 10 := by rw [e, if_pos (by decide)]; exact (hA 88 (by decide)).trans rfl
  have k11 : kbI A 69 58 11 = I 58 11 := by rw [e, if_pos (by decide)]; exact (hA 89 (by decide)).trans rfl
  refine ⟨?_, ?_, ?_, fun x hx => ⟨?_, ?_, ?_⟩⟩
  · funext k
    show (if k = 0 then kbI A 69 58 0 else if k = 1 then kbI A 69 58 2 else if k = 2 then kbI A 69 58 9 else if k = 3 then kbI A 69 58 10 else if k = 4 then kbI A 69 58 11 else if k = 6 then kbI A 69 58 5 else 0) = (if k = 0 then I 58 0 else if k = 1 then I 58 2 else if k = 2 then I 58 9 else if k = 3 then I 58 10 else if k = 4 then I 58 11 else if k = 6 then I 58 5 else 0)
    rw [k0, k2, k9, k10, k11, k5]
  · refine maskW_cong (fun c h1 h2 => ?_)
    have h3 : kbI A 69 59 c = if A 69 c = 1 then 1 else 0 := by
      show (if kbR [11, 10, 9, 5, 4, 3, 2, 0] 59 c = true then kbB A 69 59 c else A 59 c) = _
      rw [if_pos (show kbR [11, 10, 9, 5, 4, 3, 2, 0] 59 c = true from decide_eq_true (.inl ⟨rfl, h1⟩))]
      rfl
    have h4 : A 69 c = I 59 c := (hA c (by omega)).trans (if_pos h1)
    rw [h3, h4]
    rcases hw c h1 with z | z <;> rw [z] <;> decide
  · funext k
    show (if k = 0 then kbI A 69 58 3 else if k = 1 then kbI A 69 58 4 else 0) = (if k = 0 then I 58 3 else if k = 1 then I 58 4 else 0)
    rw [k3, k4]
  · show (if kbR [11, 10, 9, 5, 4, 3, 2, 0] 60 x = true then A 69 (67 + x) else A 60 x) = I 60 x
    rw [if_pos (show kbR [11, 10, 9, 5, 4, 3, 2, 0] 60 x = true from decide_eq_true (.inr (.inl ⟨rfl, hx⟩))), hA _ (by omega)]
    unfold kpF
    rw [if_neg (by omega), if_pos (by omega), show 67 + x - 67 = x by omega]
  · show (if kbR [11, 10, 9, 5, 4, 3, 2, 0] 61 x = true then A 69 (72 + x) else A 61 x) = I 61 x
    rw [if_pos (show kbR [11, 10, 9, 5, 4, 3, 2, 0] 61 x = true from decide_eq_true (.inr (.inr (.inl ⟨rfl, hx⟩)))), hA _ (by omega)]
    unfold kpF
    rw [if_neg (by omega), if_neg (by omega), if_pos (by omega), show 72 + x - 72 = x by omega]
  · show (if kbR [11, 10, 9, 5, 4, 3, 2, 0] 62 x = true then A 69 (77 + x) else A 62 x) = I 62 x
    rw [if_pos (show kbR [11, 10, 9, 5, 4, 3, 2, 0] 62 x = true from decide_eq_true (.inr (.inr (.inr (.inl ⟨rfl, hx⟩))))), hA _ (by omega)]
    unfold kpF
    rw [if_neg (by omega), if_neg (by omega), if_neg (by omega), if_pos (by omega), show 77 + x - 77 = x by omega]
def hilPost (I : Nat → Nat → Int) (J : Nat → Nat → Int64) (q : Nat × Nat) (f : Nat → Int) (n : Nat) : Option Value → zSt → Prop := fun r σ' => ∃ A, σ' = zst A J q ∧ r = some (.int (iI (paR f n (hrV I)).1)) ∧ A 58 12 = 0 ∧ (∀ i, (i < 58 ∨ 62 < i) → i ≠ 67 → i ≠ 69 → A i = I i) ∧ (∀ k, 17 < k → A 58 k = I 58 k) ∧ (∀ c, c < 67 → A 59 c = 0 ∨ A 59 c = 1) ∧ (∀ c, c < 67 → 7 ≤ c % 10 → A 59 c = I 59 c) ∧ (if (paR f n (hrV I)).1 < 0 then hrL (hrV A) (hrV I) ∧ A 67 = refR I (-2) 67 else hrV A = (paR f n (hrV I)).2.2 ∧ A 67 = I 67)
