/-! small facts for the pairs -/
section PA
variable {I : Nat → Nat → Int} {J : Nat → Nat → Int64} {q : Nat × Nat}
theorem says_s {s kd : Int} (h : fSays I s kd = 0) : 0 ≤ s ∧ s < 8 := by
  unfold fSays at h
  split at h
  · cases h
  · next z => omega
theorem hF_says {s kd : Int} : hF (fSays I s kd) := by
  unfold hF fSays
  (repeat' split) <;> omega
theorem hF_few {m i : Int} : hF (fFewest I J m i) := by
  unfold hF fFewest
  (repeat' split) <;> omega
theorem shyf_C (C : CAN I J) {w : Int} : fShy I w = fShy (VI I) w := by unfold fShy; rw [k1 C]
theorem nearf_C (C : CAN I J) {w k : Int} : fNear I w k = fNear (VI I) w k := by unfold fNear; rw [k1 C]
theorem late_C (C : CAN I J) {s n l : Int} : fLate I J s n l = fLate (VI I) (VJ I J) s n l := by unfold fLate; rw [fcom_C C]
theorem odds_C (C : CAN I J) {s n : Int} : fOdds I J s n = fOdds (VI I) (VJ I J) s n := fcom_C C
theorem hF_late {s n l : Int} : hF (fLate I J s n l) := by
  unfold fLate
  split
  · exact hF_fcom
  · exact .inr (by decide)
theorem late_s {s n l : Int} (h : fLate I J s n l = 0) : 0 ≤ s ∧ s < 8 := by
  unfold fLate at h
  split at h
  · exact (com_ok h).1
  · cases h
theorem late_v (C : CAN I J) {s n l : Int} : uR (fLate (VI I) (VJ I J) s n l) (inN (hv I J 1) (runS (hv I J 1) (runS (hv I J 1) (spOf I 4) (fun _ => 0) l.toNat) (fun k => (J (19 + 2 * s.toNat + 1) k).toInt) n.toNat).2.2) = uR (fLate (VI I) (VJ I J) s n l) (inN (hvR I) (runS (hvR I) (spR I) (latF J s.toNat l.toNat) (n.toNat + l.toNat)).2.2) := by
  refine uR_cg (fun z => ?_)
  rw [hvC C, spC C, (ksh C (late_s z)).2]
  exact late_eq z
theorem oddsN_C (C : CAN I J) {s n : Int} (hs : 0 ≤ s ∧ s < 8) : oddsN (hv I J 1) (I 1 2) (spOf I 4) (J (19 + 2 * s.toNat + 1)) n.toNat = oddsN (hv (VI I) (VJ I J) 1) (VI I 1 2) (spOf (VI I) 4) (VJ I J (19 + 2 * s.toNat + 1)) n.toNat := by
  rw [hvC C, spC C, k1 C, (ksh C hs).2]
theorem odds_s {s n : Int} (h : fOdds I J s n = 0) : 0 ≤ s ∧ s < 8 := (com_ok h).1
theorem judge_s {s n : Int} (h : fJudge I s n = 0) : 0 ≤ s ∧ s < 8 := (row_ok h).1
theorem sd_fr {A : Nat → Nat → Int} (h : RF I A) : (leastF (sdP A) (sdV A) 67).1 = (leastF (sdP I) (sdV I) 67).1 := by
  rw [show sdP A = sdP I from funext fun c => by unfold sdP; rw [h 58 (by omega), h 59 (by omega)], show sdV A = sdV I from funext fun c => by unfold sdV hvR; rw [h 58 (by omega), h 59 (by omega), h 60 (by omega), h 61 (by omega), h 62 (by omega)]]
theorem hvR_fr {A : Nat → Nat → Int} (h : RF I A) : hvR A = hvR I := by
  unfold hvR
  rw [h 58 (by omega), h 59 (by omega), h 60 (by omega), h 61 (by omega)]
theorem spR_fr {A : Nat → Nat → Int} (h : RF I A) : spR A = spR I := by
  unfold spR
  rw [h 58 (by omega), h 62 (by omega)]
theorem bs_fr {A : Nat → Nat → Int} (h : RF I A) : (leastF (bsP A) (bsV A) 5).1 = (leastF (bsP I) (bsV I) 5).1 := by
  rw [show bsP A = bsP I from funext fun c => by unfold bsP; rw [h 58 (by omega), h 59 (by omega)], show bsV A = bsV I from funext fun c => by unfold bsV; rw [hvR_fr h, spR_fr h]]
theorem cell_7 {c : Int} (h : gR I) (z : fHasW (VI I) c = 0) : gC7 c := by
  unfold fHasW at z
  split at z
  · cases z
  · next e => exact gC7_of (n := I 58 0) h.1.2 (by cases hq : isCellN (I 58 0) c with
      | true => rfl
      | false => exact absurd hq e)
theorem reach_0 {n : Int} (z : fReach n = 0) : 0 ≤ n := by
  unfold fReach at z
  split at z
  · next e => exact e.1
  · cases z
theorem kinds_s {s t n w : Int} (h : fKinds I J s t n w = 0) : (0 ≤ s ∧ s < 8) ∧ 0 ≤ t ∧ t < 8 := by
  unfold fKinds at h
  split at h
  · cases h
  · next z =>
    have z := Classical.not_not.mp z
    exact ⟨z.1, z.2.1⟩
theorem hF_kinds {s t n w : Int} : hF (fKinds I J s t n w) := by
  unfold hF fKinds
  (repeat' split) <;> omega
theorem behind_s {s n w : Int} (h : fBehind I J s n w = 0) : 0 ≤ s ∧ s < 8 := by
  unfold fBehind at h
  split at h
  · unfold fDone at h
    split at h
    · next z => exact absurd h z
    · next z => exact (row_ok (Classical.not_not.mp z)).1
  · cases h
theorem hF_behind {s n w : Int} : hF (fBehind I J s n w) := by
  unfold fBehind
  split
  · exact hF_done
  · exact .inr (by decide)
theorem wall_7 (R : Rel I J q) : ∀ c, c < 67 → I 59 c = 1 → c % 10 < 7 := fun c hc h => by
  by_cases z : 7 ≤ c % 10
  · rw [R.2.1.2.2.2.2 c hc z] at h; cases h
  · omega
theorem fl_fr {A : Nat → Nat → Int} (h : RF I A) : ∀ k, flR A k = flR I k
  | 0 => rfl
  | k + 1 => by simp only [flR]; rw [fl_fr h k, h 64 (by omega)]
theorem st_fr {A : Nat → Nat → Int} (h : RF I A) {w : Int} : statusR A w = statusR I w := by
  unfold statusR wcN
  rw [hvR_fr h, fl_fr h, h 58 (by omega), h 59 (by omega), h 62 (by omega), h 67 (by omega)]
end PA
/-! pairs of calls that change nothing but REFUSALS (written by pairs.py) -/
section PQ
variable {g : zG} {I : Nat → Nat → Int} {J : Nat → Nat → Int64} {q : Nat × Nat}
theorem Q5_0 {A : Nat → Nat → Int} (h : frS I A) : Q5 I 0 A := by
  have h2 := Q5_u (f := 0) (frS_rf (I := I)) h
  exact h2
theorem Q6_0 {A : Nat → Nat → Int} (h : frR I A) : Q6 I 0 A := by
  have h2 := Q6_u (f := 0) (.inl rfl) (frR_rf (I := I)) h
  exact h2
theorem pr_element (R : Rel I J q) (C : CAN I J) {s i : Int} (hs : -2147483648 ≤ s ∧ s ≤ 2147483647) (hi : -2147483648 ≤ i ∧ i ≤ 2147483647) : zPair g mX5_element 1 mX6_element 2 [.int (iI s), .int (iI i)] (zst I J q) := by
  refine pq (f := 0) (a := (.long (elemN (VI I) (VJ I J) s i))) R (c_X5_element (gH1 R C) (gS4 R C) (gL1 R C) hs hi) (fun r σ' h => ?_) (fun A q1 hA => ⟨_, c_X6_element (rv R hA).1 (rv R hA).2.1 (rl R hA).1 hs hi, fun r2 σ2 h => ?_⟩)
  · obtain ⟨rfl, rfl⟩ := h
    refine ⟨?_, _, q, R.1, ?_, rfl⟩
    · rw [elem_C C]
    · exact (Q5_0 frS_rf)
  · obtain ⟨rfl, rfl⟩ := h
    refine ⟨?_, _, ?_, rfl⟩
    · rw [VI_fr hA, VJ_fr hA]
    · exact Q6_0 frR_rf
theorem pr_holds (R : Rel I J q) (C : CAN I J) {s : Int} (hs : -2147483648 ≤ s ∧ s ≤ 2147483647) : zPair g mX5_holds 1 mX6_holds 2 [.int (iI s)] (zst I J q) := by
  refine pq (f := 0) (a := (.int (iI (holdsN (VI I) s)))) R (c_X5_holds (gH1 R C) (gS4 R C) (gL1 R C) hs) (fun r σ' h => ?_) (fun A q1 hA => ⟨_, c_X6_holds (rv R hA).1 (rv R hA).2.1 (rl R hA).1 hs, fun r2 σ2 h => ?_⟩)
  · obtain ⟨rfl, rfl⟩ := h
    refine ⟨?_, _, q, R.1, ?_, rfl⟩
    · rw [holds_C C]
    · exact (Q5_0 frS_rf)
  · obtain ⟨rfl, rfl⟩ := h
    refine ⟨?_, _, ?_, rfl⟩
    · rw [VI_fr hA]
    · exact Q6_0 frR_rf
theorem pr_says (R : Rel I J q) (C : CAN I J) {s kd : Int} (hs : -2147483648 ≤ s ∧ s ≤ 2147483647) (hkd : -2147483648 ≤ kd ∧ kd ≤ 2147483647) : zPair g mX5_says 5 mX6_says 5 [.int (iI s), .int (iI kd)] (zst I J q) := by
  refine pq (f := fSays (VI I) s kd) (a := (.int (iI (uR (fSays (VI I) s kd) (saysN (VI I) (VJ I J) s kd))))) R (c_X5_says (gH1 R C) (gS4 R C) (gL1 R C) hs hkd) (fun r σ' h => ?_) (fun A q1 hA => ⟨_, c_X6_says (rv R hA).1 (rv R hA).2.1 (rl R hA).1 (rl R hA).2 hs hkd, fun r2 σ2 h => ?_⟩)
  · obtain ⟨rfl, rfl⟩ := h
    refine ⟨?_, _, q, R.1, ?_, rfl⟩
    · rw [says_C C, uR_cg (fun z => saysN_C C (says_s z))]
    · rw [says_C C]; exact (Q5_u frS_rf frS_rf)
  · obtain ⟨rfl, B, rfl⟩ := h
    refine ⟨?_, _, ?_, rfl⟩
    · rw [VI_fr hA, VJ_fr hA]
    · rw [VI_fr hA]; exact Q6_u hF_says B.2 B.2
theorem pr_eweOf (R : Rel I J q) (C : CAN I J) {w x : Int} (hw : -2147483648 ≤ w ∧ w ≤ 2147483647) (hx : -2147483648 ≤ x ∧ x ≤ 2147483647) : zPair g mX5_eweOf 3 mX6_eweOf 2 [.int (iI w), .int (iI x)] (zst I J q) := by
  refine pq (f := fEweOf (VI I) w x) (a := (.int (iI (uR (fEweOf (VI I) w x) (eweOfN (VI I) w.toNat x))))) R (c_X5_eweOf (gH1 R C) (gS4 R C) (gL1 R C) hw hx) (fun r σ' h => ?_) (fun A q1 hA => ⟨_, c_X6_eweOf (rv R hA).1 (rv R hA).2.1 (rl R hA).1 hw hx, fun r2 σ2 h => ?_⟩)
  · obtain ⟨rfl, rfl⟩ := h
    refine ⟨?_, _, q, R.1, ?_, rfl⟩
    · rw [eweOf_C C, eweOfN_C C]
    · rw [eweOf_C C]; exact (Q5_u frS_rf frS_rf)
  · obtain ⟨rfl, rfl⟩ := h
    refine ⟨?_, _, ?_, rfl⟩
    · rw [VI_fr hA]
    · rw [VI_fr hA]; exact Q6_u (by unfold hF fEweOf; (repeat' split) <;> omega) frR_rf frR_rf
theorem pr_hasWall (R : Rel I J q) (C : CAN I J) {c : Int} (hc : -2147483648 ≤ c ∧ c ≤ 2147483647) : zPair g mX5_hasWall 2 mX6_hasWall 2 [.int (iI c)] (zst I J q) := by
  refine pq (f := fHasW (VI I) c) (a := (.int (iI (uR (fHasW (VI I) c) (bI (wallL (maskW (I 59)) c)))))) R (c_X5_hasWall (gH1 R C) (gS4 R C) (gL1 R C) hc) (fun r σ' h => ?_) (fun A q1 hA => ⟨_, c_X6_hasWall (rv R hA).1 (rv R hA).2.1 (rl R hA).1 hc, fun r2 σ2 h => ?_⟩)
  · obtain ⟨rfl, rfl⟩ := h
    refine ⟨?_, _, q, R.1, ?_, rfl⟩
    · rw [hasW_C C, kj C]; rfl
    · rw [hasW_C C]; exact (Q5_u frS_rf frS_rf)
  · obtain ⟨rfl, rfl⟩ := h
    refine ⟨?_, _, ?_, rfl⟩
    · rw [VI_fr hA, hA 59 (by omega)]
    · rw [VI_fr hA]; exact Q6_u (by unfold hF fHasW; (repeat' split) <;> omega) frR_rf frR_rf
theorem pr_fewest (R : Rel I J q) (C : CAN I J) {m i : Int} (hm : -2147483648 ≤ m ∧ m ≤ 2147483647) (hi : -2147483648 ≤ i ∧ i ≤ 2147483647) : zPair g mX5_fewest 15 mX6_fewest 15 [.int (iI m), .int (iI i)] (zst I J q) := by
  refine pq (f := fFewest (VI I) (VJ I J) m i) (a := (.int (iI (uR (fFewest (VI I) (VJ I J) m i) (fewestN (VI I) (VJ I J) m i))))) R (c_X5_fewest (gH1 R C) (gS4 R C) (gL1 R C) hm hi) (fun r σ' h => ?_) (fun A q1 hA => ⟨_, c_X6_fewest (rv R hA).1 (rv R hA).2.1 (rl R hA).1 (rv R hA).2.2.1 hm hi, fun r2 σ2 h => ?_⟩)
  · obtain ⟨rfl, p, rfl⟩ := h
    refine ⟨?_, _, q, R.1, ?_, rfl⟩
    · rw [few_C C, fewN_C C]
    · rw [few_C C]; exact (Q5_u p.2 p.2)
  · obtain ⟨rfl, B, rfl⟩ := h
    refine ⟨?_, _, ?_, rfl⟩
    · rw [← fFew_eq (J := J) (rv R hA).1 (rv R hA).2.1, ← few_eq (J := J) (rv R hA).1 (rv R hA).2.1, VI_fr hA, VJ_fr hA]
    · rw [← fFew_eq (J := J) (rv R hA).1 (rv R hA).2.1, VI_fr hA, VJ_fr hA]; exact Q6_u hF_few B.2 B.2
theorem pr_most (R : Rel I J q) (C : CAN I J) {m i : Int} (hm : -2147483648 ≤ m ∧ m ≤ 2147483647) (hi : -2147483648 ≤ i ∧ i ≤ 2147483647) : zPair g mX5_most 15 mX6_most 15 [.int (iI m), .int (iI i)] (zst I J q) := by
  refine pq (f := fMost m i) (a := (.int (iI (uR (fMost m i) (mostN (VI I) (VJ I J) m i))))) R (c_X5_most (gH1 R C) (gS4 R C) (gL1 R C) hm hi) (fun r σ' h => ?_) (fun A q1 hA => ⟨_, c_X6_most (rv R hA).1 (rv R hA).2.1 (rl R hA).1 (rv R hA).2.2.1 hm hi, fun r2 σ2 h => ?_⟩)
  · obtain ⟨rfl, p, rfl⟩ := h
    refine ⟨?_, _, q, R.1, ?_, rfl⟩
    · rw [most_C C]
    · exact (Q5_u frS_rf p.2)
  · obtain ⟨rfl, B, rfl⟩ := h
    refine ⟨?_, _, ?_, rfl⟩
    · rw [← most_eq (J := J) (rv R hA).1 (rv R hA).2.1, VI_fr hA, VJ_fr hA]
    · exact Q6_u (by unfold hF fMost; (repeat' split) <;> omega) B.2 B.2
theorem pr_stand (R : Rel I J q) (C : CAN I J)  : zPair g mX5_stand 6 mX6_stand 7 [] (zst I J q) := by
  refine pq (f := 0) (a := (.int (iI ((leastF (sdP I) (sdV I) 67).1)))) R (c_X5_stand (gH1 R C) (gS4 R C) (gL1 R C) ) (fun r σ' h => ?_) (fun A q1 hA => ⟨_, c_X6_stand (rv R hA).1 (rv R hA).2.1 (rv R hA).2.2.1 , fun r2 σ2 h => ?_⟩)
  · obtain ⟨rfl, p, rfl⟩ := h
    refine ⟨?_, _, q, R.1, ?_, rfl⟩
    · rw [hvC C, k1 C, kj C, k4 C, k5 C]; rfl
    · exact (Q5_0 (frS_zSq I p))
  · obtain ⟨rfl, rfl⟩ := h
    refine ⟨?_, _, ?_, rfl⟩
    · rw [sd_fr hA]
    · exact Q6_0 frR_sv
theorem pr_shy (R : Rel I J q) (C : CAN I J) {w : Int} (hw : -2147483648 ≤ w ∧ w ≤ 2147483647) : zPair g mX5_shy 6 mX6_shy 7 [.int (iI w)] (zst I J q) := by
  refine pq (f := fShy (VI I) w) (a := (.int (iI (uR (fShy (VI I) w) (shyN (VI I) (VJ I J) w.toNat))))) R (c_X5_shy (gH1 R C) (gS4 R C) (gL1 R C) hw) (fun r σ' h => ?_) (fun A q1 hA => ⟨_, c_X6_shy (rv R hA).1 (rv R hA).2.1 (rl R hA).1 (rv R hA).2.2.1 hw, fun r2 σ2 h => ?_⟩)
  · obtain ⟨rfl, p, rfl⟩ := h
    refine ⟨?_, _, q, R.1, ?_, rfl⟩
    · rw [shyf_C C, shy_C C]
    · rw [shyf_C C]; exact (Q5_u frS_rf (frS_zSq I _))
  · obtain ⟨rfl, B, rfl⟩ := h
    refine ⟨?_, _, ?_, rfl⟩
    · rw [← shy_eq (J := J), VI_fr hA, VJ_fr hA]
    · rw [VI_fr hA]; exact Q6_u (by unfold hF fShy; (repeat' split) <;> omega) B.2 B.2
theorem pr_late (R : Rel I J q) (C : CAN I J) {s n l : Int} (hs : -2147483648 ≤ s ∧ s ≤ 2147483647) (hn : -2147483648 ≤ n ∧ n ≤ 2147483647) (hl : -2147483648 ≤ l ∧ l ≤ 2147483647) : zPair g mX5_late 7 mX6_late 7 [.int (iI s), .int (iI n), .int (iI l)] (zst I J q) := by
  refine pq (f := fLate (VI I) (VJ I J) s n l) (a := (.int (iI (uR (fLate (VI I) (VJ I J) s n l) (inN (hvR I) (runS (hvR I) (spR I) (latF J s.toNat l.toNat) (n.toNat + l.toNat)).2.2))))) R (c_X5_late (gH1 R C) (gS4 R C) (gL1 R C) hs hn hl) (fun r σ' h => ?_) (fun A q1 hA => ⟨_, c_X6_late (rv R hA).1 (rv R hA).2.1 (rl R hA).1 (rv R hA).2.2.1 hs hn hl, fun r2 σ2 h => ?_⟩)
  · obtain ⟨rfl, rfl⟩ := h
    refine ⟨?_, _, q, R.1, ?_, rfl⟩
    · rw [late_C C, late_v C]
    · rw [late_C C]; exact (Q5_u frS_rf (frS_zSq I _))
  · obtain ⟨rfl, B, rfl⟩ := h
    refine ⟨?_, _, ?_, rfl⟩
    · rw [VI_fr hA, VJ_fr hA, hvR_fr hA, spR_fr hA]
    · rw [VI_fr hA, VJ_fr hA]; exact Q6_u hF_late B.2 B.2
theorem pr_bare (R : Rel I J q) (C : CAN I J)  : zPair g mX5_bare 4 mX6_bare 1 [] (zst I J q) := by
  refine pq (f := 0) (a := (.int (iI (bareF (maskW (I 59) ||| eweB (I 62) (I 58 5).toNat) (I 58 0).toNat)))) R (c_X5_bare (gH1 R C) (gS4 R C) (gL1 R C) ) (fun r σ' h => ?_) (fun A q1 hA => ⟨_, c_X6_bare (rv R hA).1 (rv R hA).2.1 , fun r2 σ2 h => ?_⟩)
  · obtain ⟨rfl, rfl⟩ := h
    refine ⟨?_, _, q, R.1, ?_, rfl⟩
    · rw [k1 C, kj C, k5 C]; rfl
    · exact (Q5_0 frS_rf)
  · obtain ⟨rfl, rfl⟩ := h
    refine ⟨?_, _, ?_, rfl⟩
    · rw [← bare_eq (rv R hA).1 (rv R hA).2.1 (rv R hA).2.2.2.1, hA 59 (by omega), hA 62 (by omega), hA 58 (by omega)]
    · exact Q6_0 frR_rf
theorem pr_odds (R : Rel I J q) (C : CAN I J) {s n : Int} (hs : -2147483648 ≤ s ∧ s ≤ 2147483647) (hn : -2147483648 ≤ n ∧ n ≤ 2147483647) : zPair g mX5_odds 8 mX6_odds 8 [.int (iI s), .int (iI n)] (zst I J q) := by
  refine pq (f := fOdds (VI I) (VJ I J) s n) (a := (.int (iI (uR (fOdds (VI I) (VJ I J) s n) (oddsN (hv (VI I) (VJ I J) 1) (VI I 1 2) (spOf (VI I) 4) (VJ I J (19 + 2 * s.toNat + 1)) n.toNat))))) R (c_X5_odds (gH1 R C) (gS4 R C) (gL1 R C) hs hn) (fun r σ' h => ?_) (fun A q1 hA => ⟨_, c_X6_odds (rv R hA).1 (rv R hA).2.1 (rl R hA).1 (rv R hA).2.2.1 hs hn, fun r2 σ2 h => ?_⟩)
  · obtain ⟨rfl, p, rfl⟩ := h
    refine ⟨?_, _, q, R.1, ?_, rfl⟩
    · rw [odds_C C, uR_cg (fun z => oddsN_C C (odds_s z))]
    · rw [odds_C C]; exact (Q5_u frS_rf (frS_zSq I p))
  · obtain ⟨rfl, B, rfl⟩ := h
    refine ⟨?_, _, ?_, rfl⟩
    · rw [← uR_cg (fun z => odds_eq z), VI_fr hA, VJ_fr hA]
    · rw [VI_fr hA, VJ_fr hA]; exact Q6_u hF_fcom B.2 B.2
theorem pr_ewes (R : Rel I J q) (C : CAN I J) {w : Int} (hw : -2147483648 ≤ w ∧ w ≤ 2147483647) : zPair g mX5_ewes 7 mX6_ewes 7 [.int (iI w)] (zst I J q) := by
  refine pq (f := fEwes w) (a := (.int (iI (uR (fEwes w) (ewesN (VI I) (VJ I J) w))))) R (c_X5_ewes (gH1 R C) (gS4 R C) (gL1 R C) hw) (fun r σ' h => ?_) (fun A q1 hA => ⟨_, c_X6_ewes (rv R hA).1 (rv R hA).2.1 (rv R hA).2.2.1 hw, fun r2 σ2 h => ?_⟩)
  · obtain ⟨rfl, rfl⟩ := h
    refine ⟨?_, _, q, R.1, ?_, rfl⟩
    · rw [ewes_C C]
    · exact (Q5_u frS_rf frS_rf)
  · obtain ⟨rfl, B, rfl⟩ := h
    refine ⟨?_, _, ?_, rfl⟩
    · rw [← ewes_eq (J := J) (rv R hA).1, VI_fr hA, VJ_fr hA]
    · exact Q6_u (by unfold hF fEwes; (repeat' split) <;> omega) B.2 B.2
theorem pr_path (R : Rel I J q) (C : CAN I J) {c : Int} (hc : -2147483648 ≤ c ∧ c ≤ 2147483647) : zPair g mX5_path 4 mX6_path 5 [.int (iI c)] (zst I J q) := by
  refine pq (f := fHasW (VI I) c) (a := (.int (iI (uR (fHasW (VI I) c) (pathN (groundB (I 58 0) (maskW (I 59)) (I 58 2) 67) (bitL (I 58 3)) (bitL c)))))) R (c_X5_path (gH1 R C) (gS4 R C) (gL1 R C) hc) (fun r σ' h => ?_) (fun A q1 hA => ⟨_, c_X6_path (rv R hA).1 (rv R hA).2.1 (rl R hA).1 hc, fun r2 σ2 h => ?_⟩)
  · obtain ⟨rfl, rfl⟩ := h
    refine ⟨?_, _, q, R.1, ?_, rfl⟩
    · rw [hasW_C C, k1 C, kj C, k4 C]; rfl
    · rw [hasW_C C]; exact (Q5_u frS_rf frS_rf)
  · obtain ⟨rfl, rfl⟩ := h
    refine ⟨?_, _, ?_, rfl⟩
    · rw [← uR_cg (fun z => path_eq (rv R hA).1 (rv R hA).2.1 (cell_7 (rv R hA).1 z)), VI_fr hA, hA 59 (by omega), hA 58 (by omega)]
    · rw [VI_fr hA]; exact Q6_u (by unfold hF fHasW; (repeat' split) <;> omega) frR_rf frR_F
theorem pr_reach (R : Rel I J q) (C : CAN I J) {n : Int} (hn : -2147483648 ≤ n ∧ n ≤ 2147483647) : zPair g mX5_reach 4 mX6_reach 5 [.int (iI n)] (zst I J q) := by
  refine pq (f := fReach n) (a := (.int (iI (uR (fReach n) (bcL (sprN (groundB (I 58 0) (maskW (I 59)) (I 58 2) 67) (bitL (I 58 3)) n.toNat)))))) R (c_X5_reach (gH1 R C) (gS4 R C) (gL1 R C) hn) (fun r σ' h => ?_) (fun A q1 hA => ⟨_, c_X6_reach (rv R hA).1 (rv R hA).2.1 (rl R hA).1 hn, fun r2 σ2 h => ?_⟩)
  · obtain ⟨rfl, rfl⟩ := h
    refine ⟨?_, _, q, R.1, ?_, rfl⟩
    · rw [k1 C, kj C, k4 C]; rfl
    · exact (Q5_u frS_rf frS_rf)
  · obtain ⟨rfl, rfl⟩ := h
    refine ⟨?_, _, ?_, rfl⟩
    · rw [← uR_cg (fun z => reach_eq (rv R hA).1 (rv R hA).2.1 (reach_0 z)), hA 59 (by omega), hA 58 (by omega)]
    · exact Q6_u (by unfold hF fReach; (repeat' split) <;> omega) frR_rf frR_F
theorem pr_open (R : Rel I J q) (C : CAN I J) {c : Int} (hc : -2147483648 ≤ c ∧ c ≤ 2147483647) : zPair g mX5_open 2 mX6_open 2 [.int (iI c)] (zst I J q) := by
  refine pq (f := fHasW (VI I) c) (a := (.int (iI (uR (fHasW (VI I) c) (cnt (fun k => openN (I 58 0) (maskW (I 59)) (c + shN (k + 1))) 4))))) R (c_X5_open (gH1 R C) (gS4 R C) (gL1 R C) hc) (fun r σ' h => ?_) (fun A q1 hA => ⟨_, c_X6_open (rv R hA).1 (rv R hA).2.1 (rl R hA).1 hc, fun r2 σ2 h => ?_⟩)
  · obtain ⟨rfl, rfl⟩ := h
    refine ⟨?_, _, q, R.1, ?_, rfl⟩
    · rw [hasW_C C, k1 C, kj C]; rfl
    · rw [hasW_C C]; exact (Q5_u frS_rf frS_rf)
  · obtain ⟨rfl, rfl⟩ := h
    refine ⟨?_, _, ?_, rfl⟩
    · rw [VI_fr hA, hA 59 (by omega), hA 58 (by omega)]
    · rw [VI_fr hA]; exact Q6_u (by unfold hF fHasW; (repeat' split) <;> omega) frR_rf frR_rf
theorem pr_still (R : Rel I J q) (C : CAN I J) {w : Int} (hw : -2147483648 ≤ w ∧ w ≤ 2147483647) : zPair g mX5_still 7 mX6_still 8 [.int (iI w)] (zst I J q) := by
  refine pq (f := fStill w) (a := (.int (iI (uR (fStill w) (stillN (VI I) (VJ I J) w))))) R (c_X5_still (gH1 R C) (gS4 R C) (gL1 R C) hw) (fun r σ' h => ?_) (fun A q1 hA => ⟨_, c_X6_still (rv R hA).1 (rv R hA).2.1 (rl R hA).1 hw, fun r2 σ2 h => ?_⟩)
  · obtain ⟨rfl, p, rfl⟩ := h
    refine ⟨?_, _, q, R.1, ?_, rfl⟩
    · rw [still_C C]
    · exact (Q5_u frS_rf (frS_zSq I _))
  · obtain ⟨rfl, B, rfl⟩ := h
    refine ⟨?_, _, ?_, rfl⟩
    · rw [← still_eq (J := J) (rv R hA).1, VI_fr hA, VJ_fr hA]
    · exact Q6_u (by unfold hF fStill; (repeat' split) <;> omega) B.2 B.2
theorem pr_held (R : Rel I J q) (C : CAN I J)  : zPair g mX5_held 7 mX6_held 7 [] (zst I J q) := by
  refine pq (f := 0) (a := (.int (iI (heldN (VI I) (VJ I J))))) R (c_X5_held (gH1 R C) (gS4 R C) (gL1 R C) ) (fun r σ' h => ?_) (fun A q1 hA => ⟨_, c_X6_held (rv R hA).1 (rv R hA).2.1 (rv R hA).2.2.1 , fun r2 σ2 h => ?_⟩)
  · obtain ⟨rfl, rfl⟩ := h
    refine ⟨?_, _, q, R.1, ?_, rfl⟩
    · rw [held_C C]
    · exact (Q5_0 frS_rf)
  · obtain ⟨rfl, rfl⟩ := h
    refine ⟨?_, _, ?_, rfl⟩
    · rw [← held_eq (J := J) (rv R hA).1, VI_fr hA, VJ_fr hA]
    · exact Q6_0 frR_sv
theorem pr_grazing (R : Rel I J q) (C : CAN I J)  : zPair g mX5_grazing 3 mX6_grazing 2 [] (zst I J q) := by
  refine pq (f := 0) (a := (.int (iI (((grazN (VI I) : Nat) : Int))))) R (c_X5_grazing (gH1 R C) (gS4 R C) (gL1 R C) ) (fun r σ' h => ?_) (fun A q1 hA => ⟨_, c_X6_grazing (rv R hA).1 (rv R hA).2.1 (rl R hA).1 , fun r2 σ2 h => ?_⟩)
  · obtain ⟨rfl, rfl⟩ := h
    refine ⟨?_, _, q, R.1, ?_, rfl⟩
    · rw [graz_C C]
    · exact (Q5_0 frS_rf)
  · obtain ⟨rfl, rfl⟩ := h
    refine ⟨?_, _, ?_, rfl⟩
    · rw [VI_fr hA]
    · exact Q6_0 frR_rf
theorem pr_last (R : Rel I J q) (C : CAN I J)  : zPair g mX5_last 2 mX6_last 2 [] (zst I J q) := by
  refine pq (f := 0) (a := (.int (iI ((lastF (VI I 5) (VI I 1 1) (VI I 1 6).toNat).1)))) R (c_X5_last (gH1 R C) (gS4 R C) (gL1 R C) ) (fun r σ' h => ?_) (fun A q1 hA => ⟨_, c_X6_last (rv R hA).1 (rv R hA).2.1 (rl R hA).1 , fun r2 σ2 h => ?_⟩)
  · obtain ⟨rfl, rfl⟩ := h
    refine ⟨?_, _, q, R.1, ?_, rfl⟩
    · rw [k1 C, k5 C]; rfl
    · exact (Q5_0 frS_rf)
  · obtain ⟨rfl, rfl⟩ := h
    refine ⟨?_, _, ?_, rfl⟩
    · rw [VI_fr hA]
    · exact Q6_0 frR_rf
theorem pr_near (R : Rel I J q) (C : CAN I J) {w k : Int} (hw : -2147483648 ≤ w ∧ w ≤ 2147483647) (hk : -2147483648 ≤ k ∧ k ≤ 2147483647) : zPair g mX5_near 2 mX6_near 2 [.int (iI w), .int (iI k)] (zst I J q) := by
  refine pq (f := fNear (VI I) w k) (a := (.int (iI (uR (fNear (VI I) w k) (((nearN (VI I) w k : Nat) : Int)))))) R (c_X5_near (gH1 R C) (gS4 R C) (gL1 R C) hw hk) (fun r σ' h => ?_) (fun A q1 hA => ⟨_, c_X6_near (rv R hA).1 (rv R hA).2.1 (rl R hA).1 hw hk, fun r2 σ2 h => ?_⟩)
  · obtain ⟨rfl, rfl⟩ := h
    refine ⟨?_, _, q, R.1, ?_, rfl⟩
    · rw [nearf_C C, near_C C]
    · rw [nearf_C C]; exact (Q5_u frS_rf frS_rf)
  · obtain ⟨rfl, rfl⟩ := h
    refine ⟨?_, _, ?_, rfl⟩
    · rw [VI_fr hA]
    · rw [VI_fr hA]; exact Q6_u (by unfold hF fNear; (repeat' split) <;> omega) frR_rf frR_rf
theorem pr_steps (R : Rel I J q) (C : CAN I J)  : zPair g mX5_steps 3 mX6_steps_ 3 [] (zst I J q) := by
  refine pq (f := 0) (a := (.int (iI (penN (hvR I) (I 62))))) R (c_X5_steps (gH1 R C) (gS4 R C) (gL1 R C) ) (fun r σ' h => ?_) (fun A q1 hA => ⟨_, c_X6_steps_ (rv R hA).1 (rv R hA).2.1 , fun r2 σ2 h => ?_⟩)
  · obtain ⟨rfl, rfl⟩ := h
    refine ⟨?_, _, q, R.1, ?_, rfl⟩
    · rw [hvC C, k5 C]; rfl
    · exact (Q5_0 frS_rf)
  · obtain ⟨rfl, rfl⟩ := h
    refine ⟨?_, _, ?_, rfl⟩
    · rw [hvR_fr hA, hA 62 (by omega)]
    · exact Q6_0 frR_rf
theorem pr_best (R : Rel I J q) (C : CAN I J)  : zPair g mX5_best 6 mX6_best 7 [] (zst I J q) := by
  refine pq (f := 0) (a := (.int (iI ((leastF (bsP I) (bsV I) 5).1)))) R (c_X5_best (gH1 R C) (gS4 R C) (gL1 R C) ) (fun r σ' h => ?_) (fun A q1 hA => ⟨_, c_X6_best (rv R hA).1 (rv R hA).2.1 (rv R hA).2.2.1 , fun r2 σ2 h => ?_⟩)
  · obtain ⟨rfl, p, rfl⟩ := h
    refine ⟨?_, _, q, R.1, ?_, rfl⟩
    · rw [hvC C, spC C, k1 C, kj C, k4 C]; rfl
    · exact (Q5_0 (frS_zSq I p))
  · obtain ⟨rfl, rfl⟩ := h
    refine ⟨?_, _, ?_, rfl⟩
    · rw [bs_fr hA]
    · exact Q6_0 frR_sv
theorem pr_kinds (R : Rel I J q) (C : CAN I J) {s t n w : Int} (hs : -2147483648 ≤ s ∧ s ≤ 2147483647) (ht : -2147483648 ≤ t ∧ t ≤ 2147483647) (hn : -2147483648 ≤ n ∧ n ≤ 2147483647) (hw : -2147483648 ≤ w ∧ w ≤ 2147483647) : zPair g mX5_kinds 6 mX6_kinds 8 [.int (iI s), .int (iI t), .int (iI n), .int (iI w)] (zst I J q) := by
  refine pq (f := fKinds (VI I) (VJ I J) s t n w) (a := (.int (iI (uR (fKinds (VI I) (VJ I J) s t n w) (((kindsN (VI I) (VJ I J) s t n w : Nat) : Int)))))) R (c_X5_kinds (gH1 R C) (gS4 R C) (gL1 R C) hs ht hn hw) (fun r σ' h => ?_) (fun A q1 hA => ⟨_, c_X6_kinds (rv R hA).1 (rv R hA).2.1 (rl R hA).1 hs ht hn hw, fun r2 σ2 h => ?_⟩)
  · obtain ⟨rfl, p, rfl⟩ := h
    refine ⟨?_, _, q, R.1, ?_, rfl⟩
    · rw [kinds_C C, uR_cg (fun z => by rw [kindsN_C C (kinds_s z).1 (kinds_s z).2])]
    · rw [kinds_C C]; exact (Q5_u frS_rf (frS_zSq I p))
  · obtain ⟨rfl, B, rfl⟩ := h
    refine ⟨?_, _, ?_, rfl⟩
    · rw [← uR_cg (fun z => congrArg (fun x : Nat => (x : Int)) (kinds_eq (kinds_s z).1 (kinds_s z).2)), VI_fr hA, VJ_fr hA]
    · rw [VI_fr hA, VJ_fr hA]; exact Q6_u hF_kinds B.2 B.2
theorem pr_judge (R : Rel I J q) (C : CAN I J) {s n : Int} (hs : -2147483648 ≤ s ∧ s ≤ 2147483647) (hn : -2147483648 ≤ n ∧ n ≤ 2147483647) : zPair g mX5_judge 5 mX6_judge 7 [.int (iI s), .int (iI n)] (zst I J q) := by
  refine pq (f := fJudge (VI I) s n) (a := (.int (iI (uR (fJudge (VI I) s n) (wrongN (VI I 1 0) (VJ I J 1 5) (VI I 1 1) (VI I 4 0) (VJ I J (19 + 2 * s.toNat + 1)) n.toNat))))) R (c_X5_judge (gH1 R C) (gS4 R C) (gL1 R C) hs hn) (fun r σ' h => ?_) (fun A q1 hA => ⟨_, c_X6_judge (rv R hA).1 (rv R hA).2.1 (rl R hA).1 (rv R hA).2.2.1 hs hn, fun r2 σ2 h => ?_⟩)
  · obtain ⟨rfl, rfl⟩ := h
    refine ⟨?_, _, q, R.1, ?_, rfl⟩
    · rw [show fJudge I s n = fJudge (VI I) s n from frow_C C, uR_cg (fun z => wrong_C C (judge_s z))]
    · rw [show fJudge I s n = fJudge (VI I) s n from frow_C C]; exact (Q5_u frS_rf frS_rf)
  · obtain ⟨rfl, rfl⟩ := h
    refine ⟨?_, _, ?_, rfl⟩
    · rw [← uR_cg (fun z => judge_eq (J := J) z), VI_fr hA, VJ_fr hA]
    · rw [VI_fr hA]; exact Q6_u hF_frow frR_rf frR_sv
theorem pr_behind (R : Rel I J q) (C : CAN I J) {s n w : Int} (hs : -2147483648 ≤ s ∧ s ≤ 2147483647) (hn : -2147483648 ≤ n ∧ n ≤ 2147483647) (hw : -2147483648 ≤ w ∧ w ≤ 2147483647) : zPair g mX5_behind 7 mX6_behind 7 [.int (iI s), .int (iI n), .int (iI w)] (zst I J q) := by
  refine pq (f := fBehind (VI I) (VJ I J) s n w) (a := (.int (iI (uR (fBehind (VI I) (VJ I J) s n w) (behindN (VI I) (VJ I J) s n w))))) R (c_X5_behind (gH1 R C) (gS4 R C) (gL1 R C) hs hn hw) (fun r σ' h => ?_) (fun A q1 hA => ⟨_, c_X6_behind (rv R hA).1 (rv R hA).2.1 (rl R hA).1 (rv R hA).2.2.1 hs hn hw, fun r2 σ2 h => ?_⟩)
  · obtain ⟨rfl, rfl⟩ := h
    refine ⟨?_, _, q, R.1, ?_, rfl⟩
    · rw [behind_C C, uR_cg (fun z => behindN_C C (behind_s z))]
    · rw [behind_C C]; exact (Q5_u frS_rf (frS_zSq I _))
  · obtain ⟨rfl, B, rfl⟩ := h
    refine ⟨?_, _, ?_, rfl⟩
    · rw [← uR_cg (fun z => behind_eq (J := J) z), VI_fr hA, VJ_fr hA]
    · rw [VI_fr hA, VJ_fr hA]; exact Q6_u hF_behind B.2 B.2
theorem pr_status (R : Rel I J q) (C : CAN I J) {w : Int} (hw : -2147483648 ≤ w ∧ w ≤ 2147483647) : zPair g mX5_status 4 mX6_status 2 [.int (iI w)] (zst I J q) := by
  refine pq (f := 0) (a := (.int (iI (statusR I w)))) R (c_X5_status (gH1 R C) (gS4 R C) (gL1 R C) hw) (fun r σ' h => ?_) (fun A q1 hA => ⟨_, c_X6_status (rv R hA).1 (rv R hA).2.1 (rl R hA).1 hw, fun r2 σ2 h => ?_⟩)
  · obtain ⟨rfl, rfl⟩ := h
    refine ⟨?_, _, q, R.1, ?_, rfl⟩
    · rw [status_C C (wall_7 R)]
    · exact (Q5_0 frS_rf)
  · obtain ⟨rfl, rfl⟩ := h
    refine ⟨?_, _, ?_, rfl⟩
    · rw [st_fr hA]
    · exact Q6_0 frR_rf
end PQ
