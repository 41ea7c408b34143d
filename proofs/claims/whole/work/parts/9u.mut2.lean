/-! pairs of calls: turns in truth; shelves; the tape -/
theorem nfold_k {n : Int} {w : Int64} {dog mark cell : Int} (h : isCellN n cell = true) : ∀ k, isCellN n (nfold n w dog mark cell k).1 = true := by
  intro k
  induction k with
  | zero => exact h
  | succ k ih =>
    simp only [nfold, nstp]
    split
    · next h1 =>
      have h2 := h1.1
      unfold openN at h2
      rw [Bool.and_eq_true] at h2
      exact h2.1
    · exact ih
theorem git_k {n : Int} {w : Int64} {pen dog fears stares mark c : Int} (h : isCellN n c = true) : ∀ t, isCellN n (git n w pen dog fears stares mark c t) = true := by
  intro t
  induction t with
  | zero => exact h
  | succ t ih =>
    simp only [git, gstp]
    split
    · exact ih
    · split
      · exact nfold_k ih 4
      · exact ih
theorem turnC_k {H : HV} {dog : Int} {C : Nat → Int} {m : Nat} (h : ∀ e, e < m → isCellN H.1 (C e) = true) : ∀ k, ∀ e, e < m → isCellN H.1 (turnC H dog C k e) = true := by
  intro k
  induction k with
  | zero => exact h
  | succ k ih =>
    intro e he
    simp only [turnC, up1]
    split
    · next q => subst q; exact git_k (ih e he) _
    · exact ih e he
/-- THE DOG on an open CELL, the EWES on CELLS -/
def TPn (I : Nat → Nat → Int) (p : SP) : Prop := gRS p ∧ openN (I 58 0) (maskW (I 59)) p.1 = true ∧ ∀ e, e < (I 58 5).toNat → isCellN (I 58 0) (p.2.2 e) = true
theorem TP_turn {I : Nat → Nat → Int} {p : SP} {c : Int} (hg : gR I) (h : TPn I p) (hc : 0 ≤ c ∧ c ≤ 4) : TPn I (turnS (hvR I) p c) := by
  refine ⟨gRS_turn hg h.1 hc, ?_, turnC_k (H := hvR I) h.2.2 _⟩
  show openN (I 58 0) (maskW (I 59)) (dogN (hvR I) p.1 c) = true
  unfold dogN
  split
  · next q =>
    simp only [canN, Bool.or_eq_true, decide_eq_true_eq] at q
    rcases q with q | q
    · subst q
      show openN (I 58 0) (maskW (I 59)) (p.1 + shN 0) = true
      rw [show shN 0 = 0 from rfl, Int.add_zero]
      exact h.2.1
    · simp only [dogsN, Bool.and_eq_true] at q
      exact q.2
  · exact h.2.1
theorem TP_run {I : Nat → Nat → Int} {p : SP} {f : Nat → Int} (hg : gR I) (h : TPn I p) : ∀ n, (∀ k, k < n → 0 ≤ f k ∧ f k ≤ 4) → TPn I (runS (hvR I) p f n)
  | 0, _ => h
  | n + 1, hf => TP_turn hg (TP_run hg h n (fun k hk => hf k (by omega))) (hf n (by omega))
theorem TP_ev {I : Nat → Nat → Int} {x : Int × Int × SP} {wi : Int} (hg : gR I) (h : TPn I x.2.2) : ∀ n, TPn I (evN (hvR I) wi x n).2.2
  | 0 => h
  | n + 1 => by
    have h1 := TP_ev hg h n (wi := wi) (x := x)
    refine TP_turn hg h1 ?_
    split
    · exact h1.1.2.1
    · have := ush16_r (seedN (evN (hvR I) wi x n).1)
      omega
theorem TP_of {I : Nat → Nat → Int} (h : RV0 I) : TPn I (spR I) := ⟨h.2.1, h.2.2.1, h.2.2.2.1.2⟩
theorem RV0_TP {I A : Nat → Nat → Int} {p : SP} (h : RV0 I) (ht : TPn I p) (s : A 58 0 = I 58 0 ∧ A 58 2 = I 58 2 ∧ A 58 5 = I 58 5 ∧ A 58 9 = I 58 9) (h59 : A 59 = I 59) (h60 : A 60 = I 60) (h61 : A 61 = I 61) (hp : spR A = p) : RV0 A := by
  obtain ⟨r1, r2, r3, r4, r5⟩ := h
  obtain ⟨s0, s2, s5, s9⟩ := s
  have e3 : A 58 3 = p.1 := congrArg (fun x : SP => x.1) hp
  have e62 : A 62 = p.2.2 := congrArg (fun x : SP => x.2.2) hp
  refine ⟨by unfold gR; rw [s0, s2, s5, s9, h59, h60, h61]; exact r1, by rw [hp]; exact ht.1, by rw [s0, h59, e3]; exact ht.2.1, ⟨by rw [h59, s0]; exact r4.1, by rw [s0, s5, e62]; exact ht.2.2⟩, by rw [h59]; exact r5⟩
section MV
variable {g : zG} {I : Nat → Nat → Int} {J J1 J2 : Nat → Nat → Int64} {q : Nat × Nat}
theorem turn_C (C : CAN I J) {c : Int} : fTurn I J c = fTurn (VI I) (VJ I J) c := by
  unfold fTurn
  rw [k1 C, kj C, k4 C]
theorem zSq4 {B : Nat → Nat → Int} {p : SP} {i : Nat} (h : i ≠ 4 ∧ i ≠ 5) : zSq B 4 p i = B i := by
  funext k
  simp only [zSq, zSp]
  rw [if_neg h.1, if_neg (by omega)]
theorem pr_turn (R : Rel I J q) (C : CAN I J) {c : Int} (hc : -2147483648 ≤ c ∧ c ≤ 2147483647) : zPair g mX5_turn 6 mX6_turn 6 [.int (iI c)] (zst I J q) := by
  have c5 := c_X5_turn (g := g) (J := J) (q := q) (gH1 R C) (gS4 R C) (gL1 R C) hc
  rw [turn_C C, hvC C, spC C, k1 C] at c5
  obtain ⟨p, hp⟩ : ∃ p, p = turnS (hv (VI I) (VJ I J) 1) (spOf (VI I) 4) c := ⟨_, rfl⟩
  rw [← hp] at c5
  have hp2 : p = turnS (hvR I) (spR I) c := hp
  refine pm R (f := fTurn (VI I) (VJ I J) c) (by unfold hF fTurn; (repeat' split) <;> omega) (RF_z RF_q (by omega)) c5 (okB := zu (zRq (uI I (fTurn (VI I) (VJ I J) c) (zu (zSq I 4 p) 1 3 (VI I 1 3 + 1))) p) 58 10 (I 58 10 + 1)) (J2 := J) (fun hA => ?_) (fun hz hu => ?_) (fun _ => rfl)
  · have c6 := c_X6_turn (g := g) (J := J) (q := q) (rv R hA).1 (rv R hA).2.1 (rl R hA).1 (rv R hA).2.2.1 hc
    rw [VI_fr hA, VJ_fr hA, hvR_fr hA, spR_fr hA, hA 58 (by omega), ← hp2] at c6
    exact c6
  · rw [hu]
    have h3 : 0 ≤ c ∧ c ≤ 4 := by
      unfold fTurn at hz
      split at hz
      · cases hz
      · next z => omega
    have ht : TPn I p := by rw [hp2]; exact TP_turn R.2.1.1 (TP_of R.2.1) h3
    obtain ⟨a1, a2, a4, a9⟩ := ag_of R
    refine Rel_hill R (fun i hi => ?_) (fun i hi h69 => ?_) ⟨rfl, rfl⟩ (fun _ _ => rfl) (Int.le_refl _) (RV0_TP R.2.1 ht ⟨rfl, rfl, rfl, rfl⟩ rfl rfl rfl rfl) ⟨⟨a1.1, a1.2.1, a1.2.2.1, ?_, a1.2.2.2.2⟩, fun e he => ⟨(a2 e he).1, (a2 e he).2.1, rfl⟩, ⟨rfl, rfl⟩, a9⟩
    · rw [zu_ne (by omega), zRq_n (by omega) (by omega), zu_ne (by omega), zSq4 (by omega)]
    · rw [zu_ne (by omega), zRq_n (by omega) (by omega), zu_ne (by omega), zSq4 (by omega)]
    · show VI I 1 3 + 1 = I 58 10 + 1
      rfl
theorem doneR_C (C : CAN I J) {s n : Int} (z : fDone (VI I) (VJ I J) s n = 0) : runS (hv I J 1) (spOf I 4) (fun k => (J (19 + 2 * s.toNat + 1) k).toInt) n.toNat = runS (hvR I) (spR I) (tdF J s.toNat) n.toNat := by
  rw [hvC C, spC C, (ksh C (done_ok z).1).2]
  exact done_eq z
theorem pr_done (R : Rel I J q) (C : CAN I J) {s n : Int} (hs : -2147483648 ≤ s ∧ s ≤ 2147483647) (hn : -2147483648 ≤ n ∧ n ≤ 2147483647) : zPair g mX5_done 7 mX6_done 7 [.int (iI s), .int (iI n)] (zst I J q) := by
  have c5 := c_X5_done (g := g) (J := J) (q := q) (gH1 R C) (gS4 R C) (gL1 R C) hs hn
  rw [done_C C] at c5
  by_cases hz : fDone (VI I) (VJ I J) s n = 0
  · rw [doneR_C C hz, hvC C, k1 C] at c5
    obtain ⟨p, hp⟩ : ∃ p, p = runS (hvR I) (spR I) (tdF J s.toNat) n.toNat := ⟨_, rfl⟩
    rw [← hp, uI0 hz] at c5
    have hA : RF I (zu (zSq I 4 p) 1 3 (VI I 1 3 + n)) := RF_z RF_q (by omega)
    have c6 := c_X6_done (g := g) (J := J) (q := q) (rv R hA).1 (rv R hA).2.1 (rl R hA).1 (rv R hA).2.2.1 hs hn
    rw [VI_fr hA, VJ_fr hA, hvR_fr hA, spR_fr hA, hA 58 (by omega), ← hp] at c6
    refine ⟨.int (iI (uR (fDone (VI I) (VJ I J) s n) (inN (hvR I) p.2.2))), _, Exists.intro _ rfl, c5, fun r σ' h => ?_⟩
    obtain ⟨rfl, rfl⟩ := h
    refine ⟨rfl, rfl, _, c6, fun r2 σ2 h => ?_⟩
    obtain ⟨rfl, ⟨B, hB⟩, rfl⟩ := h
    refine ⟨rfl, _, J, q, ?_, rfl⟩
    show Rel (uK B (fDone (VI I) (VJ I J) s n) (zu (zRq B p) 58 10 (I 58 10 + n))) J q
    rw [uK0 hz]
    have ht : TPn I p := by rw [hp]; exact TP_run R.2.1.1 (TP_of R.2.1) _ (dn_cmd (done_ok hz).2)
    obtain ⟨a1, a2, a4, a9⟩ := ag_of R
    have b : ∀ i, i ≠ 58 → i < 69 → B i = zu (zSq I 4 p) 1 3 (VI I 1 3 + n) i := fun i h1 h2 => hB.1 i h1 (.inl h2)
    have b58 : ∀ k, (k < 14 ∨ (17 < k ∧ k < 28)) → k ≠ 3 → k ≠ 4 → k ≠ 10 → zu (zRq B p) 58 10 (I 58 10 + n) 58 k = I 58 k := fun k hk h3 h4 h10 => by
      rw [zu_n (by omega), zRq_k h3 h4, hB.2 k (by omega)]
      rfl
    refine Rel_hill R (fun i hi => ?_) (fun i hi h69 => ?_) ⟨b58 12 (by omega) (by omega) (by omega) (by omega), b58 22 (by omega) (by omega) (by omega) (by omega)⟩ (fun _ _ => rfl) (by rw [b58 5 (by omega) (by omega) (by omega) (by omega)]; exact Int.le_refl _) (RV0_TP R.2.1 ht ⟨b58 0 (by omega) (by omega) (by omega) (by omega), b58 2 (by omega) (by omega) (by omega) (by omega), b58 5 (by omega) (by omega) (by omega) (by omega), b58 9 (by omega) (by omega) (by omega) (by omega)⟩ ?_ ?_ ?_ rfl) ⟨?_, fun e he => ?_, ?_, ?_⟩
    · rw [zu_ne (by omega), zRq_n (by omega) (by omega), b i (by omega) (by omega), zu_ne (by omega), zSq4 (by omega)]
    · rw [zu_ne (by omega), zRq_n (by omega) (by omega), b i (by omega) (by omega), zu_ne (by omega), zSq4 (by omega)]
    · rw [zu_ne (by omega), zRq_n (by omega) (by omega), b 59 (by omega) (by omega)]
      rfl
    · rw [zu_ne (by omega), zRq_n (by omega) (by omega), b 60 (by omega) (by omega)]
      rfl
    · rw [zu_ne (by omega), zRq_n (by omega) (by omega), b 61 (by omega) (by omega)]
      rfl
    · rw [b58 0 (by omega) (by omega) (by omega) (by omega), b58 2 (by omega) (by omega) (by omega) (by omega), b58 9 (by omega) (by omega) (by omega) (by omega), b58 11 (by omega) (by omega) (by omega) (by omega), b58 5 (by omega) (by omega) (by omega) (by omega), zu_s, zu_ne (by omega), zRq_n (by omega) (by omega), b 1 (by omega) (by omega)]
      exact ⟨a1.1, a1.2.1, a1.2.2.1, rfl, a1.2.2.2.2.1, a1.2.2.2.2.2⟩
    · rw [zu_ne (show (2 : Nat) ≠ 58 by omega), zRq_n (by omega) (by omega), b 2 (by omega) (by omega), zu_ne (show (60 : Nat) ≠ 58 by omega), zRq_n (by omega) (by omega), b 60 (by omega) (by omega), zu_ne (show (3 : Nat) ≠ 58 by omega), zRq_n (by omega) (by omega), b 3 (by omega) (by omega), zu_ne (show (61 : Nat) ≠ 58 by omega), zRq_n (by omega) (by omega), b 61 (by omega) (by omega), zu_ne (show (5 : Nat) ≠ 58 by omega), zRq_n (by omega) (by omega), b 5 (by omega) (by omega), zu_ne (show (62 : Nat) ≠ 58 by omega), zRq_62]
      exact ⟨(a2 e he).1, (a2 e he).2.1, rfl⟩
    · rw [zu_ne (show (4 : Nat) ≠ 58 by omega), zRq_n (by omega) (by omega), b 4 (by omega) (by omega)]
      exact ⟨rfl, rfl⟩
    · rw [zu_ne (by omega), zRq_n (by omega) (by omega), b 59 (by omega) (by omega)]
      exact a9
  · have hu : uI I (fDone (VI I) (VJ I J) s n) (zu (zSq I 4 (runS (hv I J 1) (spOf I 4) (fun k => (J (19 + 2 * s.toNat + 1) k).toInt) n.toNat)) 1 3 (I 1 3 + n)) = uI I (fDone (VI I) (VJ I J) s n) I := by unfold uI; rw [if_neg hz, if_neg hz]
    have hr : ∀ x y : Int, uR (fDone (VI I) (VJ I J) s n) x = uR (fDone (VI I) (VJ I J) s n) y := fun x y => uR_cg (fun z => absurd z hz)
    rw [hu, hr _ 0] at c5
    refine pq (f := fDone (VI I) (VJ I J) s n) (a := .int (iI (uR (fDone (VI I) (VJ I J) s n) 0))) R c5 (fun r σ' h => ?_) (fun A q1 hA => ⟨_, c_X6_done (rv R hA).1 (rv R hA).2.1 (rl R hA).1 (rv R hA).2.2.1 hs hn, fun r2 σ2 h => ?_⟩)
    · obtain ⟨rfl, rfl⟩ := h
      exact ⟨rfl, _, q, R.1, Q5_u frS_rf frS_rf, rfl⟩
    · obtain ⟨rfl, B, rfl⟩ := h
      rw [VI_fr hA, VJ_fr hA]
      refine ⟨by rw [hr _ 0], _, ?_, rfl⟩
      have h9 := Q6_u (f := fDone (VI I) (VJ I J) s n) hF_done B.2 B.2
      unfold uK at h9 ⊢
      rw [if_neg hz] at h9 ⊢
      exact h9
theorem pr_evening (R : Rel I J q) (C : CAN I J) {n : Int} (hn : -2147483648 ≤ n ∧ n ≤ 2147483647) : zPair g mX5_evening 7 mX6_evening 7 [.int (iI n)] (zst I J q) := by
  have c5 := c_X5_evening (g := g) (J := J) (q := q) (gH1 R C) (gS4 R C) (gL1 R C) hn
  have hx : (I 1 4, I 1 3, spOf I 4) = (I 58 11, I 58 10, spR I) := by rw [k1 C, spC C]; rfl
  have hw : I 1 2 = I 58 9 := by rw [k1 C]; rfl
  rw [eve_ev, hx, hw, show hv (evE I (evN (hv I J 1) (I 58 9) (I 58 11, I 58 10, spR I) n.toNat)) J 1 = hv I J 1 from rfl, hvC C] at c5
  obtain ⟨y, hy⟩ : ∃ y, y = evN (hvR I) (I 58 9) (I 58 11, I 58 10, spR I) n.toNat := ⟨_, rfl⟩
  have c5 : zRun g mX5_evening 7 [.ref 0, .int (iI n)] (zst I J q) (some (.int (iI (uR (fEve n) (inN (hvR I) y.2.2.2.2 - inN (hvR I) (I 62)))))) (zst (uI I (fEve n) (evE I y)) J q) := by
    rw [k5 C] at c5
    rw [hy]
    exact c5
  refine pm R (f := fEve n) (by unfold hF fEve; (repeat' split) <;> omega) (okA := evE I y) (RF_z (RF_z RF_q (by omega)) (by omega)) c5 (okB := zEv (uI I (fEve n) (evE I y)) y) (J2 := J) (fun hA => ?_) (fun hz hu => ?_) (fun _ => rfl)
  · have c6 := c_X6_evening (g := g) (J := J) (q := q) (rv R hA).1 (rv R hA).2.1 (rl R hA).1 (rv R hA).2.2.1 hn
    rw [hvR_fr hA, spR_fr hA, hA 58 (by omega), hA 62 (by omega), ← hy] at c6
    exact c6
  · rw [hu]
    have ht : TPn I y.2.2 := by rw [hy]; exact TP_ev R.2.1.1 (TP_of R.2.1) _
    obtain ⟨a1, a2, a4, a9⟩ := ag_of R
    have e : ∀ i, i ≠ 58 → i ≠ 62 → zEv (evE I y) y i = evE I y i := fun i h1 h2 => by
      funext k
      unfold zEv
      rw [if_neg (fun z => h1 z.1), if_neg (fun z => h1 z.1), zRq_n h1 h2]
    have e2 : ∀ i, i ≠ 1 → i ≠ 4 → i ≠ 5 → evE I y i = I i := fun i h1 h4 h5 => by
      unfold evE
      rw [zu_ne h1, zu_ne h1, zSq4 ⟨h4, h5⟩]
    refine Rel_hill R (fun i hi => by rw [e i (by omega) (by omega), e2 i (by omega) (by omega) (by omega)]) (fun i hi h69 => by rw [e i (by omega) (by omega), e2 i (by omega) (by omega) (by omega)]) ⟨rfl, rfl⟩ (fun _ _ => rfl) (Int.le_refl _) (RV0_TP R.2.1 ht ⟨rfl, rfl, rfl, rfl⟩ (by rw [e 59 (by omega) (by omega), e2 59 (by omega) (by omega) (by omega)]) (by rw [e 60 (by omega) (by omega), e2 60 (by omega) (by omega) (by omega)]) (by rw [e 61 (by omega) (by omega), e2 61 (by omega) (by omega) (by omega)]) rfl) ⟨⟨a1.1, a1.2.1, a1.2.2.1, rfl, rfl, a1.2.2.2.2.2⟩, fun k hk => ⟨(a2 k hk).1, (a2 k hk).2.1, rfl⟩, ⟨rfl, rfl⟩, by rw [e 59 (by omega) (by omega), e2 59 (by omega) (by omega) (by omega)]; exact a9⟩
/-! shelves -/
theorem Rel_shelf {A : Nat → Nat → Int} (R : Rel I J q) (h1 : ∀ i, (i < 19 ∨ i = 35) → A i = I i) (h2 : ∀ i, 58 ≤ i → i < 69 → i ≠ 64 → i ≠ 65 → A i = I i) (hJ : ∀ i, (i = 1 ∨ i = 6) → J2 i = J i) (hl : RLS A) (a8 : ∀ s, s < 8 → A (19 + 2 * s) 0 = A 64 s ∧ A (19 + 2 * s) 1 = A 65 s ∧ ∀ j, j < 40 → J2 (19 + 2 * s + 1) j = J2 66 (40 * s + j)) : Rel A J2 q := by
  obtain ⟨hq, r0, rl, rt, ri, rk, rg, rc, ra⟩ := R
  obtain ⟨a0, a1, a2, a4, a6, a7, -, a9⟩ := ra
  have e58 := h2 58 (by omega) (by omega) (by omega) (by omega)
  have e59 := h2 59 (by omega) (by omega) (by omega) (by omega)
  have e60 := h2 60 (by omega) (by omega) (by omega) (by omega)
  have e61 := h2 61 (by omega) (by omega) (by omega) (by omega)
  have e62 := h2 62 (by omega) (by omega) (by omega) (by omega)
  have e63 := h2 63 (by omega) (by omega) (by omega) (by omega)
  have e67 := h2 67 (by omega) (by omega) (by omega) (by omega)
  have e68 := h2 68 (by omega) (by omega) (by omega) (by omega)
  refine ⟨hq, RV0_cg ⟨by rw [e58]; exact ⟨rfl, rfl, rfl, rfl, rfl, rfl⟩, by rw [e59]; exact fun _ _ => rfl, by rw [e60, e61, e62]; exact fun _ _ => ⟨rfl, rfl, rfl⟩⟩ r0, hl, by unfold gTR; rw [e58, e63]; exact rt, by rw [e58]; exact ri, by unfold K68; rw [e68]; exact rk, ⟨by unfold gH; rw [h1 6 (by omega), h1 (6 + 1) (by omega), h1 (6 + 2) (by omega)]; exact rg.1, by unfold gS; rw [h1 9 (by omega), h1 (9 + 1) (by omega)]; exact rg.2⟩, fun z => ?_, ?_⟩
  · rw [e58] at z
    obtain ⟨K, k1, k2, k3⟩ := rc z
    refine ⟨K, k1, ?_, ?_⟩
    · unfold KA; rw [e68]; exact k2
    · unfold KB; rw [h1 6 (by omega), h1 7 (by omega), h1 8 (by omega), h1 9 (by omega), h1 10 (by omega), hJ 6 (by omega)]; exact k3
  · exact ⟨by rw [h1 0 (by omega), e58]; exact a0, by rw [h1 1 (by omega), e58]; exact a1, by rw [h1 2 (by omega), h1 3 (by omega), h1 5 (by omega), e60, e61, e62]; exact a2, by rw [h1 4 (by omega), e58]; exact a4, by rw [h1 11 (by omega), h1 12 (by omega), e58, e63]; exact a6, by rw [h1 35 (by omega), e67]; exact a7, a8, by rw [hJ 1 (by omega), e59]; exact a9⟩
theorem sh_of (R : Rel I J q) : ∀ s, s < 8 → I (19 + 2 * s) 0 = I 64 s ∧ I (19 + 2 * s) 1 = I 65 s ∧ ∀ j, j < 40 → J (19 + 2 * s + 1) j = J 66 (40 * s + j) := R.2.2.2.2.2.2.2.2.2.2.2.2.2.2.1
theorem zu_v {α : Type} (B : Nat → Nat → α) (i k x : Nat) (v : α) : zu B i k v i x = if x = k then v else B i x := by simp [zu]
theorem pr_row (R : Rel I J q) (C : CAN I J) {s so n : Int} (hs : -2147483648 ≤ s ∧ s ≤ 2147483647) (hso : -2147483648 ≤ so ∧ so ≤ 2147483647) (hn : -2147483648 ≤ n ∧ n ≤ 2147483647) : zPair g mX5_row 2 mX6_row 2 [.int (iI s), .int (iI so), .int (iI n)] (zst I J q) := by
  have c5 := c_X5_row (g := g) (J := J) (q := q) (gH1 R C) (gS4 R C) (gL1 R C) hs hso hn
  by_cases hz : fRow s so n = 0
  · have h3 : (0 ≤ s ∧ s < 8) ∧ (0 ≤ so ∧ so < 5) ∧ 0 ≤ n ∧ n ≤ 40 := by
      unfold fRow at hz
      split at hz
      · next z => exact z
      · cases hz
    obtain ⟨t, ht⟩ : ∃ t, t = s.toNat := ⟨_, rfl⟩
    have ht8 : t < 8 := by omega
    rw [← ht] at c5
    have hA : RF I (uI I (fRow s so n) (zu (zu I (19 + 2 * t) 0 so) (19 + 2 * t) 1 n)) := RF_u (RF_z (RF_z (RF_r I) (by omega)) (by omega))
    have c6 := c_X6_row (g := g) (J := uJ J (fRow s so n) (zfl J (19 + 2 * t + 1) 40 0)) (q := q) (rv R hA).1 (rv R hA).2.1 (rl R hA).1 hs hso hn
    rw [← ht] at c6
    refine pm0 c5 c6 ?_
    rw [uK0 hz, uI0 hz, show ∀ a b, uJ a (fRow s so n) b = b from fun a b => if_pos hz, show ∀ a b, uJ a (fRow s so n) b = b from fun a b => if_pos hz]
    have o := sh_of R
    have hrl := R.2.2.1
    refine Rel_shelf R (fun i hi => ?_) (fun i hi h69 h64 h65 => ?_) (fun i hi => ?_) ⟨fun k hk => ?_, fun k hk => ?_⟩ (fun x hx => ?_)
    · rw [zu_ne (by omega), zu_ne (by omega), zu_ne (by omega), zu_ne (by omega)]
    · rw [zu_ne (by omega), zu_ne (by omega), zu_ne (by omega), zu_ne (by omega)]
    · funext k
      unfold zfr zfl
      rw [if_neg (by omega), if_neg (by omega)]
    · rw [zu_ne (show (64 : Nat) ≠ 65 by omega), zu_v, zu_v, zu_ne (show (64 : Nat) ≠ 19 + 2 * t by omega), zu_ne (show (64 : Nat) ≠ 19 + 2 * t by omega), zu_ne (show (65 : Nat) ≠ 64 by omega), zu_ne (show (65 : Nat) ≠ 19 + 2 * t by omega), zu_ne (show (65 : Nat) ≠ 19 + 2 * t by omega)]
      have := hrl.1 k hk
      split <;> omega
    · rw [zu_ne (show (64 : Nat) ≠ 65 by omega), zu_v, zu_ne (show (64 : Nat) ≠ 19 + 2 * t by omega), zu_ne (show (64 : Nat) ≠ 19 + 2 * t by omega)]
      have h4 := hrl.2 k hk
      have h5 := R.2.1.1.2.2.2.1
      rw [zu_ne (show (58 : Nat) ≠ 65 by omega), zu_ne (show (58 : Nat) ≠ 64 by omega), zu_ne (show (58 : Nat) ≠ 19 + 2 * t by omega), zu_ne (show (58 : Nat) ≠ 19 + 2 * t by omega)]
      split <;> omega
    · obtain ⟨o1, o2, o3⟩ := o x hx
      refine ⟨?_, ?_, fun j hj => ?_⟩
      · rw [zu_ne (show 19 + 2 * x ≠ 65 by omega), zu_ne (show 19 + 2 * x ≠ 64 by omega), zu_ne (show (64 : Nat) ≠ 65 by omega), zu_v, zu_ne (show (64 : Nat) ≠ 19 + 2 * t by omega), zu_ne (show (64 : Nat) ≠ 19 + 2 * t by omega)]
        by_cases e : x = t
        · subst e
          rw [if_pos rfl, zu_n (by omega), zu_s]
        · rw [if_neg e, zu_ne (by omega), zu_ne (by omega)]
          exact o1
      · rw [zu_ne (show 19 + 2 * x ≠ 65 by omega), zu_ne (show 19 + 2 * x ≠ 64 by omega), zu_v, zu_ne (show (65 : Nat) ≠ 64 by omega), zu_ne (show (65 : Nat) ≠ 19 + 2 * t by omega), zu_ne (show (65 : Nat) ≠ 19 + 2 * t by omega)]
        by_cases e : x = t
        · subst e
          rw [if_pos rfl, zu_s]
        · rw [if_neg e, zu_ne (by omega), zu_ne (by omega)]
          exact o2
      · unfold zfr zfl
        by_cases e : x = t
        · subst e
          rw [if_neg (by omega), if_pos (by omega), if_pos (by omega)]
        · rw [if_neg (by omega), if_neg (by omega), if_neg (by omega), if_neg (by omega)]
          exact o3 j hj
  · refine pq (f := fRow s so n) (a := .int (iI (uR (fRow s so n) 1))) R c5 (fun r σ' h => ?_) (fun A q1 hA => ⟨_, c_X6_row (rv R hA).1 (rv R hA).2.1 (rl R hA).1 hs hso hn, fun r2 σ2 h => ?_⟩)
    · obtain ⟨rfl, rfl⟩ := h
      refine ⟨rfl, _, q, R.1, Q5_u (f := fRow s so n) frS_rf frS_rf, ?_⟩
      rw [show ∀ b, uJ J (fRow s so n) b = J from fun b => if_neg hz]
      unfold uI
      rw [if_neg hz, if_neg hz]
    · obtain ⟨rfl, rfl⟩ := h
      refine ⟨rfl, _, Q6_u (f := fRow s so n) (by unfold hF fRow; (repeat' split) <;> omega) frR_rf frR_rf, ?_⟩
      rw [show ∀ b, uJ J (fRow s so n) b = J from fun b => if_neg hz]
      unfold uK
      rw [if_neg hz, if_neg hz]
theorem set_C (C : CAN I J) {s i : Int} : fSet I s i = fSet (VI I) s i := by
  unfold fSet
  rw [frow_C C]
  by_cases hs : 0 ≤ s ∧ s < 8
  · rw [(ksh C hs).1]
  · have h : ¬ frowN (VI I) s 0 40 = 0 := by unfold frowN; rw [if_pos (.inl hs)]; decide
    rw [if_pos h, if_pos h]
theorem hF_set {s i : Int} : hF (fSet I s i) := by
  unfold fSet
  split
  · exact hF_frow
  · split
    · exact .inl rfl
    · exact .inr (by decide)
theorem pr_set (R : Rel I J q) (C : CAN I J) {s i : Int} {v : Int64} (hs : -2147483648 ≤ s ∧ s ≤ 2147483647) (hi : -2147483648 ≤ i ∧ i ≤ 2147483647) : zPair g mX5_set 2 mX6_set 2 [.int (iI s), .int (iI i), .long v] (zst I J q) := by
  have c5 := c_X5_set (g := g) (J := J) (q := q) (v := v) (gH1 R C) (gS4 R C) (gL1 R C) hs hi
  rw [set_C C] at c5
  by_cases hz : fSet (VI I) s i = 0
  · have h3 : (0 ≤ s ∧ s < 8) ∧ 0 ≤ i ∧ i < VI I (19 + 2 * s.toNat) 1 := by
      unfold fSet at hz
      split at hz
      · next z => exact absurd hz z
      · next z =>
        split at hz
        · next z2 => exact ⟨(row_ok (Classical.not_not.mp z)).1, z2⟩
        · cases hz
    obtain ⟨t, ht⟩ : ∃ t, t = s.toNat := ⟨_, rfl⟩
    obtain ⟨u, hu⟩ : ∃ u, u = i.toNat := ⟨_, rfl⟩
    have ht8 : t < 8 := by omega
    have hrl := R.2.2.1
    have hsz : u < 40 := by
      have h4 := h3.2.2
      rw [← ht, VI_s1 ht8] at h4
      have := (hrl.1 t ht8).2.1
      omega
    rw [← ht, ← hu] at c5
    have o := sh_of R
    have hA : RF I (uI I (fSet (VI I) s i) I) := RF_u (RF_r I)
    have c6 := c_X6_set (g := g) (J := uJ J (fSet (VI I) s i) (zu J (19 + 2 * t + 1) u (cutN (I (19 + 2 * t) 0) v))) (q := q) (v := v) (rv R hA).1 (rv R hA).2.1 (rl R hA).1 hs hi
    rw [VI_fr hA, hA 64 (by omega), ← ht, ← hu] at c6
    refine pm0 c5 c6 ?_
    rw [uK0 hz, uI0 hz, show ∀ a b, uJ a (fSet (VI I) s i) b = b from fun a b => if_pos hz, show ∀ a b, uJ a (fSet (VI I) s i) b = b from fun a b => if_pos hz]
    refine Rel_shelf R (fun _ _ => rfl) (fun _ _ _ _ _ => rfl) (fun k hk => ?_) hrl (fun x hx => ?_)
    · rw [zu_ne (by omega), zu_ne (by omega)]
    · obtain ⟨o1, o2, o3⟩ := o x hx
      refine ⟨o1, o2, fun j hj => ?_⟩
      rw [zu_ne (show 19 + 2 * x + 1 ≠ 66 by omega), (o t ht8).1]
      by_cases e : x = t ∧ j = u
      · obtain ⟨e1, e2⟩ := e
        subst e1
        subst e2
        rw [zu_s, zu_s]
      · rw [zu_n (by omega), zu_n (by omega), zu_ne (show (66 : Nat) ≠ 19 + 2 * t + 1 by omega)]
        exact o3 j hj
  · refine pq (f := fSet (VI I) s i) (a := .int (iI (uR (fSet (VI I) s i) 1))) R c5 (fun r σ' h => ?_) (fun A q1 hA => ⟨_, c_X6_set (rv R hA).1 (rv R hA).2.1 (rl R hA).1 hs hi, fun r2 σ2 h => ?_⟩)
    · obtain ⟨rfl, rfl⟩ := h
      refine ⟨rfl, _, q, R.1, Q5_u (f := fSet (VI I) s i) frS_rf frS_rf, ?_⟩
      rw [show ∀ b, uJ J (fSet (VI I) s i) b = J from fun b => if_neg hz]
    · obtain ⟨rfl, rfl⟩ := h
      rw [VI_fr hA]
      refine ⟨rfl, _, Q6_u (f := fSet (VI I) s i) hF_set frR_rf frR_rf, ?_⟩
      rw [show ∀ b, uJ J (fSet (VI I) s i) b = J from fun b => if_neg hz]
theorem copy_C (C : CAN I J) {p r i j k : Int} : fCopy I p r i j k = fCopy (VI I) p r i j k := by
  unfold fCopy
  by_cases hs : (0 ≤ p ∧ p < 8) ∧ (0 ≤ r ∧ r < 8)
  · rw [(ksh C hs.1).1, (ksh C hs.2).1]
  · rw [if_pos hs, if_pos hs]
theorem hF_copy {p r i j k : Int} : hF (fCopy I p r i j k) := by
  unfold hF fCopy
  (repeat' split) <;> omega
theorem pr_copy (R : Rel I J q) (C : CAN I J) {p r i j k : Int} (hp : -2147483648 ≤ p ∧ p ≤ 2147483647) (hr : -2147483648 ≤ r ∧ r ≤ 2147483647) (hi : -2147483648 ≤ i ∧ i ≤ 2147483647) (hj : -2147483648 ≤ j ∧ j ≤ 2147483647) (hk : -2147483648 ≤ k ∧ k ≤ 2147483647) : zPair g mX5_copy 3 mX6_copy 3 [.int (iI p), .int (iI r), .int (iI i), .int (iI j), .int (iI k)] (zst I J q) := by
  have c5 := c_X5_copy (g := g) (J := J) (q := q) (gH1 R C) (gS4 R C) (gL1 R C) hp hr hi hj hk
  rw [copy_C C] at c5
  by_cases hz : fCopy (VI I) p r i j k = 0
  · have h3 : ((0 ≤ p ∧ p < 8) ∧ (0 ≤ r ∧ r < 8)) ∧ (((0 ≤ k ∧ k ≤ VI I (19 + 2 * p.toNat) 1) ∧ 0 ≤ i ∧ i ≤ VI I (19 + 2 * p.toNat) 1 - k) ∧ ((0 ≤ k ∧ k ≤ VI I (19 + 2 * r.toNat) 1) ∧ 0 ≤ j ∧ j ≤ VI I (19 + 2 * r.toNat) 1 - k)) := by
      unfold fCopy at hz
      split at hz
      · cases hz
      · next z1 =>
        split at hz
        · cases hz
        · split at hz
          · cases hz
          · split at hz
            · cases hz
            · next z4 => exact ⟨Classical.not_not.mp z1, Classical.not_not.mp z4⟩
    obtain ⟨P, hP⟩ : ∃ t, t = p.toNat := ⟨_, rfl⟩
    obtain ⟨Q, hQ⟩ : ∃ t, t = r.toNat := ⟨_, rfl⟩
    obtain ⟨a, ha⟩ : ∃ t, t = i.toNat := ⟨_, rfl⟩
    obtain ⟨b, hb⟩ : ∃ t, t = j.toNat := ⟨_, rfl⟩
    obtain ⟨n, hn⟩ : ∃ t, t = k.toNat := ⟨_, rfl⟩
    have hP8 : P < 8 := by omega
    have hQ8 : Q < 8 := by omega
    have hrl := R.2.2.1
    have hsz : a + n ≤ 40 ∧ b + n ≤ 40 := by
      have h4 := h3.2
      rw [← hP, ← hQ, VI_s1 hP8, VI_s1 hQ8] at h4
      have := (hrl.1 P hP8).2.1
      have := (hrl.1 Q hQ8).2.1
      omega
    rw [← hP, ← hQ, ← ha, ← hb, ← hn] at c5
    have o := sh_of R
    have hA : RF I (uI I (fCopy (VI I) p r i j k) I) := RF_u (RF_r I)
    have c6 := c_X6_copy (g := g) (J := uJ J (fCopy (VI I) p r i j k) (zcp J (19 + 2 * P + 1) (19 + 2 * Q + 1) a b n)) (q := q) (rv R hA).1 (rv R hA).2.1 (rl R hA).1 hp hr hi hj hk
    rw [VI_fr hA, ← hP, ← hQ, ← ha, ← hb, ← hn] at c6
    refine pm0 c5 c6 ?_
    rw [uK0 hz, uI0 hz, show ∀ a b, uJ a (fCopy (VI I) p r i j k) b = b from fun a b => if_pos hz, show ∀ a b, uJ a (fCopy (VI I) p r i j k) b = b from fun a b => if_pos hz]
    refine Rel_shelf R (fun _ _ => rfl) (fun _ _ _ _ _ => rfl) (fun x hx => ?_) hrl (fun x hx => ?_)
    · funext y
      unfold cpR zcp
      rw [if_neg (by omega), if_neg (by omega)]
    · obtain ⟨o1, o2, o3⟩ := o x hx
      refine ⟨o1, o2, fun y hy => ?_⟩
      unfold cpR zcp va_cpy
      rw [if_neg (show ¬ (19 + 2 * x + 1 = 66 ∧ 40 * Q + b ≤ y ∧ y < 40 * Q + b + n) by omega), if_neg (show ¬ (66 = 19 + 2 * Q + 1) by omega)]
      by_cases e : x = Q
      · subst e
        rw [if_pos rfl]
        by_cases e2 : b ≤ y ∧ y < b + n
        · rw [if_pos e2, if_pos (by omega), (o P hP8).2.2 _ (by omega), show 40 * P + a + (40 * x + y - (40 * x + b)) = 40 * P + (a + (y - b)) by omega]
        · rw [if_neg e2, if_neg (by omega)]
          exact (o3 y hy).trans (if_neg (by omega)).symm
      · rw [if_neg (by omega), if_neg (by omega)]
        exact (o3 y hy).trans (if_neg (by omega)).symm
  · refine pq (f := fCopy (VI I) p r i j k) (a := .int (iI (uR (fCopy (VI I) p r i j k) k))) R c5 (fun r' σ' h => ?_) (fun A q1 hA => ⟨_, c_X6_copy (rv R hA).1 (rv R hA).2.1 (rl R hA).1 hp hr hi hj hk, fun r2 σ2 h => ?_⟩)
    · obtain ⟨rfl, rfl⟩ := h
      refine ⟨rfl, _, q, R.1, Q5_u (f := fCopy (VI I) p r i j k) frS_rf frS_rf, ?_⟩
      rw [show ∀ b, uJ J (fCopy (VI I) p r i j k) b = J from fun b => if_neg hz]
    · obtain ⟨rfl, rfl⟩ := h
      rw [VI_fr hA]
      refine ⟨rfl, _, Q6_u (f := fCopy (VI I) p r i j k) hF_copy frR_rf frR_rf, ?_⟩
      rw [show ∀ b, uJ J (fCopy (VI I) p r i j k) b = J from fun b => if_neg hz]
theorem show_C (C : CAN I J) {s e : Int} : fShow I s e = fShow (VI I) s e := by unfold fShow; rw [k1 C]
theorem pr_show (R : Rel I J q) (C : CAN I J) {s e : Int} (hs : -2147483648 ≤ s ∧ s ≤ 2147483647) (he : -2147483648 ≤ e ∧ e ≤ 2147483647) : zPair g mX5_show 1 mX6_show 2 [.int (iI s), .int (iI e)] (zst I J q) := by
  have c5 := c_X5_show (g := g) (J := J) (q := q) (gH1 R C) (gS4 R C) (gL1 R C) hs he
  rw [show_C C] at c5
  obtain ⟨v, hv⟩ : ∃ v : Int, v = if e = -1 then -1 else 10 + e := ⟨_, rfl⟩
  rw [← hv] at c5
  by_cases hz : fShow (VI I) s e = 0
  · have h3 : (0 ≤ s ∧ s < 8) ∧ (e = -1 ∨ (0 ≤ e ∧ e < I 58 5)) := by
      unfold fShow at hz
      split at hz
      · next z => exact z
      · cases hz
    obtain ⟨t, ht⟩ : ∃ t, t = s.toNat := ⟨_, rfl⟩
    have ht8 : t < 8 := by omega
    have hrl := R.2.2.1
    have hn := R.2.1.1.2.2.2.1
    have hvr : v = -1 ∨ (10 ≤ v ∧ v < 10 + I 58 5) := by rw [hv]; split <;> omega
    rw [← ht] at c5
    have o := sh_of R
    have hA : RF I (uI I (fShow (VI I) s e) (zu I (19 + 2 * t) 0 v)) := RF_u (RF_z (RF_r I) (by omega))
    have c6 := c_X6_show (g := g) (J := J) (q := q) (rv R hA).1 (rv R hA).2.1 (rl R hA).1 hs he
    rw [VI_fr hA, ← ht, ← hv] at c6
    refine pm0 c5 c6 ?_
    rw [uK0 hz, uI0 hz]
    refine Rel_shelf R (fun i hi => ?_) (fun i hi h69 h64 h65 => ?_) (fun _ _ => rfl) ⟨fun x hx => ?_, fun x hx => ?_⟩ (fun x hx => ?_)
    · rw [zu_ne (by omega), zu_ne (by omega)]
    · rw [zu_ne (by omega), zu_ne (by omega)]
    · rw [zu_v, zu_ne (show (64 : Nat) ≠ 19 + 2 * t by omega), zu_ne (show (65 : Nat) ≠ 64 by omega), zu_ne (show (65 : Nat) ≠ 19 + 2 * t by omega)]
      have := hrl.1 x hx
      split <;> omega
    · rw [zu_v, zu_ne (show (64 : Nat) ≠ 19 + 2 * t by omega)]
      have h4 := hrl.2 x hx
      rw [zu_ne (show (58 : Nat) ≠ 64 by omega), zu_ne (show (58 : Nat) ≠ 19 + 2 * t by omega)]
      split <;> omega
    · obtain ⟨o1, o2, o3⟩ := o x hx
      refine ⟨?_, ?_, o3⟩
      · rw [zu_ne (show 19 + 2 * x ≠ 64 by omega), zu_v, zu_ne (show (64 : Nat) ≠ 19 + 2 * t by omega)]
        by_cases e : x = t
        · subst e
          rw [if_pos rfl, zu_s]
        · rw [if_neg e, zu_ne (by omega)]
          exact o1
      · rw [zu_ne (show 19 + 2 * x ≠ 64 by omega), zu_ne (show (65 : Nat) ≠ 64 by omega), zu_ne (show (65 : Nat) ≠ 19 + 2 * t by omega), zu_n (by omega)]
        exact o2
  · refine pq (f := fShow (VI I) s e) (a := .int (iI (uR (fShow (VI I) s e) 1))) R c5 (fun r σ' h => ?_) (fun A q1 hA => ⟨_, c_X6_show (rv R hA).1 (rv R hA).2.1 (rl R hA).1 hs he, fun r2 σ2 h => ?_⟩)
    · obtain ⟨rfl, rfl⟩ := h
      refine ⟨rfl, _, q, R.1, Q5_u (f := fShow (VI I) s e) frS_rf frS_rf, ?_⟩
      unfold uI
      rw [if_neg hz, if_neg hz]
    · obtain ⟨rfl, rfl⟩ := h
      rw [VI_fr hA]
      refine ⟨rfl, _, Q6_u (f := fShow (VI I) s e) (by unfold hF fShow; (repeat' split) <;> omega) frR_rf frR_rf, ?_⟩
      unfold uK
      rw [if_neg hz, if_neg hz]
end MV
