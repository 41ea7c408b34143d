/-! pairs of calls that change the hill -/
theorem swQ_q {q : Nat × Nat} (h : isQ q) : ∀ k, isQ (swQ q k)
  | 0 => h
  | k + 1 => by
    have h1 := swQ_q h k
    unfold isQ at h1 ⊢
    simp only [swQ]
    rcases h1 with e | e <;> rw [e]
    · exact .inr rfl
    · exact .inl rfl
theorem frS_R2 {q : Nat × Nat} (h : isQ q) {I : Nat → Nat → Int} {A B : Nat → Int} : frS I (zR2 I q.1 q.2 A B) := fun i hi => by
  funext k
  unfold zR2
  rcases h with e | e <;> rw [e] <;> rw [if_neg (by show ¬ i = _; omega), if_neg (by show ¬ i = _; omega)]
theorem zu_up {f : Nat → Nat → Int} {i k : Nat} {v : Int} : zu f i k v i = up1 (f i) k v := by
  funext j
  simp [zu, up1]
theorem RF_z {I A : Nat → Nat → Int} (h : RF I A) {i k : Nat} {v : Int} (hi : i < 58) : RF I (zu A i k v) := fun j hj => (zu_ne (by omega)).trans (h j hj)
theorem RF_r (I : Nat → Nat → Int) : RF I I := fun _ _ => rfl
theorem RF_u {I ok : Nat → Nat → Int} {f : Int} (h : RF I ok) : RF I (uI I f ok) := by
  unfold uI
  split
  · exact h
  · exact RF_z (RF_r I) (by omega)
theorem RF_q {I : Nat → Nat → Int} {p : SP} : RF I (zSq I 4 p) := fun j hj => by
  funext k
  simp only [zSq, zSp]
  rw [if_neg (by omega), if_neg (by omega)]
section MU
variable {g : zG} {I : Nat → Nat → Int} {J J1 J2 : Nat → Nat → Int64} {q : Nat × Nat}
theorem pr_ways (R : Rel I J q) (C : CAN I J) {m : Int} (hm : -2147483648 ≤ m ∧ m ≤ 2147483647) : zPair g mX5_ways 6 mX6_ways 11 [.int (iI m)] (zst I J q) := by
  refine pq (f := fWays m) (a := (.int (iI (uR (fWays m) (sgP (I 58 0) (maskW (I 59)) (I 58 2) m.toNat (I 58 3).toNat))))) R (c_X5_ways R.1 (gH1 R C) (gS4 R C) (gL1 R C) hm) (fun r σ' h => ?_) (fun A q1 hA => ⟨_, c_X6_ways (rv R hA).1 (rv R hA).2.1 (rl R hA).1 (rv R hA).2.2.1 hm, fun r2 σ2 h => ?_⟩)
  · obtain ⟨rfl, rfl⟩ := h
    refine ⟨by rw [ways_C C R.2.1.2.1], ?_⟩
    by_cases hz : fWays m = 0
    · rw [if_pos hz, hz]
      exact ⟨_, _, swQ_q R.1 m.toNat, Q5_0 (frS_R2 (swQ_q R.1 m.toNat)), rfl⟩
    · have h2 : fWays m = -2 := by
        unfold fWays at hz ⊢
        split
        · next z => exact absurd (if_pos z) hz
        · rfl
      have h3 := Q5_u (f := fWays m) (frS_rf (I := I)) (frS_rf (I := I))
      unfold uI at h3
      rw [if_neg hz, h2] at h3
      rw [if_neg hz, h2]
      exact ⟨_, _, R.1, h3, rfl⟩
  · obtain ⟨rfl, rfl⟩ := h
    refine ⟨by rw [hA 59 (by omega), hA 58 (by omega)], _, Q6_u (by unfold hF fWays; (repeat' split) <;> omega) frR_rf frR_rf, rfl⟩
theorem Rel_uk {okA okB : Nat → Nat → Int} {f : Int} (R : Rel I J q) (hf : hF f) (h0 : f = 0 → Rel okB J2 q) (h1 : f ≠ 0 → J2 = J) : Rel (uK (uI I f okA) f okB) J2 q := by
  by_cases hz : f = 0
  · rw [uK0 hz]; exact h0 hz
  · rw [h1 hz]
    have e1 : uI I f okA = uI I f I := by unfold uI; rw [if_neg hz, if_neg hz]
    have e2 : uK (uI I f okA) f okB = uK (uI I f I) f (uI I f I) := by rw [e1]; unfold uK; rw [if_neg hz, if_neg hz]
    rw [e2]
    exact Rel_Q R R.1 (Q5_u frS_rf frS_rf) (Q6_u hf frR_rf frR_rf)
theorem pm {M5 M6 : zM} {d5 d6 : Nat} {as : List Value} {f : Int} {a : Value} {okA okB : Nat → Nat → Int} (R : Rel I J q) (hf : hF f) (hRF : RF I okA) (h5 : zRun g M5 d5 (.ref 0 :: as) (zst I J q) (some a) (zst (uI I f okA) J1 q)) (h6 : RF I (uI I f okA) → zRun g M6 d6 (.ref 58 :: as) (zst (uI I f okA) J1 q) (some a) (zst (uK (uI I f okA) f okB) J2 q)) (h0 : f = 0 → uI I f okA = okA → Rel okB J2 q) (h1 : f ≠ 0 → J2 = J) (hv : vK M5.2.2.2 a := by exact Exists.intro _ rfl) : zPair g M5 d5 M6 d6 as (zst I J q) := by
  refine ⟨a, _, hv, h5, fun r σ' h => ?_⟩
  obtain ⟨rfl, rfl⟩ := h
  refine ⟨rfl, rfl, _, h6 (RF_u hRF), fun r2 σ2 h => ?_⟩
  obtain ⟨rfl, rfl⟩ := h
  exact ⟨rfl, _, J2, q, Rel_uk R hf (fun z => h0 z (uI0 z)) h1, rfl⟩
theorem pm0 {M5 M6 : zM} {d5 d6 : Nat} {as : List Value} {a : Value} {okA okB : Nat → Nat → Int} (h5 : zRun g M5 d5 (.ref 0 :: as) (zst I J q) (some a) (zst okA J1 q)) (h6 : zRun g M6 d6 (.ref 58 :: as) (zst okA J1 q) (some a) (zst okB J2 q)) (h0 : Rel okB J2 q) (hv : vK M5.2.2.2 a := by exact Exists.intro _ rfl) : zPair g M5 d5 M6 d6 as (zst I J q) := by
  refine ⟨a, _, hv, h5, fun r σ' h => ?_⟩
  obtain ⟨rfl, rfl⟩ := h
  refine ⟨rfl, rfl, _, h6, fun r2 σ2 h => ?_⟩
  obtain ⟨rfl, rfl⟩ := h
  exact ⟨rfl, _, J2, q, h0, rfl⟩
theorem Rel_hill {A : Nat → Nat → Int} (R : Rel I J q) (h1 : ∀ i, (i = 0 ∨ (5 < i ∧ i < 36)) → A i = I i) (h2 : ∀ i, 62 < i → i < 69 → A i = I i) (h3 : A 58 12 = I 58 12 ∧ A 58 22 = I 58 22) (hJ : ∀ i, i ≠ 1 → J2 i = J i) (hn : I 58 5 ≤ A 58 5) (r0 : RV0 A) (ag : (A 1 0 = A 58 0 ∧ A 1 1 = A 58 2 ∧ A 1 2 = A 58 9 ∧ A 1 3 = A 58 10 ∧ A 1 4 = A 58 11 ∧ A 1 6 = A 58 5) ∧ (∀ e, e < 5 → A 2 e = A 60 e ∧ A 3 e = A 61 e ∧ A 5 e = A 62 e) ∧ (A 4 0 = A 58 3 ∧ A 4 1 = A 58 4) ∧ J2 1 5 = maskW (A 59)) : Rel A J2 q := by
  obtain ⟨hq, -, rl, rt, ri, rk, rg, rc, ra⟩ := R
  obtain ⟨a0, -, -, -, a6, a7, a8, -⟩ := ra
  refine ⟨hq, r0, ⟨by unfold gRL; rw [h2 64 (by omega) (by omega), h2 65 (by omega) (by omega)]; exact rl.1, fun k hk => ?_⟩, by unfold gTR; rw [h2 63 (by omega) (by omega), h3.1]; exact rt, by rw [h3.2]; exact ri, by unfold K68; rw [h2 68 (by omega) (by omega)]; exact rk, ⟨by unfold gH; rw [h1 6 (by omega), h1 (6 + 1) (by omega), h1 (6 + 2) (by omega)]; exact rg.1, by unfold gS; rw [h1 9 (by omega), h1 (9 + 1) (by omega)]; exact rg.2⟩, fun z => ?_, ?_⟩
  · rw [h2 64 (by omega) (by omega)]
    have := rl.2 k hk
    omega
  · rw [h3.2] at z
    obtain ⟨K, k1, k2, k3⟩ := rc z
    refine ⟨K, k1, ?_, ?_⟩
    · unfold KA; rw [h2 68 (by omega) (by omega)]; exact k2
    · unfold KB; rw [h1 6 (by omega), h1 7 (by omega), h1 8 (by omega), h1 9 (by omega), h1 10 (by omega), hJ 6 (by omega)]; exact k3
  · refine ⟨by rw [h1 0 (by omega), h3.2]; exact a0, ag.1, ag.2.1, ag.2.2.1, by rw [h1 11 (by omega), h1 12 (by omega), h3.1, h2 63 (by omega) (by omega)]; exact a6, by rw [h1 35 (by omega), h2 67 (by omega) (by omega)]; exact a7, fun s hs => ?_, ag.2.2.2⟩
    rw [h1 (19 + 2 * s) (by omega), h2 64 (by omega) (by omega), h2 65 (by omega) (by omega), hJ _ (by omega), hJ 66 (by omega)]
    exact a8 s hs
theorem ag_of (R : Rel I J q) : (I 1 0 = I 58 0 ∧ I 1 1 = I 58 2 ∧ I 1 2 = I 58 9 ∧ I 1 3 = I 58 10 ∧ I 1 4 = I 58 11 ∧ I 1 6 = I 58 5) ∧ (∀ e, e < 5 → I 2 e = I 60 e ∧ I 3 e = I 61 e ∧ I 5 e = I 62 e) ∧ (I 4 0 = I 58 3 ∧ I 4 1 = I 58 4) ∧ J 1 5 = maskW (I 59) := by
  obtain ⟨-, -, -, -, -, -, -, -, a0, a1, a2, a4, a6, a7, a8, a9⟩ := R
  exact ⟨a1, a2, a4, a9⟩
theorem open_up {n m : Int} {w : Int64} {c : Int} (h : n ≤ m) (ho : openN n w c = true) : openN m w c = true := by
  unfold openN at ho ⊢
  rw [Bool.and_eq_true] at ho ⊢
  exact ⟨isCell_up h ho.1, ho.2⟩
theorem side_C (C : CAN I J) {n : Int} : fSide I n = fSide (VI I) n := by unfold fSide; rw [k1 C]
theorem pr_side (R : Rel I J q) (C : CAN I J) {n : Int} (hn : -2147483648 ≤ n ∧ n ≤ 2147483647) : zPair g mX5_side 1 mX6_side 1 [.int (iI n)] (zst I J q) := by
  have c5 := c_X5_side (g := g) (J := J) (q := q) (gH1 R C) (gS4 R C) (gL1 R C) hn
  rw [side_C C, k1 C] at c5
  refine pm R (f := fSide (VI I) n) (by unfold hF fSide; (repeat' split) <;> omega) (RF_z (RF_r I) (by omega)) c5 (okB := zu (uI I (fSide (VI I) n) (zu I 1 0 n)) 58 0 n) (J2 := J) (fun hA => ?_) (fun hz hu => ?_) (fun _ => rfl)
  · have c6 := c_X6_side (g := g) (J := J) (q := q) (rv R hA).1 (rv R hA).2.1 (rl R hA).1 hn
    rw [VI_fr hA, hA 58 (by omega)] at c6
    exact c6
  · rw [hu]
    have h3 : 3 ≤ n ∧ I 58 0 ≤ n ∧ n ≤ 7 := by
      unfold fSide at hz
      split at hz
      · cases hz
      · next z =>
        have z : ¬ (n < 3 ∨ n < I 58 0 ∨ 7 < n) := z
        omega
    obtain ⟨a1, a2, a4, a9⟩ := ag_of R
    obtain ⟨r1, r2, r3, r4, r5⟩ := R.2.1
    refine Rel_hill R (fun i hi => (zu_ne (by omega)).trans (zu_ne (by omega))) (fun i hi h69 => (zu_ne (by omega)).trans (zu_ne (by omega))) ⟨rfl, rfl⟩ (fun _ _ => rfl) (Int.le_refl _) ⟨⟨⟨h3.1, h3.2.2⟩, r1.2⟩, r2, open_up h3.2.1 r3, ⟨fun c hc h => isCell_up h3.2.1 (r4.1 c hc h), fun e he => isCell_up h3.2.1 (r4.2 e he)⟩, r5⟩ ⟨⟨rfl, a1.2⟩, a2, a4, a9⟩
theorem wall_C (C : CAN I J) {c : Int} {b : Bool} : fWall I c b = fWall (VI I) c b := by
  unfold fWall mayWN
  rw [k1 C, show (1 : Nat) + 3 = 4 from rfl, show (4 : Nat) + 1 = 5 from rfl, k4 C, k5 C]
  rfl
theorem pr_wall (R : Rel I J q) (C : CAN I J) {c : Int} {b : Bool} (hc : -2147483648 ≤ c ∧ c ≤ 2147483647) : zPair g mX5_wall 3 mX6_wall 2 [.int (iI c), .int (iI (bI b))] (zst I J q) := by
  have c5 := c_X5_wall (g := g) (J := J) (q := q) (b := b) (gH1 R C) (gS4 R C) (gL1 R C) hc
  rw [wall_C C, kj C] at c5
  refine pm R (f := fWall (VI I) c b) (by unfold hF fWall; (repeat' split) <;> omega) (RF_r I) c5 (okB := zu (uI I (fWall (VI I) c b) I) 59 c.toNat (bI b)) (J2 := uJ J (fWall (VI I) c b) (zu J 1 5 (if b then VJ I J 1 5 ||| bitL c else VJ I J 1 5 &&& (bitL c ^^^ (-1))))) (fun hA => ?_) (fun hz hu => ?_) (fun z => if_neg z)
  · have c6 := c_X6_wall (g := g) (J := uJ J (fWall (VI I) c b) (zu J 1 5 (if b then VJ I J 1 5 ||| bitL c else VJ I J 1 5 &&& (bitL c ^^^ (-1))))) (q := q) (b := b) (rv R hA).1 (rv R hA).2.1 (rl R hA).1 hc
    rw [VI_fr hA, hA 59 (by omega)] at c6
    exact c6
  · rw [hu, show uJ J (fWall (VI I) c b) (zu J 1 5 (if b then VJ I J 1 5 ||| bitL c else VJ I J 1 5 &&& (bitL c ^^^ (-1)))) = zu J 1 5 (if b then VJ I J 1 5 ||| bitL c else VJ I J 1 5 &&& (bitL c ^^^ (-1))) from if_pos hz]
    have h3 : isCellN (I 58 0) c = true ∧ (b = true → c ≠ I 58 3) := by
      unfold fWall at hz
      split at hz
      · cases hz
      · next z1 =>
        split at hz
        · cases hz
        · next z2 =>
          refine ⟨?_, fun hb hd => ?_⟩
          · cases hq : isCellN (I 58 0) c with
            | true => rfl
            | false => exact absurd hq z1
          · refine z2 ⟨hb, ?_⟩
            show (isCellN (I 58 0) c && (!decide (c = I 58 2) && (!decide (c = I 58 3) && !eweAtN (I 62) c (I 58 5).toNat))) = false
            rw [decide_eq_true hd]
            simp
    have h7 : gC7 c := gC7_of R.2.1.1.1.2 h3.1
    obtain ⟨a1, a2, a4, a9⟩ := ag_of R
    obtain ⟨r1, r2, r3, r4, r5⟩ := R.2.1
    have hc0 : (c.toNat : Int) = c := by have := h7.1; omega
    have hcl : c.toNat < 67 ∧ c.toNat % 10 < 7 := by unfold gC7 at h7; omega
    have hw : zu I 59 c.toNat (bI b) 59 = up1 (I 59) c.toNat (bI b) := zu_up
    have hm : maskW (up1 (I 59) c.toNat (bI b)) = if b then maskW (I 59) ||| bitL c else maskW (I 59) &&& (bitL c ^^^ (-1)) := by
      cases b with
      | true => rw [if_pos rfl, ← hc0]; exact maskW_set hcl.1 hcl.2
      | false => rw [if_neg (by decide), ← hc0]; exact maskW_clr (by decide) hcl.1 hcl.2
    have hup : ∀ x, up1 (I 59) c.toNat (bI b) x = if x = c.toNat then bI b else I 59 x := fun x => rfl
    refine Rel_hill R (fun i hi => zu_ne (by omega)) (fun i hi h69 => zu_ne (by omega)) ⟨rfl, rfl⟩ (fun i hi => zu_ne hi) (Int.le_refl _) ⟨⟨r1.1, r1.2.1, r1.2.2.1, r1.2.2.2.1, r1.2.2.2.2.1, r1.2.2.2.2.2.1, fun x hx => ?_⟩, r2, ?_, ⟨fun x hx h => ?_, r4.2⟩, fun x hx h => ?_⟩ ⟨a1, a2, a4, ?_⟩
    · rw [hw, hup]
      split
      · rcases bI_01 b with e | e
        · exact .inl e
        · exact .inr e
      · exact r1.2.2.2.2.2.2 x hx
    · rw [hw, hm]
      show openN (I 58 0) _ (I 58 3) = true
      have hd : gC7 (I 58 3) := r2.1
      unfold openN at r3 ⊢
      rw [Bool.and_eq_true] at r3 ⊢
      refine ⟨r3.1, ?_⟩
      have r3b : wallL (maskW (I 59)) (I 58 3) = false := by
        have := r3.2
        cases hq : wallL (maskW (I 59)) (I 58 3) with
        | false => rfl
        | true => rw [hq] at this; cases this
      cases b with
      | true =>
        rw [if_pos rfl, or_wall h7 hd, r3b, decide_eq_false (h3.2 rfl)]
        rfl
      | false =>
        rw [if_neg (by decide), clr_wall hd r3b]
        rfl
    · rw [hw, hup] at h
      split at h
      · next e => rw [e, hc0]; exact h3.1
      · exact r4.1 x hx h
    · rw [hw, hup]
      rw [if_neg (by omega)]
      exact r5 x hx h
    · rw [hw, hm]
      exact zu_s
theorem pr_wind (R : Rel I J q) (C : CAN I J) {v : Int} (hv : -2147483648 ≤ v ∧ v ≤ 2147483647) : zPair g mX5_wind 1 mX6_wind 1 [.int (iI v)] (zst I J q) := by
  have c5 := c_X5_wind (g := g) (J := J) (q := q) (gH1 R C) (gS4 R C) (gL1 R C) hv
  rw [k1 C] at c5
  refine pm R (f := fWind v) (by unfold hF fWind; (repeat' split) <;> omega) (RF_z (RF_r I) (by omega)) c5 (okB := zu (uI I (fWind v) (zu I 1 2 v)) 58 9 v) (J2 := J) (fun hA => ?_) (fun hz hu => ?_) (fun _ => rfl)
  · have c6 := c_X6_wind (g := g) (J := J) (q := q) (rv R hA).1 (rv R hA).2.1 (rl R hA).1 hv
    rw [hA 58 (by omega)] at c6
    exact c6
  · rw [hu]
    have h3 : 0 ≤ v ∧ v ≤ 12 := by
      unfold fWind at hz
      split at hz
      · next z => exact z
      · cases hz
    obtain ⟨a1, a2, a4, a9⟩ := ag_of R
    obtain ⟨r1, r2, r3, r4, r5⟩ := R.2.1
    exact Rel_hill R (fun i hi => (zu_ne (by omega)).trans (zu_ne (by omega))) (fun i hi h69 => (zu_ne (by omega)).trans (zu_ne (by omega))) ⟨rfl, rfl⟩ (fun _ _ => rfl) (Int.le_refl _) ⟨⟨r1.1, r1.2.1, h3, r1.2.2.2⟩, r2, r3, r4, r5⟩ ⟨⟨a1.1, a1.2.1, rfl, a1.2.2.2⟩, a2, a4, a9⟩
theorem pr_seed (R : Rel I J q) (C : CAN I J) {v : Int} : zPair g mX5_seed 0 mX6_seed 0 [.int (iI v)] (zst I J q) := by
  have c5 := c_X5_seed (g := g) (J := J) (q := q) (v := v) (gH1 R C) (gS4 R C) (gL1 R C)
  rw [k1 C] at c5
  have hA : RF I (zu I 1 4 v) := RF_z (RF_r I) (by omega)
  have c6 := c_X6_seed (g := g) (J := J) (q := q) (v := v) (rv R hA).1 (rv R hA).2.1 (rl R hA).1
  obtain ⟨a1, a2, a4, a9⟩ := ag_of R
  exact pm0 (a := .int (iI (I 58 11))) c5 c6 (Rel_hill R (fun i hi => (zu_ne (by omega)).trans (zu_ne (by omega))) (fun i hi h69 => (zu_ne (by omega)).trans (zu_ne (by omega))) ⟨rfl, rfl⟩ (fun _ _ => rfl) (Int.le_refl _) (RV0_cg ⟨⟨rfl, rfl, rfl, rfl, rfl, rfl⟩, fun _ _ => rfl, fun _ _ => ⟨rfl, rfl, rfl⟩⟩ R.2.1) ⟨⟨a1.1, a1.2.1, a1.2.2.1, a1.2.2.2.1, rfl, a1.2.2.2.2.2⟩, a2, a4, a9⟩)
theorem pen_C (C : CAN I J) {c : Int} : fPen I J c = fPen (VI I) (VJ I J) c := by
  unfold fPen mayPN
  rw [k1 C, kj C, show (1 : Nat) + 3 = 4 from rfl, show (4 : Nat) + 1 = 5 from rfl, k4 C, k5 C]
  rfl
theorem pr_pen (R : Rel I J q) (C : CAN I J) {c : Int} (hc : -2147483648 ≤ c ∧ c ≤ 2147483647) : zPair g mX5_pen 3 mX6_pen 3 [.int (iI c)] (zst I J q) := by
  have c5 := c_X5_pen (g := g) (J := J) (q := q) (gH1 R C) (gS4 R C) (gL1 R C) hc
  rw [pen_C C, k1 C] at c5
  refine pm R (f := fPen (VI I) (VJ I J) c) (by unfold hF fPen; (repeat' split) <;> omega) (RF_z (RF_r I) (by omega)) c5 (okB := zu (uI I (fPen (VI I) (VJ I J) c) (zu I 1 1 c)) 58 2 c) (J2 := J) (fun hA => ?_) (fun hz hu => ?_) (fun _ => rfl)
  · have c6 := c_X6_pen (g := g) (J := J) (q := q) (rv R hA).1 (rv R hA).2.1 (rl R hA).1 hc
    rw [VI_fr hA, VJ_fr hA, hA 58 (by omega)] at c6
    exact c6
  · rw [hu]
    have h3 : isCellN (I 58 0) c = true := by
      unfold fPen at hz
      split at hz
      · cases hz
      · next z1 =>
        cases hq : isCellN (I 58 0) c with
        | true => rfl
        | false => exact absurd hq z1
    obtain ⟨a1, a2, a4, a9⟩ := ag_of R
    obtain ⟨r1, r2, r3, r4, r5⟩ := R.2.1
    exact Rel_hill R (fun i hi => (zu_ne (by omega)).trans (zu_ne (by omega))) (fun i hi h69 => (zu_ne (by omega)).trans (zu_ne (by omega))) ⟨rfl, rfl⟩ (fun _ _ => rfl) (Int.le_refl _) ⟨⟨r1.1, gC7_of r1.1.2 h3, r1.2.2⟩, r2, r3, r4, r5⟩ ⟨⟨a1.1, rfl, a1.2.2⟩, a2, a4, a9⟩
theorem dog_C (C : CAN I J) {c : Int} : fDog I J c = fDog (VI I) (VJ I J) c := by
  unfold fDog
  rw [k1 C, kj C]
theorem pr_dog (R : Rel I J q) (C : CAN I J) {c : Int} (hc : -2147483648 ≤ c ∧ c ≤ 2147483647) : zPair g mX5_dog 3 mX6_dog 2 [.int (iI c)] (zst I J q) := by
  have c5 := c_X5_dog (g := g) (J := J) (q := q) (gH1 R C) (gS4 R C) (gL1 R C) hc
  rw [dog_C C, k4 C] at c5
  refine pm R (f := fDog (VI I) (VJ I J) c) (by unfold hF fDog; (repeat' split) <;> omega) (RF_z (RF_r I) (by omega)) c5 (okB := zu (uI I (fDog (VI I) (VJ I J) c) (zu I 4 0 c)) 58 3 c) (J2 := J) (fun hA => ?_) (fun hz hu => ?_) (fun _ => rfl)
  · have c6 := c_X6_dog (g := g) (J := J) (q := q) (rv R hA).1 (rv R hA).2.1 (rl R hA).1 hc
    rw [VI_fr hA, VJ_fr hA, hA 58 (by omega)] at c6
    exact c6
  · rw [hu]
    have h3 : openN (I 58 0) (maskW (I 59)) c = true := by
      unfold fDog at hz
      split at hz
      · cases hz
      · split at hz
        · cases hz
        · next z1 =>
          have z1 : ¬ dogsN (I 58 0) (maskW (I 59)) (I 58 2) c = false := z1
          cases hq : dogsN (I 58 0) (maskW (I 59)) (I 58 2) c with
          | true =>
            simp only [dogsN, Bool.and_eq_true] at hq
            exact hq.2
          | false => exact absurd hq z1
    obtain ⟨a1, a2, a4, a9⟩ := ag_of R
    obtain ⟨r1, r2, r3, r4, r5⟩ := R.2.1
    exact Rel_hill R (fun i hi => (zu_ne (by omega)).trans (zu_ne (by omega))) (fun i hi h69 => (zu_ne (by omega)).trans (zu_ne (by omega))) ⟨rfl, rfl⟩ (fun _ _ => rfl) (Int.le_refl _) ⟨r1, ⟨gC7_o r1.1.2 h3, r2.2⟩, h3, r4, r5⟩ ⟨a1, a2, ⟨rfl, a4.2⟩, a9⟩
theorem ewe_C (C : CAN I J) {kd a c : Int} : fEwe I J kd a c = fEwe (VI I) (VJ I J) kd a c := by
  unfold fEwe
  rw [k1 C, kj C]
theorem pr_ewe (R : Rel I J q) (C : CAN I J) {kd a c : Int} (hk : -2147483648 ≤ kd ∧ kd ≤ 2147483647) (ha : -2147483648 ≤ a ∧ a ≤ 2147483647) (hc : -2147483648 ≤ c ∧ c ≤ 2147483647) : zPair g mX5_ewe 3 mX6_ewe 2 [.int (iI kd), .int (iI a), .int (iI c)] (zst I J q) := by
  have c5 := c_X5_ewe (g := g) (J := J) (q := q) (gH1 R C) (gS4 R C) (gL1 R C) hk ha hc
  rw [ewe_C C, k1 C] at c5
  refine pm R (f := fEwe (VI I) (VJ I J) kd a c) (by unfold hF fEwe; (repeat' split) <;> omega) (RF_z (RF_z (RF_z (RF_z (RF_r I) (by omega)) (by omega)) (by omega)) (by omega)) c5 (okB := zu (zu (zu (zu (uI I (fEwe (VI I) (VJ I J) kd a c) (zu (zu (zu (zu I 2 (VI I 1 6).toNat kd) 3 (VI I 1 6).toNat a) 5 (VI I 1 6).toNat c) 1 6 (VI I 1 6 + 1))) 60 (I 58 5).toNat kd) 61 (I 58 5).toNat a) 62 (I 58 5).toNat c) 58 5 (I 58 5 + 1)) (J2 := J) (fun hA => ?_) (fun hz hu => ?_) (fun _ => rfl)
  · have c6 := c_X6_ewe (g := g) (J := J) (q := q) (rv R hA).1 (rv R hA).2.1 (rl R hA).1 hk ha hc
    rw [VI_fr hA, VJ_fr hA, hA 58 (by omega)] at c6
    exact c6
  · rw [hu]
    have h3 : ((0 ≤ kd ∧ kd < 6) ∧ (0 ≤ a ∧ a ≤ 9) ∧ isCellN (I 58 0) c = true) ∧ I 58 5 < 5 := by
      unfold fEwe at hz
      split at hz
      · cases hz
      · next z1 =>
        split at hz
        · cases hz
        · split at hz
          · cases hz
          · next z2 =>
            have z2 : ¬ 5 ≤ I 58 5 := z2
            exact ⟨Classical.not_not.mp z1, by omega⟩
    obtain ⟨a1, a2, a4, a9⟩ := ag_of R
    obtain ⟨r1, r2, r3, r4, r5⟩ := R.2.1
    have hn := r1.2.2.2.1
    have hv6 : VI I 1 6 = I 58 5 := rfl
    rw [hv6]
    have e60 : ∀ (B : Nat → Nat → Int) (i k x : Nat) (v : Int), zu B i k v i x = if x = k then v else B i x := fun B i k x v => by
      rw [zu_up]
      rfl
    refine Rel_hill R (fun i hi => ?_) (fun i hi h69 => ?_) ⟨rfl, rfl⟩ (fun _ _ => rfl) ?_ ⟨⟨r1.1, r1.2.1, r1.2.2.1, ?_, fun e he => ?_, fun e he => ?_, r1.2.2.2.2.2.2⟩, ⟨r2.1, r2.2.1, fun e he => ?_⟩, r3, ⟨r4.1, fun e he => ?_⟩, r5⟩ ⟨⟨a1.1, a1.2.1, a1.2.2.1, a1.2.2.2.1, a1.2.2.2.2.1, rfl⟩, fun e he => ?_, a4, a9⟩
    · rw [zu_ne (by omega), zu_ne (by omega), zu_ne (by omega), zu_ne (by omega), zu_ne (by omega), zu_ne (by omega), zu_ne (by omega), zu_ne (by omega)]
    · rw [zu_ne (by omega), zu_ne (by omega), zu_ne (by omega), zu_ne (by omega), zu_ne (by omega), zu_ne (by omega), zu_ne (by omega), zu_ne (by omega)]
    · show I 58 5 ≤ I 58 5 + 1
      omega
    · show 0 ≤ I 58 5 + 1 ∧ I 58 5 + 1 ≤ 5
      omega
    · rw [zu_ne (by omega), zu_ne (by omega), zu_ne (by omega), e60, zu_ne (by omega), zu_ne (by omega), zu_ne (by omega), zu_ne (by omega)]
      split
      · omega
      · exact r1.2.2.2.2.1 e he
    · rw [zu_ne (by omega), zu_ne (by omega), e60, zu_ne (by omega), zu_ne (by omega), zu_ne (by omega), zu_ne (by omega), zu_ne (by omega)]
      split
      · omega
      · exact r1.2.2.2.2.2.1 e he
    · rw [show ∀ X : Nat → Nat → Int, (spR X).2.2 e = X 62 e from fun _ => rfl, zu_ne (by omega), e60, zu_ne (by omega), zu_ne (by omega), zu_ne (by omega), zu_ne (by omega), zu_ne (by omega), zu_ne (by omega)]
      split
      · exact gC7_of r1.1.2 h3.1.2.2
      · exact r2.2.2 e he
    · have he : e < (I 58 5 + 1).toNat := he
      show isCellN (I 58 0) (zu _ 58 5 (I 58 5 + 1) 62 e) = true
      rw [zu_ne (by omega), e60, zu_ne (by omega), zu_ne (by omega), zu_ne (by omega), zu_ne (by omega), zu_ne (by omega), zu_ne (by omega)]
      split
      · exact h3.1.2.2
      · exact r4.2 e (by omega)
    · obtain ⟨b1, b2, b3⟩ := a2 e he
      refine ⟨?_, ?_, ?_⟩
      · rw [zu_ne (by omega), zu_ne (by omega), zu_ne (by omega), zu_ne (by omega), zu_ne (by omega), zu_ne (by omega), zu_ne (by omega), e60, zu_ne (i := 58) (by omega), zu_ne (i := 62) (by omega), zu_ne (i := 61) (by omega), e60, zu_ne (by omega), zu_ne (by omega), zu_ne (by omega), zu_ne (by omega)]
        split
        · rfl
        · exact b1
      · rw [zu_ne (by omega), zu_ne (by omega), zu_ne (by omega), zu_ne (by omega), zu_ne (by omega), zu_ne (by omega), e60, zu_ne (i := 2) (by omega), zu_ne (i := 58) (by omega), zu_ne (i := 62) (by omega), e60, zu_ne (by omega), zu_ne (by omega), zu_ne (by omega), zu_ne (by omega), zu_ne (by omega)]
        split
        · rfl
        · exact b2
      · rw [zu_ne (by omega), zu_ne (by omega), zu_ne (by omega), zu_ne (by omega), zu_ne (by omega), e60, zu_ne (i := 3) (by omega), zu_ne (i := 2) (by omega), zu_ne (i := 58) (by omega), e60, zu_ne (by omega), zu_ne (by omega), zu_ne (by omega), zu_ne (by omega), zu_ne (by omega), zu_ne (by omega)]
        split
        · rfl
        · exact b3
theorem move_C (C : CAN I J) {e c : Int} : fMove I J e c = fMove (VI I) (VJ I J) e c := by
  unfold fMove
  rw [k1 C, kj C]
theorem pr_move (R : Rel I J q) (C : CAN I J) {e c : Int} (he : -2147483648 ≤ e ∧ e ≤ 2147483647) (hc : -2147483648 ≤ c ∧ c ≤ 2147483647) : zPair g mX5_move 3 mX6_move 2 [.int (iI e), .int (iI c)] (zst I J q) := by
  have c5 := c_X5_move (g := g) (J := J) (q := q) (gH1 R C) (gS4 R C) (gL1 R C) he hc
  rw [move_C C, k5 C] at c5
  refine pm R (f := fMove (VI I) (VJ I J) e c) (by unfold hF fMove; (repeat' split) <;> omega) (RF_z (RF_r I) (by omega)) c5 (okB := zu (uI I (fMove (VI I) (VJ I J) e c) (zu I 5 e.toNat c)) 62 e.toNat c) (J2 := J) (fun hA => ?_) (fun hz hu => ?_) (fun _ => rfl)
  · have c6 := c_X6_move (g := g) (J := J) (q := q) (rv R hA).1 (rv R hA).2.1 (rl R hA).1 he hc
    rw [VI_fr hA, VJ_fr hA, hA 62 (by omega)] at c6
    exact c6
  · rw [hu]
    have h3 : (0 ≤ e ∧ e < I 58 5) ∧ isCellN (I 58 0) c = true := by
      unfold fMove at hz
      split at hz
      · cases hz
      · next z1 => exact Classical.not_not.mp z1
    obtain ⟨a1, a2, a4, a9⟩ := ag_of R
    obtain ⟨r1, r2, r3, r4, r5⟩ := R.2.1
    have e60 : ∀ (B : Nat → Nat → Int) (i k x : Nat) (v : Int), zu B i k v i x = if x = k then v else B i x := fun B i k x v => by
      rw [zu_up]
      rfl
    refine Rel_hill R (fun i hi => (zu_ne (by omega)).trans (zu_ne (by omega))) (fun i hi h69 => (zu_ne (by omega)).trans (zu_ne (by omega))) ⟨rfl, rfl⟩ (fun _ _ => rfl) (Int.le_refl _) ⟨r1, ⟨r2.1, r2.2.1, fun x hx => ?_⟩, r3, ⟨r4.1, fun x hx => ?_⟩, r5⟩ ⟨a1, fun x hx => ?_, a4, a9⟩
    · show gC7 (zu (zu I 5 e.toNat c) 62 e.toNat c 62 x)
      rw [e60, zu_ne (by omega)]
      split
      · exact gC7_of r1.1.2 h3.2
      · exact r2.2.2 x hx
    · show isCellN (I 58 0) (zu (zu I 5 e.toNat c) 62 e.toNat c 62 x) = true
      rw [e60, zu_ne (by omega)]
      split
      · exact h3.2
      · exact r4.2 x hx
    · obtain ⟨b1, b2, b3⟩ := a2 x hx
      refine ⟨b1, b2, ?_⟩
      rw [zu_ne (by omega), e60, e60, zu_ne (by omega)]
      split
      · rfl
      · exact b3
end MU
