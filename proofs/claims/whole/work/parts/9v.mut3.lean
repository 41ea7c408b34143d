/-! pairs of calls: the tape, what is kept, a HILL read -/
section MT
variable {g : zG} {I : Nat → Nat → Int} {J J1 J2 : Nat → Nat → Int64} {q : Nat × Nat}
theorem feed_C (C : CAN I J) {c : Int} : fFeed I c = fFeed (VI I) c := by
  unfold fFeed
  rw [C.2.1]
  rfl
theorem Rel_tape {A : Nat → Nat → Int} (R : Rel I J q) (h1 : ∀ i, i < 36 → i ≠ 11 → i ≠ 12 → A i = I i) (h2 : ∀ i, 59 ≤ i → i < 69 → i ≠ 63 → A i = I i) (h3 : ∀ k, (k < 14 ∨ k = 22) → k ≠ 12 → A 58 k = I 58 k) (rt : gTR A) (a6 : A 11 1 = A 58 12 ∧ ∀ k, k < 250 → A 12 k = A 63 k) : Rel A J q := by
  obtain ⟨hq, r0, rl, -, ri, rk, rg, rc, ra⟩ := R
  have e0 := h3 0 (by omega) (by omega)
  have e2 := h3 2 (by omega) (by omega)
  have e3 := h3 3 (by omega) (by omega)
  have e4 := h3 4 (by omega) (by omega)
  have e5 := h3 5 (by omega) (by omega)
  have e9 := h3 9 (by omega) (by omega)
  have e10 := h3 10 (by omega) (by omega)
  have e11 := h3 11 (by omega) (by omega)
  have e22 := h3 22 (by omega) (by omega)
  have f59 := h2 59 (by omega) (by omega) (by omega)
  have f60 := h2 60 (by omega) (by omega) (by omega)
  have f61 := h2 61 (by omega) (by omega) (by omega)
  have f62 := h2 62 (by omega) (by omega) (by omega)
  have f64 := h2 64 (by omega) (by omega) (by omega)
  have f65 := h2 65 (by omega) (by omega) (by omega)
  have f67 := h2 67 (by omega) (by omega) (by omega)
  have f68 := h2 68 (by omega) (by omega) (by omega)
  refine ⟨hq, RV0_cg ⟨⟨e0, e2, e3, e4, e5, e9⟩, fun c _ => by rw [f59], fun e _ => by rw [f60, f61, f62]; exact ⟨rfl, rfl, rfl⟩⟩ r0, ⟨by unfold gRL; rw [f64, f65]; exact rl.1, by rw [f64, e5]; exact rl.2⟩, rt, by rw [e22]; exact ri, by unfold K68; rw [f68]; exact rk, ⟨by unfold gH; rw [h1 6 (by omega) (by omega) (by omega), h1 (6 + 1) (by omega) (by omega) (by omega), h1 (6 + 2) (by omega) (by omega) (by omega)]; exact rg.1, by unfold gS; rw [h1 9 (by omega) (by omega) (by omega), h1 (9 + 1) (by omega) (by omega) (by omega)]; exact rg.2⟩, fun z => ?_, ?_⟩
  · rw [e22] at z
    obtain ⟨K, k1, k2, k3⟩ := rc z
    refine ⟨K, k1, ?_, ?_⟩
    · unfold KA; rw [f68]; exact k2
    · unfold KB; rw [h1 6 (by omega) (by omega) (by omega), h1 7 (by omega) (by omega) (by omega), h1 8 (by omega) (by omega) (by omega), h1 9 (by omega) (by omega) (by omega), h1 10 (by omega) (by omega) (by omega)]; exact k3
  · obtain ⟨a0, a1, a2, a4, -, a7, a8, a9⟩ := ra
    refine ⟨by rw [h1 0 (by omega) (by omega) (by omega), e22]; exact a0, by rw [h1 1 (by omega) (by omega) (by omega), e0, e2, e9, e10, e11, e5]; exact a1, by rw [h1 2 (by omega) (by omega) (by omega), h1 3 (by omega) (by omega) (by omega), h1 5 (by omega) (by omega) (by omega), f60, f61, f62]; exact a2, by rw [h1 4 (by omega) (by omega) (by omega), e3, e4]; exact a4, a6, by rw [h1 35 (by omega) (by omega) (by omega), f67]; exact a7, fun s hs => ?_, by rw [f59]; exact a9⟩
    rw [h1 (19 + 2 * s) (by omega) (by omega) (by omega), f64, f65]
    exact a8 s hs
theorem pr_feed (R : Rel I J q) (C : CAN I J) {c : Int} (hc : -2147483648 ≤ c ∧ c ≤ 2147483647) : zPair g mX5_feed 1 mX6_feed 1 [.int (iI c)] (zst I J q) := by
  have ht := gT1 R C
  have c5 := c_X5_feed (g := g) (J := J) (q := q) (gH1 R C) (gS4 R C) (gL1 R C) ht.1 hc
  rw [feed_C C, C.2.1] at c5
  have rt := R.2.2.2.1
  refine pm R (f := fFeed (VI I) c) (by unfold hF fFeed; (repeat' split) <;> omega) (RF_z (RF_z (RF_r I) (by omega)) (by omega)) c5 (okB := zu (zu (uI I (fFeed (VI I) c) (zu (zu I 12 (I 58 12).toNat c) 11 1 (I 58 12 + 1))) 58 12 (I 58 12 + 1)) 63 (I 58 12).toNat c) (J2 := J) (fun hA => ?_) (fun hz hu => ?_) (fun _ => rfl)
  · have c6 := c_X6_feed (g := g) (J := J) (q := q) (rv R hA).1 (rv R hA).2.1 (rl R hA).1 (by rw [hA 58 (by omega)]; exact rt.1) hc
    rw [VI_fr hA, hA 58 (by omega)] at c6
    exact c6
  · rw [hu]
    have h3 : (0 ≤ c ∧ c ≤ 255) ∧ I 58 12 < 250 := by
      unfold fFeed at hz
      split at hz
      · cases hz
      · next z1 =>
        split at hz
        · cases hz
        · next z2 =>
          have z2 : ¬ 250 ≤ I 58 12 := z2
          exact ⟨Classical.not_not.mp z1, by omega⟩
    have a6 : ∀ k, k < 250 → I 12 k = I 63 k := fun k _ => by rw [C.1 12 rfl]; rfl
    refine Rel_tape R (fun i hi h11 h12 => ?_) (fun i hi h69 h63 => ?_) (fun k hk h12 => ?_) ⟨?_, fun k hk => ?_⟩ ⟨rfl, fun k hk => ?_⟩
    · rw [zu_ne (by omega), zu_ne (by omega), zu_ne (by omega), zu_ne (by omega)]
    · rw [zu_ne (by omega), zu_ne (by omega), zu_ne (by omega), zu_ne (by omega)]
    · rw [zu_n (by omega), zu_n (by omega), zu_n (by omega), zu_n (by omega)]
    · show 0 ≤ I 58 12 + 1 ∧ I 58 12 + 1 ≤ 250
      have := rt.1
      omega
    · rw [zu_v, zu_ne (show (63 : Nat) ≠ 58 by omega), zu_ne (show (63 : Nat) ≠ 11 by omega), zu_ne (show (63 : Nat) ≠ 12 by omega)]
      split
      · exact h3.1
      · exact rt.2 k hk
    · rw [zu_ne (show (12 : Nat) ≠ 63 by omega), zu_ne (show (12 : Nat) ≠ 58 by omega), zu_ne (show (12 : Nat) ≠ 11 by omega), zu_v, zu_v, zu_ne (show (63 : Nat) ≠ 58 by omega), zu_ne (show (63 : Nat) ≠ 11 by omega), zu_ne (show (63 : Nat) ≠ 12 by omega)]
      split
      · rfl
      · exact a6 k hk
theorem pr_wipe (R : Rel I J q) (C : CAN I J) : zPair g mX5_wipe 0 mX6_wipe 0 [] (zst I J q) := by
  have c5 := c_X5_wipe (g := g) (J := J) (q := q) (gH1 R C) (gS4 R C) (gL1 R C)
  rw [C.2.1] at c5
  have hA : RF I (zu I 11 1 0) := RF_z (RF_r I) (by omega)
  have c6 := c_X6_wipe (g := g) (J := J) (q := q) (rv R hA).1 (rv R hA).2.1 (rl R hA).1
  have a6 : ∀ k, k < 250 → I 12 k = I 63 k := fun k _ => by rw [C.1 12 rfl]; rfl
  refine pm0 (a := .int (iI (I 58 12))) c5 c6 (Rel_tape R (fun i hi h11 h12 => ?_) (fun i hi h69 h63 => ?_) (fun k hk h12 => ?_) ⟨(by show (0 : Int) ≤ 0 ∧ (0 : Int) ≤ 250; omega), R.2.2.2.1.2⟩ ⟨rfl, a6⟩)
  · rw [zu_ne (by omega), zu_ne (by omega)]
  · rw [zu_ne (by omega), zu_ne (by omega)]
  · rw [zu_n (by omega), zu_n (by omega)]
theorem zHl_n {X : Nat → Nat → Int} {h o i : Nat} (h1 : i < h ∨ h + 4 < i) : zHl X h o i = X i := by
  funext k
  unfold zHl
  rw [if_neg (by omega), if_neg (by omega), if_neg (by omega), if_neg (by omega), if_neg (by omega)]
theorem zHl_0 {X : Nat → Nat → Int} {h o k : Nat} (hk : k = 0 ∨ k = 1 ∨ k = 2 ∨ k = 3 ∨ k = 4 ∨ k = 6) : zHl X h o h k = X o k := by
  unfold zHl
  rw [if_pos rfl, if_pos hk]
theorem zHl_1 {X : Nat → Nat → Int} {h o : Nat} : zHl X h o (h + 1) = X (o + 1) := by
  funext k
  unfold zHl
  rw [if_neg (by omega), if_pos rfl]
theorem zHl_2 {X : Nat → Nat → Int} {h o : Nat} : zHl X h o (h + 2) = X (o + 2) := by
  funext k
  unfold zHl
  rw [if_neg (by omega), if_neg (by omega), if_pos rfl]
theorem zHl_3 {X : Nat → Nat → Int} {h o k : Nat} (hk : k = 0 ∨ k = 1) : zHl X h o (h + 3) k = X (o + 3) k := by
  unfold zHl
  rw [if_neg (by omega), if_neg (by omega), if_neg (by omega), if_pos rfl, if_pos hk]
theorem zHl_4 {X : Nat → Nat → Int} {h o : Nat} : zHl X h o (h + 4) = X (o + 4) := by
  funext k
  unfold zHl
  rw [if_neg (by omega), if_neg (by omega), if_neg (by omega), if_neg (by omega), if_pos (by omega)]
theorem kp_v {X : Nat → Nat → Int} {r k : Nat} (h : k < 90) : kpI X r r k = kpF X k := by
  show (if kpP r 90 r k = true then kpF X k else X r k) = kpF X k
  exact if_pos (decide_eq_true ⟨rfl, h⟩)
theorem kpF_c {X Y : Nat → Nat → Int} (h : ∀ i, 59 ≤ i → i < 63 → X i = Y i) (h2 : ∀ k, k < 12 → X 58 k = Y 58 k) (k : Nat) : kpF X k = kpF Y k := by
  unfold kpF
  rw [h 59 (by omega) (by omega), h 60 (by omega) (by omega), h 61 (by omega) (by omega), h 62 (by omega) (by omega), h2 0 (by omega), h2 2 (by omega), h2 3 (by omega), h2 4 (by omega), h2 5 (by omega), h2 9 (by omega), h2 10 (by omega), h2 11 (by omega)]
theorem pr_image (R : Rel I J q) (C : CAN I J) : zPair g mX5_image 3 mX6_image 1 [] (zst I J q) := by
  have c5 := c_X5_image (g := g) (J := J) (q := q) (gH1 R C) (gS4 R C) (gL1 R C)
  have hh : RF I (zHl I 6 1) := fun i hi => zHl_n (by omega)
  have hA : RF I (zu (zHl I 6 1) 0 2 1) := RF_z hh (by omega)
  have c6 := c_X6_image (g := g) (J := zu J 6 5 (J 1 5)) (q := q) (rv R hA).1
  refine pm0 c5 c6 ?_
  have gh := gH1 R C
  have gs := gS4 R C
  obtain ⟨hq, r0, rl, rt, ri, rk, rg, rc, ra⟩ := R
  obtain ⟨a0, a1, a2, a4, a6, a7, a8, a9⟩ := ra
  obtain ⟨X, hX⟩ : ∃ X, X = zu (zu (zHl I 6 1) 0 2 1) 58 22 1 := ⟨_, rfl⟩
  rw [← hX]
  have xn : ∀ i, (i = 0 → False) → i ≠ 58 → (i < 6 ∨ 10 < i) → X i = I i := fun i h0 h58 hi => by
    rw [hX, zu_ne h58, zu_ne (by omega), zHl_n (by omega)]
  have x58 : ∀ k, k ≠ 22 → X 58 k = I 58 k := fun k hk => by
    rw [hX, zu_n (by omega), zu_ne (by omega), zHl_n (by omega)]
  have x6 : ∀ i, 6 ≤ i → i ≤ 10 → X i = zHl I 6 1 i := fun i h6 h10 => by
    rw [hX, zu_ne (by omega), zu_ne (by omega)]
  have b : ∀ i, i ≠ 68 → kpI X 68 i = X i := fun i hi => kp_n hi
  have b68 : ∀ k, k < 90 → kpI X 68 68 k = kpF I k := fun k hk => by
    rw [kp_v hk]
    exact kpF_c (fun i h1 h2 => xn i (by omega) (by omega) (by omega)) (fun k hk => x58 k (by omega)) k
  have g6 : ∀ k, (k = 0 ∨ k = 1 ∨ k = 2 ∨ k = 3 ∨ k = 4 ∨ k = 6) → kpI X 68 6 k = I 1 k := fun k hk => by
    rw [b 6 (by omega), x6 6 (by omega) (by omega)]
    exact zHl_0 hk
  have g7 : kpI X 68 7 = I 2 := by rw [b 7 (by omega), x6 7 (by omega) (by omega)]; exact zHl_1
  have g8 : kpI X 68 8 = I 3 := by rw [b 8 (by omega), x6 8 (by omega) (by omega)]; exact zHl_2
  have g9 : ∀ k, (k = 0 ∨ k = 1) → kpI X 68 9 k = I 4 k := fun k hk => by
    rw [b 9 (by omega), x6 9 (by omega) (by omega)]
    exact zHl_3 hk
  have g10 : kpI X 68 10 = I 5 := by rw [b 10 (by omega), x6 10 (by omega) (by omega)]; exact zHl_4
  have e58 : ∀ k, k ≠ 22 → kpI X 68 58 k = I 58 k := fun k hk => by rw [b 58 (by omega), x58 k hk]
  have e : ∀ i, (i = 0 → False) → i ≠ 58 → (i < 6 ∨ 10 < i) → i ≠ 68 → kpI X 68 i = I i := fun i h0 h58 hi h68 => by rw [b i h68, xn i h0 h58 hi]
  refine ⟨hq, RV0_cg ⟨⟨e58 0 (by omega), e58 2 (by omega), e58 3 (by omega), e58 4 (by omega), e58 5 (by omega), e58 9 (by omega)⟩, fun c _ => by rw [e 59 (by omega) (by omega) (by omega) (by omega)], fun x _ => by rw [e 60 (by omega) (by omega) (by omega) (by omega), e 61 (by omega) (by omega) (by omega) (by omega), e 62 (by omega) (by omega) (by omega) (by omega)]; exact ⟨rfl, rfl, rfl⟩⟩ r0, ⟨by unfold gRL; rw [e 64 (by omega) (by omega) (by omega) (by omega), e 65 (by omega) (by omega) (by omega) (by omega)]; exact rl.1, by rw [e 64 (by omega) (by omega) (by omega) (by omega), e58 5 (by omega)]; exact rl.2⟩, by unfold gTR; rw [e58 12 (by omega), e 63 (by omega) (by omega) (by omega) (by omega)]; exact rt, .inr ?_, ⟨fun k hk => ?_, ?_⟩, ⟨?_, ?_⟩, fun _ => ⟨I, r0, ⟨fun c hc => ?_, fun x hx => ⟨?_, ?_, ?_⟩, ?_, ?_, ?_, ?_, ?_, ?_, ?_, ?_⟩, ⟨?_, ?_, ?_, ?_⟩⟩, ⟨?_, ?_, ?_, ?_, ?_, ?_, fun s hs => ?_, ?_⟩⟩
  · rw [b 58 (by omega), hX, zu_s]
  · rw [b68 k (by omega)]
    unfold kpF
    rw [if_pos hk]
    exact r0.1.2.2.2.2.2.2 k hk
  · rw [b68 86 (by omega)]
    exact r0.1.2.2.2.1
  · unfold gH
    rw [g6 0 (by omega), g6 1 (by omega), g6 2 (by omega), g6 6 (by omega), show (6 : Nat) + 1 = 7 from rfl, show (6 : Nat) + 2 = 8 from rfl, g7, g8]
    exact gh
  · unfold gS
    rw [g9 0 (by omega), g9 1 (by omega), show (9 : Nat) + 1 = 10 from rfl, g10]
    exact gs
  · rw [b68 c (by omega)]
    unfold kpF
    rw [if_pos hc]
  · rw [b68 _ (by omega)]
    unfold kpF
    rw [if_neg (by omega), if_pos (by omega), show 67 + x - 67 = x by omega]
  · rw [b68 _ (by omega)]
    unfold kpF
    rw [if_neg (by omega), if_neg (by omega), if_pos (by omega), show 72 + x - 72 = x by omega]
  · rw [b68 _ (by omega)]
    unfold kpF
    rw [if_neg (by omega), if_neg (by omega), if_neg (by omega), if_pos (by omega), show 77 + x - 77 = x by omega]
  · rw [b68 82 (by omega)]; rfl
  · rw [b68 83 (by omega)]; rfl
  · rw [b68 84 (by omega)]; rfl
  · rw [b68 85 (by omega)]; rfl
  · rw [b68 86 (by omega)]; rfl
  · rw [b68 87 (by omega)]; rfl
  · rw [b68 88 (by omega)]; rfl
  · rw [b68 89 (by omega)]; rfl
  · rw [g6 0 (by omega), g6 1 (by omega), g6 2 (by omega), g6 3 (by omega), g6 4 (by omega), g6 6 (by omega)]
    exact a1
  · rw [g7, g8, g10]
    exact a2
  · rw [g9 0 (by omega), g9 1 (by omega)]
    exact a4
  · rw [zu_s]
    exact a9
  · rw [b 0 (by omega), b 58 (by omega), hX, zu_ne (show (0 : Nat) ≠ 58 by omega), zu_s, zu_s]
  · rw [e 1 (by omega) (by omega) (by omega) (by omega), e58 0 (by omega), e58 2 (by omega), e58 9 (by omega), e58 10 (by omega), e58 11 (by omega), e58 5 (by omega)]
    exact a1
  · rw [e 2 (by omega) (by omega) (by omega) (by omega), e 3 (by omega) (by omega) (by omega) (by omega), e 5 (by omega) (by omega) (by omega) (by omega), e 60 (by omega) (by omega) (by omega) (by omega), e 61 (by omega) (by omega) (by omega) (by omega), e 62 (by omega) (by omega) (by omega) (by omega)]
    exact a2
  · rw [e 4 (by omega) (by omega) (by omega) (by omega), e58 3 (by omega), e58 4 (by omega)]
    exact a4
  · rw [e 11 (by omega) (by omega) (by omega) (by omega), e 12 (by omega) (by omega) (by omega) (by omega), e58 12 (by omega), e 63 (by omega) (by omega) (by omega) (by omega)]
    exact a6
  · rw [e 35 (by omega) (by omega) (by omega) (by omega), e 67 (by omega) (by omega) (by omega) (by omega)]
    exact a7
  · rw [e (19 + 2 * s) (by omega) (by omega) (by omega) (by omega), e 64 (by omega) (by omega) (by omega) (by omega), e 65 (by omega) (by omega) (by omega) (by omega), zu_ne (by omega), zu_ne (by omega)]
    exact a8 s hs
  · rw [zu_ne (by omega), e 59 (by omega) (by omega) (by omega) (by omega)]
    exact a9
/-! back -/
theorem dropI_v {X : Nat → Nat → Int} {c : Int} : ∀ k e, dropI X c k (19 + 2 * e) 0 = if e < k ∧ 10 + c ≤ X (19 + 2 * e) 0 then -1 else X (19 + 2 * e) 0
  | 0, e => by
    rw [if_neg (by omega)]
    rfl
  | k + 1, e => by
    unfold dropI
    have ih := dropI_v (X := X) (c := c) k e
    by_cases h : 10 + c ≤ X (19 + 2 * k) 0
    · rw [if_pos h]
      by_cases q : e = k
      · subst q
        rw [zu_s, if_pos ⟨by omega, h⟩]
      · rw [zu_n (by omega), ih]
        by_cases z : e < k ∧ 10 + c ≤ X (19 + 2 * e) 0
        · rw [if_pos z, if_pos ⟨by omega, z.2⟩]
        · rw [if_neg z, if_neg (fun y => z ⟨by omega, y.2⟩)]
    · rw [if_neg h, ih]
      by_cases z : e < k ∧ 10 + c ≤ X (19 + 2 * e) 0
      · rw [if_pos z, if_pos ⟨by omega, z.2⟩]
      · rw [if_neg z, if_neg (fun y => ?_)]
        by_cases q : e = k
        · subst q; exact h y.2
        · exact z ⟨by omega, y.2⟩
theorem dropI_n {X : Nat → Nat → Int} {c : Int} {i j : Nat} (h : i < 19 ∨ 34 < i ∨ j ≠ 0) : ∀ k, k ≤ 8 → dropI X c k i j = X i j
  | 0, _ => rfl
  | k + 1, hk => by
    unfold dropI
    split
    · rw [zu_n (by omega)]
      exact dropI_n h k (by omega)
    · exact dropI_n h k (by omega)
theorem dropR_v {X : Nat → Nat → Int} : ∀ k e, dropR X k 64 e = if e < k ∧ 10 + X 58 5 ≤ X 64 e then -1 else X 64 e
  | 0, e => by
    rw [if_neg (by omega)]
    rfl
  | k + 1, e => by
    unfold dropR
    have ih := dropR_v (X := X) k e
    by_cases h : 10 + X 58 5 ≤ X 64 k
    · rw [if_pos h]
      by_cases q : e = k
      · subst q
        rw [zu_s, if_pos ⟨by omega, h⟩]
      · rw [zu_n (by omega), ih]
        by_cases z : e < k ∧ 10 + X 58 5 ≤ X 64 e
        · rw [if_pos z, if_pos ⟨by omega, z.2⟩]
        · rw [if_neg z, if_neg (fun y => z ⟨by omega, y.2⟩)]
    · rw [if_neg h, ih]
      by_cases z : e < k ∧ 10 + X 58 5 ≤ X 64 e
      · rw [if_pos z, if_pos ⟨by omega, z.2⟩]
      · rw [if_neg z, if_neg (fun y => ?_)]
        by_cases q : e = k
        · subst q; exact h y.2
        · exact z ⟨by omega, y.2⟩
theorem kb_58 {X : Nat → Nat → Int} {r : Nat} : kbI X r 58 0 = X r 82 ∧ kbI X r 58 2 = X r 83 ∧ kbI X r 58 3 = X r 84 ∧ kbI X r 58 4 = X r 85 ∧ kbI X r 58 5 = X r 86 ∧ kbI X r 58 9 = X r 87 ∧ kbI X r 58 10 = X r 88 ∧ kbI X r 58 11 = X r 89 := ⟨rfl, rfl, rfl, rfl, rfl, rfl, rfl, rfl⟩
theorem kb_e {X : Nat → Nat → Int} {r e : Nat} (he : e < 5) : kbI X r 60 e = X r (67 + e) ∧ kbI X r 61 e = X r (72 + e) ∧ kbI X r 62 e = X r (77 + e) := by
  rcases (show e = 0 ∨ e = 1 ∨ e = 2 ∨ e = 3 ∨ e = 4 by omega) with rfl | rfl | rfl | rfl | rfl <;> exact ⟨rfl, rfl, rfl⟩
theorem pr_back (R : Rel I J q) (C : CAN I J) : zPair g mX5_back 3 mX6_back 1 [] (zst I J q) := by
  have hcp := R
  obtain ⟨hq, r0, rl0, rt, ri, rk, rg, rc, ra⟩ := R
  have R := hcp
  obtain ⟨a0, a1, a2, a4, a6, a7, a8, a9⟩ := ra
  have c5 := c_X5_back (g := g) (J := J) (q := q) (gH1 R C) (gS4 R C) (gL1 R C) rg.1 rg.2 (by rw [a0]; exact ri)
  by_cases hz : I 58 22 = 0
  · rw [if_pos (a0.trans hz), if_pos (a0.trans hz), if_pos (a0.trans hz)] at c5
    refine pq (f := -5) (a := .int (iI (-5))) R c5 (fun r σ' h => ?_) (fun A q1 hA => ⟨_, c_X6_back (rv R hA).1 (rl R hA).1 (by rw [hA 68 (by omega)]; exact rk.1) (by rw [hA 68 (by omega)]; exact rk.2) (by rw [hA 58 (by omega)]; exact ri), fun r2 σ2 h => ?_⟩)
    · obtain ⟨rfl, rfl⟩ := h
      exact ⟨rfl, _, q, hq, Q5_u (f := -5) frS_rf frS_rf, rfl⟩
    · obtain ⟨rfl, rfl⟩ := h
      have hz2 : A 58 22 = 0 := by rw [hA 58 (by omega)]; exact hz
      rw [if_pos hz2, if_pos hz2]
      exact ⟨rfl, _, Q6_u (f := -5) (.inr (by decide)) frR_rf frR_rf, rfl⟩
  · have h1 : I 58 22 = 1 := ri.resolve_left hz
    have hz0 : ¬ I 0 2 = 0 := by rw [a0]; exact hz
    rw [if_neg hz0, if_neg hz0, if_neg hz0] at c5
    obtain ⟨K, k1, ⟨ka1, ka2, ka3⟩, ⟨kb1, kb2, kb3, kb4⟩⟩ := rc h1
    obtain ⟨A, hAd⟩ : ∃ A, A = dropI (zHl I 1 6) (I 6 6) 8 := ⟨_, rfl⟩
    rw [← hAd] at c5
    have an : ∀ i, 5 < i → (i < 19 ∨ 34 < i) → A i = I i := fun i h5 hi => by
      funext k
      rw [hAd, dropI_n (by omega) 8 (by omega), zHl_n (by omega)]
    have al : ∀ i, i < 19 → A i = zHl I 1 6 i := fun i hi => by
      funext k
      rw [hAd, dropI_n (by omega) 8 (by omega)]
    have hA : RF I A := fun i hi => an i (by omega) (by omega)
    have c6 := c_X6_back (g := g) (J := zu J 1 5 (J 6 5)) (q := q) (rv R hA).1 (rl R hA).1 (by rw [hA 68 (by omega)]; exact rk.1) (by rw [hA 68 (by omega)]; exact rk.2) (by rw [hA 58 (by omega)]; exact ri)
    have hz2 : ¬ A 58 22 = 0 := by rw [hA 58 (by omega)]; exact hz
    rw [if_neg hz2, if_neg hz2] at c6
    refine pm0 c5 c6 ?_
    have a68 : A 68 = I 68 := hA 68 (by omega)
    obtain ⟨B, hB⟩ : ∃ B, B = dropR (kbI A 68) 8 := ⟨_, rfl⟩
    rw [← hB]
    have bn : ∀ i, i ≠ 64 → B i = kbI A 68 i := fun i hi => by
      funext k
      rw [hB, dropR_n (by omega)]
    have bo : ∀ i, i ≠ 64 → (i < 58 ∨ 62 < i) → B i = A i := fun i hi h2 => by rw [bn i hi, kb_n h2]
    have b58 : B 58 0 = K 58 0 ∧ B 58 2 = K 58 2 ∧ B 58 3 = K 58 3 ∧ B 58 4 = K 58 4 ∧ B 58 5 = K 58 5 ∧ B 58 9 = K 58 9 ∧ B 58 10 = K 58 10 ∧ B 58 11 = K 58 11 := by
      have := kb_58 (X := A) (r := 68)
      rw [bn 58 (by omega), this.1, this.2.1, this.2.2.1, this.2.2.2.1, this.2.2.2.2.1, this.2.2.2.2.2.1, this.2.2.2.2.2.2.1, this.2.2.2.2.2.2.2, a68]
      exact ka3
    have b59 : ∀ c, c < 67 → B 59 c = K 59 c := fun c hc => by
      rw [bn 59 (by omega), kb_59v hc, a68, ka1 c hc]
      rcases k1.1.2.2.2.2.2.2 c hc with e | e <;> rw [e] <;> rfl
    have be : ∀ e, e < 5 → B 60 e = K 60 e ∧ B 61 e = K 61 e ∧ B 62 e = K 62 e := fun e he => by
      have := kb_e (X := A) (r := 68) he
      rw [bn 60 (by omega), bn 61 (by omega), bn 62 (by omega), this.1, this.2.1, this.2.2, a68]
      exact ka2 e he
    have b58k : ∀ k, 11 < k → B 58 k = I 58 k := fun k hk => by rw [bn 58 (by omega), kb_k hk, hA 58 (by omega)]
    have b64 : ∀ e, e < 8 → B 64 e = if 10 + K 58 5 ≤ I 64 e then -1 else I 64 e := fun e he => by
      rw [hB, dropR_v, kb_n (i := 64) (by omega), kb_58.2.2.2.2.1, a68, ka3.2.2.2.2.1, hA 64 (by omega)]
      by_cases z : 10 + K 58 5 ≤ I 64 e
      · rw [if_pos ⟨he, z⟩, if_pos z]
      · rw [if_neg (fun y => z y.2), if_neg z]
    have hK5 := k1.1.2.2.2.1
    have kb5 : I 6 6 = K 58 5 := kb1.2.2.2.2.2
    have bA : ∀ i, 5 < i → (i < 19 ∨ 34 < i) → (i < 58 ∨ 62 < i) → i ≠ 64 → B i = I i := fun i h5 h19 h58 h64 => by rw [bo i h64 h58, an i h5 h19]
    refine ⟨hq, RV0_cg ⟨⟨b58.1, b58.2.1, b58.2.2.1, b58.2.2.2.1, b58.2.2.2.2.1, b58.2.2.2.2.2.1⟩, b59, be⟩ k1, ⟨fun k hk => ?_, fun k hk => ?_⟩, ?_, ?_, ?_, ⟨?_, ?_⟩, fun _ => ⟨K, k1, ?_, ?_⟩, ⟨?_, ?_, fun e he => ?_, ?_, ?_, ?_, fun s hs => ?_, ?_⟩⟩
    · rw [b64 k hk, bA 65 (by omega) (by omega) (by omega) (by omega)]
      have := rl0.1 k hk
      split <;> omega
    · rw [b64 k hk, b58.2.2.2.2.1]
      split <;> omega
    · unfold gTR
      rw [b58k 12 (by omega), bA 63 (by omega) (by omega) (by omega) (by omega)]
      exact rt
    · rw [b58k 22 (by omega)]
      exact ri
    · unfold K68
      rw [bA 68 (by omega) (by omega) (by omega) (by omega)]
      exact rk
    · unfold gH
      rw [bA 6 (by omega) (by omega) (by omega) (by omega), bA (6 + 1) (by omega) (by omega) (by omega) (by omega), bA (6 + 2) (by omega) (by omega) (by omega) (by omega)]
      exact rg.1
    · unfold gS
      rw [bA 9 (by omega) (by omega) (by omega) (by omega), bA (9 + 1) (by omega) (by omega) (by omega) (by omega)]
      exact rg.2
    · unfold KA
      rw [bA 68 (by omega) (by omega) (by omega) (by omega)]
      exact ⟨ka1, ka2, ka3⟩
    · unfold KB
      rw [bA 6 (by omega) (by omega) (by omega) (by omega), bA 7 (by omega) (by omega) (by omega) (by omega), bA 8 (by omega) (by omega) (by omega) (by omega), bA 9 (by omega) (by omega) (by omega) (by omega), bA 10 (by omega) (by omega) (by omega) (by omega), zu_ne (by omega)]
      exact ⟨kb1, kb2, kb3, kb4⟩
    · rw [bo 0 (by omega) (by omega), al 0 (by omega), zHl_n (by omega), b58k 22 (by omega)]
      exact a0
    · rw [bo 1 (by omega) (by omega), al 1 (by omega), zHl_0 (.inl rfl), zHl_0 (.inr (.inl rfl)), zHl_0 (.inr (.inr (.inl rfl))), zHl_0 (.inr (.inr (.inr (.inl rfl)))), zHl_0 (.inr (.inr (.inr (.inr (.inl rfl))))), zHl_0 (.inr (.inr (.inr (.inr (.inr rfl))))), b58.1, b58.2.1, b58.2.2.2.2.1, b58.2.2.2.2.2.1, b58.2.2.2.2.2.2.1, b58.2.2.2.2.2.2.2]
      exact kb1
    · rw [bo 2 (by omega) (by omega), al 2 (by omega), bo 3 (by omega) (by omega), al 3 (by omega), bo 5 (by omega) (by omega), al 5 (by omega), show zHl I 1 6 2 = I 7 from zHl_1, show zHl I 1 6 3 = I 8 from zHl_2, show zHl I 1 6 5 = I 10 from zHl_4, (be e he).1, (be e he).2.1, (be e he).2.2]
      exact kb2 e he
    · rw [bo 4 (by omega) (by omega), al 4 (by omega), show zHl I 1 6 4 0 = I 9 0 from zHl_3 (.inl rfl), show zHl I 1 6 4 1 = I 9 1 from zHl_3 (.inr rfl), b58.2.2.1, b58.2.2.2.1]
      exact kb3
    · rw [bA 11 (by omega) (by omega) (by omega) (by omega), bA 12 (by omega) (by omega) (by omega) (by omega), b58k 12 (by omega), bA 63 (by omega) (by omega) (by omega) (by omega)]
      exact a6
    · rw [bA 35 (by omega) (by omega) (by omega) (by omega), bA 67 (by omega) (by omega) (by omega) (by omega)]
      exact a7
    · obtain ⟨o1, o2, o3⟩ := a8 s hs
      refine ⟨?_, ?_, fun j hj => ?_⟩
      · rw [bo _ (by omega) (by omega), hAd, dropI_v, zHl_n (by omega), b64 s hs, o1, kb5]
        by_cases z : 10 + K 58 5 ≤ I 64 s
        · rw [if_pos ⟨hs, z⟩, if_pos z]
        · rw [if_neg (fun y => z y.2), if_neg z]
      · rw [bo _ (by omega) (by omega), hAd, dropI_n (by omega) 8 (by omega), zHl_n (by omega), bA 65 (by omega) (by omega) (by omega) (by omega)]
        exact o2
      · rw [zu_ne (by omega), zu_ne (by omega)]
        exact o3 j hj
    · rw [zu_s, kb4]
      exact (maskW_cong (fun c hc _ => by rw [b59 c hc])).symm
end MT
