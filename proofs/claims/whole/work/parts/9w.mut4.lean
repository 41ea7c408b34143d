/-! pairs of calls: a HILL is read -/
theorem stq_up {f : Nat → Int} {n p : Nat} {R : HR} : R.1 6 ≤ (stF f n p R).2.2.1 6 := by
  unfold stF
  split
  · exact Int.le_refl _
  · split
    · unfold stSide; split <;> exact Int.le_refl _
    · split
      · unfold stWall; split <;> exact Int.le_refl _
      · split
        · unfold stGap; split <;> exact Int.le_refl _
        · split
          · unfold stPen; split <;> exact Int.le_refl _
          · split
            · unfold stDog; split <;> exact Int.le_refl _
            · split
              · unfold stEwe
                (repeat' split) <;> first | exact Int.le_refl _ | (show R.1 6 ≤ R.1 6 + 1; omega)
              · split
                · unfold stWind; split <;> exact Int.le_refl _
                · exact Int.le_refl _
theorem pa_up {f : Nat → Int} {n : Nat} {R : HR} : ∀ k, R.1 6 ≤ (paS f n R k).2.1 6
  | 0 => Int.le_refl _
  | k + 1 => Int.le_trans (pa_up k) stq_up
theorem paR_up {f : Nat → Int} {n : Nat} {R : HR} : R.1 6 ≤ (paR f n R).2.2.1 6 := by
  unfold paR
  split
  · next k hk =>
    have e : (paO f n k (stF f n (paS f n R k).1 (paS f n R k).2)).2.2 = (stF f n (paS f n R k).1 (paS f n R k).2).2.2 := by
      unfold paO
      (repeat' split) <;> rfl
    rw [e]
    exact Int.le_trans (pa_up k) stq_up
  · exact Int.le_refl _
section MH
variable {g : zG} {I : Nat → Nat → Int} {J J1 J2 : Nat → Nat → Int64} {q : Nat × Nat}
theorem rd_C (C : CAN I J) : rd0 I J = hrV I := by
  have e1 : zHl I 13 1 13 = fun k => VI I 1 k := by
    funext k
    by_cases hk : k = 0 ∨ k = 1 ∨ k = 2 ∨ k = 3 ∨ k = 4 ∨ k = 6
    · rw [zHl_0 hk, k1 C]
    · have h1 : zHl I 13 1 13 k = I 13 k := by
        unfold zHl
        rw [if_pos rfl, if_neg hk]
      rw [h1, C.2.2.2.2.1 k (by omega)]
      show 0 = if k = 0 then I 58 0 else if k = 1 then I 58 2 else if k = 2 then I 58 9 else if k = 3 then I 58 10 else if k = 4 then I 58 11 else if k = 6 then I 58 5 else 0
      rw [if_neg (by omega), if_neg (by omega), if_neg (by omega), if_neg (by omega), if_neg (by omega), if_neg (by omega)]
  have e2 : zHl I 13 1 16 = fun k => VI I 4 k := by
    funext k
    by_cases hk : k = 0 ∨ k = 1
    · rw [show zHl I 13 1 16 k = I 4 k from zHl_3 hk, k4 C]
    · have h1 : zHl I 13 1 16 k = I 16 k := by
        unfold zHl
        rw [if_neg (by omega), if_neg (by omega), if_neg (by omega), if_pos (by omega), if_neg hk]
      rw [h1, C.2.2.2.2.2 k (by omega)]
      show 0 = if k = 0 then I 58 3 else if k = 1 then I 58 4 else 0
      rw [if_neg (by omega), if_neg (by omega)]
  unfold rd0 hrV
  rw [e1, e2, k2 C, k3 C, k5 C, kj C]
  rfl
theorem hrV_fr {A : Nat → Nat → Int} (h : RF I A) : hrV A = hrV I := by
  unfold hrV
  rw [VI_fr h, h 59 (by omega), h 60 (by omega), h 61 (by omega), h 62 (by omega)]
set_option maxRecDepth 4000 in
theorem pr_hill (R : Rel I J q) (C : CAN I J) : zPair g mX5_hill 8 mX6_hill 8 [] (zst I J q) := by
  have hcp := R
  obtain ⟨hq, r0, rl0, rt, ri, rk, rg, rc, ra⟩ := R
  have R := hcp
  obtain ⟨a0, a1, a2, a4, a6, a7, a8, a9⟩ := ra
  obtain ⟨n, hn⟩ : ∃ n : Nat, I 58 12 = (n : Int) := ⟨(I 58 12).toNat, by have := rt.1; omega⟩
  have hn250 : n ≤ 250 := by have := rt.1; omega
  have h12 : I 12 = I 63 := C.1 12 rfl
  have c5 := c_X5_hill (g := g) (J := J) (q := q) (n := n) (gH1 R C) (gS4 R C) (gL1 R C) (gT1 R C) (by rw [C.2.1]; exact hn)
  rw [rd_C C, h12] at c5
  have hf : ∀ k, k < n → 0 ≤ I 63 k := fun k hk => (rt.2 k (by omega)).1
  have hv := hrV_gHR r0.1 r0.2.1
  have ok := paR_ok (n := n) hf hv.1 hv.2 (show doR (hrV I) from r0.2.2.1)
  have ow := paR_hw (n := n) hf hv.1 (gHW_to r0.2.2.2.1)
  have ou : I 58 5 ≤ (paR (I 63) n (hrV I)).2.2.1 6 := paR_up (f := I 63) (n := n) (R := hrV I)
  obtain ⟨x, hx⟩ : ∃ x, x = (paR (I 63) n (hrV I)).1 := ⟨_, rfl⟩
  obtain ⟨y, hy⟩ : ∃ y, y = (paR (I 63) n (hrV I)).2.1 := ⟨_, rfl⟩
  obtain ⟨Z, hZ⟩ : ∃ Z, Z = (paR (I 63) n (hrV I)).2.2 := ⟨_, rfl⟩
  rw [← hx, ← hy, ← hZ] at c5
  rw [← hZ] at ok ow ou
  obtain ⟨X, hX⟩ : ∃ X, X = zu (drI (tkI I (I 63) n y) Z) 11 1 0 := ⟨_, rfl⟩
  rw [← hX] at c5
  have xn : ∀ i, i ≠ 11 → (i < 13 ∨ 17 < i) → X i = I i := fun i h11 hi => by
    rw [hX, zu_ne h11]
    have e1 : drI (tkI I (I 63) n y) Z i = tkI I (I 63) n y i := by
      unfold drI
      rw [if_neg (by omega), if_neg (by omega), if_neg (by omega), if_neg (by omega), if_neg (by omega)]
    rw [e1]
    funext k
    unfold tkI zTk
    rw [if_neg h11]
  have x11 : X 11 1 = 0 := by rw [hX, zu_s]
  have x13 : X 13 = Z.1 ∧ X 14 = Z.2.2.1 ∧ X 15 = Z.2.2.2.1 ∧ X 16 = Z.2.2.2.2.1 ∧ X 17 = Z.2.2.2.2.2 := by
    rw [hX, zu_ne (by omega), zu_ne (by omega), zu_ne (by omega), zu_ne (by omega), zu_ne (by omega)]
    exact ⟨rfl, rfl, rfl, rfl, rfl⟩
  have hXF : RF I X := fun i hi => xn i (by omega) (by omega)
  have j13 : ∀ i, i ≠ 13 → drJ J Z i = J i := fun i hi => by unfold drJ; rw [zu_ne hi]
  by_cases hneg : x < 0
  · rw [if_pos hneg] at c5
    have hA : RF I (refI X (-2)) := fun i hi => by
      unfold refI
      rw [zu_ne (by omega), hXF i hi]
    have c6 := c_X6_hill (g := g) (J := drJ J Z) (q := q) (n := n) (f := I 63) (rv R hA).1 (rv R hA).2.1 (by unfold gTR; rw [hA 58 (by omega), hA 63 (by omega)]; exact rt) (hA 63 (by omega)) (by rw [hA 58 (by omega)]; exact hn)
    refine ⟨.int (iI x), _, Exists.intro _ rfl, c5, fun r σ' h => ?_⟩
    obtain ⟨rfl, rfl⟩ := h
    refine ⟨rfl, rfl, _, c6, fun r2 σ2 h => ?_⟩
    obtain ⟨B, rfl, rfl, b12, bi, bk, bw, bj, bz⟩ := h
    rw [hrV_fr hA, ← hx] at bz ⊢
    rw [if_pos hneg] at bz
    obtain ⟨⟨z1, z2, z3, z4⟩, z67⟩ := bz
    refine ⟨rfl, B, _, q, ?_, rfl⟩
    have v1 : ∀ k, VI B 1 k = VI I 1 k := fun k => congrFun z1 k
    have v4 : ∀ k, VI B 4 k = VI I 4 k := fun k => congrFun z3 k
    have e0 : B 58 0 = I 58 0 := v1 0
    have e2 : B 58 2 = I 58 2 := v1 1
    have e9 : B 58 9 = I 58 9 := v1 2
    have e10 : B 58 10 = I 58 10 := v1 3
    have e11 : B 58 11 = I 58 11 := v1 4
    have e5 : B 58 5 = I 58 5 := v1 6
    have e3 : B 58 3 = I 58 3 := v4 0
    have e4 : B 58 4 = I 58 4 := v4 1
    have zm : maskW (B 59) = maskW (I 59) := z2
    have e59 : ∀ c, c < 67 → B 59 c = I 59 c := fun c hc => by
      by_cases h7 : 7 ≤ c % 10
      · rw [bj c hc h7, hA 59 (by omega)]
      · have w1 := wallM (f := B 59) hc (by omega)
        have w2 := wallM (f := I 59) hc (by omega)
        rw [zm, w2] at w1
        have w3 := decide_eq_decide.mp w1
        have w4 := bw c hc
        have w5 := r0.1.2.2.2.2.2.2 c hc
        rcases w5 with w5 | w5
        · rcases w4 with w4 | w4
          · rw [w4, w5]
          · have := w3.mpr w4; omega
        · have := w3.mp w5; omega
    have bo : ∀ i, (i < 11 ∨ i = 12 ∨ (17 < i ∧ i < 35)) → B i = I i := fun i hi => by
      rw [bi i (by omega) (by omega) (by omega)]
      unfold refI
      rw [zu_ne (by omega), xn i (by omega) (by omega)]
    have bo2 : ∀ i, 62 < i → i < 69 → i ≠ 67 → B i = I i := fun i h1 h2 h3 => by rw [bi i (by omega) (by omega) (by omega), hA i (by omega)]
    refine ⟨hq, RV0_cg ⟨⟨e0, e2, e3, e4, e5, e9⟩, e59, z4⟩ r0, ⟨by unfold gRL; rw [bo2 64 (by omega) (by omega) (by omega), bo2 65 (by omega) (by omega) (by omega)]; exact rl0.1, by rw [bo2 64 (by omega) (by omega) (by omega), e5]; exact rl0.2⟩, ?_, by rw [bk 22 (by omega), hA 58 (by omega)]; exact ri, by unfold K68; rw [bo2 68 (by omega) (by omega) (by omega)]; exact rk, ⟨by unfold gH; rw [bo 6 (by omega), bo (6 + 1) (by omega), bo (6 + 2) (by omega)]; exact rg.1, by unfold gS; rw [bo 9 (by omega), bo (9 + 1) (by omega)]; exact rg.2⟩, fun z => ?_, ⟨?_, ?_, fun e he => ?_, ?_, ?_, fun k hk => ?_, fun s hs => ?_, ?_⟩⟩
    · unfold gTR
      rw [b12, bo2 63 (by omega) (by omega) (by omega)]
      exact ⟨⟨Int.le_refl _, by decide⟩, rt.2⟩
    · rw [bk 22 (by omega), hA 58 (by omega)] at z
      obtain ⟨K, k1, k2, k3⟩ := rc z
      refine ⟨K, k1, ?_, ?_⟩
      · unfold KA; rw [bo2 68 (by omega) (by omega) (by omega)]; exact k2
      · unfold KB; rw [bo 6 (by omega), bo 7 (by omega), bo 8 (by omega), bo 9 (by omega), bo 10 (by omega), j13 6 (by omega)]; exact k3
    · rw [bo 0 (by omega), bk 22 (by omega), hA 58 (by omega)]
      exact a0
    · rw [bo 1 (by omega), e0, e2, e9, e10, e11, e5]
      exact a1
    · have z5 := z4 e he
      have z6 : B 60 e = I 60 e ∧ B 61 e = I 61 e ∧ B 62 e = I 62 e := z5
      rw [bo 2 (by omega), bo 3 (by omega), bo 5 (by omega), z6.1, z6.2.1, z6.2.2]
      exact a2 e he
    · rw [bo 4 (by omega), e3, e4]
      exact a4
    · rw [bo 12 (by omega), b12, bo2 63 (by omega) (by omega) (by omega), bi 11 (by omega) (by omega) (by omega)]
      refine ⟨?_, a6.2⟩
      unfold refI
      rw [zu_ne (by omega)]
      exact x11
    · rw [z67, bi 35 (by omega) (by omega) (by omega)]
      have hA67 := hA 67 (by omega)
      show refI X (-2) 35 k = refR (refI X (-2)) (-2) 67 (k + 2)
      unfold refR
      rw [hA67]
      unfold refI
      rw [xn 35 (by omega) (by omega), show ((-2 : Int) - (-2)).toNat = 0 from rfl, show (-(-2 : Int)).toNat = 2 from rfl, zu_v, zu_v, xn 35 (by omega) (by omega), zu_ne (by omega), hXF 67 (by omega)]
      by_cases e : k = 0
      · subst e
        rw [if_pos rfl, if_pos rfl, a7 0 (by omega)]
      · rw [if_neg e, if_neg (by omega), a7 k hk]
    · rw [bo (19 + 2 * s) (by omega), bo2 64 (by omega) (by omega) (by omega), bo2 65 (by omega) (by omega) (by omega), j13 _ (by omega), j13 66 (by omega)]
      exact a8 s hs
    · rw [j13 1 (by omega), zm]
      exact a9
  · rw [if_neg hneg] at c5
    have hA : RF I (zHl X 1 13) := fun i hi => by rw [zHl_n (by omega), hXF i hi]
    have c6 := c_X6_hill (g := g) (J := zu (drJ J Z) 1 5 ((drJ J Z) 13 5)) (q := q) (n := n) (f := I 63) (rv R hA).1 (rv R hA).2.1 (by unfold gTR; rw [hA 58 (by omega), hA 63 (by omega)]; exact rt) (hA 63 (by omega)) (by rw [hA 58 (by omega)]; exact hn)
    refine ⟨.int (iI x), _, Exists.intro _ rfl, c5, fun r σ' h => ?_⟩
    obtain ⟨rfl, rfl⟩ := h
    refine ⟨rfl, rfl, _, c6, fun r2 σ2 h => ?_⟩
    obtain ⟨B, rfl, rfl, b12, bi, bk, bw, bj, bz⟩ := h
    rw [hrV_fr hA, ← hx] at bz ⊢
    rw [if_neg hneg, ← hZ] at bz
    obtain ⟨zB, z67⟩ := bz
    refine ⟨rfl, B, _, q, ?_, rfl⟩
    rw [← zB] at ok ow ou
    have hj7 : ∀ c, c < 67 → 7 ≤ c % 10 → B 59 c = 0 := fun c hc h7 => by rw [bj c hc h7, hA 59 (by omega)]; exact r0.2.2.2.2 c hc h7
    have hgr := hr_g (I := B) rfl ok.1 ok.2.1 bw
    have ou : I 58 5 ≤ B 58 5 := ou
    have bo : ∀ i, (i = 0 ∨ (5 < i ∧ i < 11) ∨ i = 12 ∨ (17 < i ∧ i < 58)) → B i = I i := fun i hi => by
      rw [bi i (by omega) (by omega) (by omega), zHl_n (by omega), xn i (by omega) (by omega)]
    have bo2 : ∀ i, 62 < i → i < 69 → i ≠ 67 → B i = I i := fun i h1 h2 h3 => by rw [bi i (by omega) (by omega) (by omega), hA i (by omega)]
    have y1 : ∀ k, (k = 0 ∨ k = 1 ∨ k = 2 ∨ k = 3 ∨ k = 4 ∨ k = 6) → B 1 k = VI B 1 k := fun k hk => by
      rw [bi 1 (by omega) (by omega) (by omega), zHl_0 hk, x13.1, ← zB]
      rfl
    refine ⟨hq, ⟨hgr.1, hgr.2, ok.2.2, gHW_of bw hj7 ow, hj7⟩, ⟨by unfold gRL; rw [bo2 64 (by omega) (by omega) (by omega), bo2 65 (by omega) (by omega) (by omega)]; exact rl0.1, fun k hk => ?_⟩, ?_, by rw [bk 22 (by omega), hA 58 (by omega)]; exact ri, by unfold K68; rw [bo2 68 (by omega) (by omega) (by omega)]; exact rk, ⟨by unfold gH; rw [bo 6 (by omega), bo (6 + 1) (by omega), bo (6 + 2) (by omega)]; exact rg.1, by unfold gS; rw [bo 9 (by omega), bo (9 + 1) (by omega)]; exact rg.2⟩, fun z => ?_, ⟨?_, ?_, fun e he => ?_, ?_, ?_, fun k hk => ?_, fun s hs => ?_, ?_⟩⟩
    · rw [bo2 64 (by omega) (by omega) (by omega)]
      have := rl0.2 k hk
      omega
    · unfold gTR
      rw [b12, bo2 63 (by omega) (by omega) (by omega)]
      exact ⟨⟨Int.le_refl _, by decide⟩, rt.2⟩
    · rw [bk 22 (by omega), hA 58 (by omega)] at z
      obtain ⟨K, k1, k2, k3⟩ := rc z
      refine ⟨K, k1, ?_, ?_⟩
      · unfold KA; rw [bo2 68 (by omega) (by omega) (by omega)]; exact k2
      · unfold KB; rw [bo 6 (by omega), bo 7 (by omega), bo 8 (by omega), bo 9 (by omega), bo 10 (by omega), zu_ne (by omega), j13 6 (by omega)]; exact k3
    · rw [bo 0 (by omega), bk 22 (by omega), hA 58 (by omega)]
      exact a0
    · exact ⟨y1 0 (by omega), y1 1 (by omega), y1 2 (by omega), y1 3 (by omega), y1 4 (by omega), y1 6 (by omega)⟩
    · rw [bi 2 (by omega) (by omega) (by omega), bi 3 (by omega) (by omega) (by omega), bi 5 (by omega) (by omega) (by omega), show zHl X 1 13 2 = X 14 from zHl_1, show zHl X 1 13 3 = X 15 from zHl_2, show zHl X 1 13 5 = X 17 from zHl_4, x13.2.1, x13.2.2.1, x13.2.2.2.2, ← zB]
      exact ⟨rfl, rfl, rfl⟩
    · rw [bi 4 (by omega) (by omega) (by omega), show zHl X 1 13 4 0 = X 16 0 from zHl_3 (.inl rfl), show zHl X 1 13 4 1 = X 16 1 from zHl_3 (.inr rfl), x13.2.2.2.1, ← zB]
      exact ⟨rfl, rfl⟩
    · rw [bo 12 (by omega), b12, bo2 63 (by omega) (by omega) (by omega), bi 11 (by omega) (by omega) (by omega), zHl_n (by omega)]
      exact ⟨x11, a6.2⟩
    · rw [z67, bo 35 (by omega), hA 67 (by omega)]
      exact a7 k hk
    · rw [bo (19 + 2 * s) (by omega), bo2 64 (by omega) (by omega) (by omega), bo2 65 (by omega) (by omega) (by omega), zu_ne (by omega), zu_ne (by omega), j13 _ (by omega), j13 66 (by omega)]
      exact a8 s hs
    · rw [zu_s]
      show drJ J Z 13 5 = maskW (B 59)
      unfold drJ
      rw [zu_s, ← zB]
      rfl
end MH
