/-! THE RELATION between the class's world and the reference's -/
def RV0 (I : Nat → Nat → Int) : Prop := gR I ∧ gRS (spR I) ∧ openN (I 58 0) (maskW (I 59)) (I 58 3) = true ∧ gHW I ∧ ∀ c, c < 67 → 7 ≤ c % 10 → I 59 c = 0
/-- the reference's hill is the same in two worlds -/
def sameV (A B : Nat → Nat → Int) : Prop := (A 58 0 = B 58 0 ∧ A 58 2 = B 58 2 ∧ A 58 3 = B 58 3 ∧ A 58 4 = B 58 4 ∧ A 58 5 = B 58 5 ∧ A 58 9 = B 58 9) ∧ (∀ c, c < 67 → A 59 c = B 59 c) ∧ ∀ e, e < 5 → A 60 e = B 60 e ∧ A 61 e = B 61 e ∧ A 62 e = B 62 e
theorem RV0_cg {A B : Nat → Nat → Int} (s : sameV A B) (h : RV0 B) : RV0 A := by
  obtain ⟨⟨s0, s2, s3, s4, s5, s9⟩, sw, se⟩ := s
  obtain ⟨h1, h2, h3, h4, h5⟩ := h
  have hn : B 58 5 ≤ 5 := h1.2.2.2.1.2
  have hm : maskW (A 59) = maskW (B 59) := maskW_cong (fun c hc _ => by rw [sw c hc])
  refine ⟨⟨by rw [s0]; exact h1.1, by rw [s2]; exact h1.2.1, by rw [s9]; exact h1.2.2.1, by rw [s5]; exact h1.2.2.2.1, fun e he => by rw [(se e he).1]; exact h1.2.2.2.2.1 e he, fun e he => by rw [(se e he).2.1]; exact h1.2.2.2.2.2.1 e he, fun c hc => by rw [sw c hc]; exact h1.2.2.2.2.2.2 c hc⟩, ⟨?_, ?_, ?_⟩, ?_, ⟨fun c hc => ?_, fun e he => ?_⟩, fun c hc h7 => by rw [sw c hc]; exact h5 c hc h7⟩
  · show gC7 (A 58 3)
    rw [s3]; exact h2.1
  · show 0 ≤ A 58 4 ∧ A 58 4 ≤ 4
    rw [s4]; exact h2.2.1
  · intro e he
    show gC7 (A 62 e)
    rw [(se e he).2.2]; exact h2.2.2 e he
  · rw [s0, hm, s3]; exact h3
  · rw [sw c hc, s0]; exact h4.1 c hc
  · rw [s5] at he
    rw [s0, (se e (by omega)).2.2]; exact h4.2 e he
def AG (I : Nat → Nat → Int) (J : Nat → Nat → Int64) : Prop := I 0 2 = I 58 22 ∧ (I 1 0 = I 58 0 ∧ I 1 1 = I 58 2 ∧ I 1 2 = I 58 9 ∧ I 1 3 = I 58 10 ∧ I 1 4 = I 58 11 ∧ I 1 6 = I 58 5) ∧ (∀ e, e < 5 → I 2 e = I 60 e ∧ I 3 e = I 61 e ∧ I 5 e = I 62 e) ∧ (I 4 0 = I 58 3 ∧ I 4 1 = I 58 4) ∧ (I 11 1 = I 58 12 ∧ ∀ k, k < 250 → I 12 k = I 63 k) ∧ (∀ k, k < 5 → I 35 k = I 67 (k + 2)) ∧ (∀ s, s < 8 → I (19 + 2 * s) 0 = I 64 s ∧ I (19 + 2 * s) 1 = I 65 s ∧ ∀ j, j < 40 → J (19 + 2 * s + 1) j = J 66 (40 * s + j)) ∧ J 1 5 = maskW (I 59)
/-- what is kept: K, in the reference's row and in the class's Hill -/
def KA (I K : Nat → Nat → Int) : Prop := (∀ c, c < 67 → I 68 c = K 59 c) ∧ (∀ e, e < 5 → I 68 (67 + e) = K 60 e ∧ I 68 (72 + e) = K 61 e ∧ I 68 (77 + e) = K 62 e) ∧ I 68 82 = K 58 0 ∧ I 68 83 = K 58 2 ∧ I 68 84 = K 58 3 ∧ I 68 85 = K 58 4 ∧ I 68 86 = K 58 5 ∧ I 68 87 = K 58 9 ∧ I 68 88 = K 58 10 ∧ I 68 89 = K 58 11
def KB (I K : Nat → Nat → Int) (J : Nat → Nat → Int64) : Prop := (I 6 0 = K 58 0 ∧ I 6 1 = K 58 2 ∧ I 6 2 = K 58 9 ∧ I 6 3 = K 58 10 ∧ I 6 4 = K 58 11 ∧ I 6 6 = K 58 5) ∧ (∀ e, e < 5 → I 7 e = K 60 e ∧ I 8 e = K 61 e ∧ I 10 e = K 62 e) ∧ (I 9 0 = K 58 3 ∧ I 9 1 = K 58 4) ∧ J 6 5 = maskW (K 59)
def KC (I : Nat → Nat → Int) (J : Nat → Nat → Int64) : Prop := ∃ K, RV0 K ∧ KA I K ∧ KB I K J
def RLS (I : Nat → Nat → Int) : Prop := gRL I ∧ ∀ k, k < 8 → I 64 k < 10 + I 58 5
def K68 (I : Nat → Nat → Int) : Prop := (∀ k, k < 67 → I 68 k = 0 ∨ I 68 k = 1) ∧ 0 ≤ I 68 86 ∧ I 68 86 ≤ 5
def Rel (I : Nat → Nat → Int) (J : Nat → Nat → Int64) (q : Nat × Nat) : Prop := isQ q ∧ RV0 I ∧ RLS I ∧ gTR I ∧ (I 58 22 = 0 ∨ I 58 22 = 1) ∧ K68 I ∧ (gH I 6 ∧ gS I 9) ∧ (I 58 22 = 1 → KC I J) ∧ AG I J
/-- nothing has changed that matters, but the REFUSALS -/
theorem Rel_cg {I A : Nat → Nat → Int} {J : Nat → Nat → Int64} {q q2 : Nat × Nat} (h : Rel I J q) (hq : isQ q2) (h1 : ∀ i, i < 35 → A i = I i) (h2 : ∀ i, i ≠ 58 → 59 ≤ i → i < 69 → i ≠ 67 → A i = I i) (h3 : ∀ k, (k < 14 ∨ k = 22) → A 58 k = I 58 k) (h4 : ∀ k, k < 5 → A 35 k = A 67 (k + 2)) : Rel A J q2 := by
  obtain ⟨-, r0, rl, rt, ri, rk, rg, rc, ra⟩ := h
  have e0 := h3 0 (by omega)
  have e2 := h3 2 (by omega)
  have e3 := h3 3 (by omega)
  have e4 := h3 4 (by omega)
  have e5 := h3 5 (by omega)
  have e9 := h3 9 (by omega)
  have e10 := h3 10 (by omega)
  have e11 := h3 11 (by omega)
  have e12 := h3 12 (by omega)
  have e22 := h3 22 (by omega)
  have f59 := h2 59 (by omega) (by omega) (by omega) (by omega)
  have f60 := h2 60 (by omega) (by omega) (by omega) (by omega)
  have f61 := h2 61 (by omega) (by omega) (by omega) (by omega)
  have f62 := h2 62 (by omega) (by omega) (by omega) (by omega)
  have f63 := h2 63 (by omega) (by omega) (by omega) (by omega)
  have f64 := h2 64 (by omega) (by omega) (by omega) (by omega)
  have f65 := h2 65 (by omega) (by omega) (by omega) (by omega)
  have f68 := h2 68 (by omega) (by omega) (by omega) (by omega)
  refine ⟨hq, RV0_cg ⟨⟨e0, e2, e3, e4, e5, e9⟩, fun c _ => by rw [f59], fun e _ => by rw [f60, f61, f62]; exact ⟨rfl, rfl, rfl⟩⟩ r0, ⟨by unfold gRL; rw [f64, f65]; exact rl.1, by rw [f64, e5]; exact rl.2⟩, by unfold gTR; rw [f63, e12]; exact rt, by rw [e22]; exact ri, by unfold K68; rw [f68]; exact rk, ⟨by unfold gH; rw [h1 6 (by omega), h1 (6 + 1) (by omega), h1 (6 + 2) (by omega)]; exact rg.1, by unfold gS; rw [h1 9 (by omega), h1 (9 + 1) (by omega)]; exact rg.2⟩, fun z => ?_, ?_⟩
  · rw [e22] at z
    obtain ⟨K, k1, k2, k3⟩ := rc z
    refine ⟨K, k1, ?_, ?_⟩
    · unfold KA; rw [f68]; exact k2
    · unfold KB; rw [h1 6 (by omega), h1 7 (by omega), h1 8 (by omega), h1 9 (by omega), h1 10 (by omega)]; exact k3
  · obtain ⟨a0, a1, a2, a4, a6, a7, a8, a9⟩ := ra
    refine ⟨by rw [h1 0 (by omega), e22]; exact a0, by rw [h1 1 (by omega), e0, e2, e9, e10, e11, e5]; exact a1, by rw [h1 2 (by omega), h1 3 (by omega), h1 5 (by omega), f60, f61, f62]; exact a2, by rw [h1 4 (by omega), e3, e4]; exact a4, by rw [h1 11 (by omega), h1 12 (by omega), e12, f63]; exact a6, h4, fun s hs => ?_, by rw [f59]; exact a9⟩
    rw [h1 (19 + 2 * s) (by omega), f64, f65]
    exact a8 s hs
def Q5 (I : Nat → Nat → Int) (f : Int) (A : Nat → Nat → Int) : Prop := (∀ i, (i < 35 ∨ 58 ≤ i) → A i = I i) ∧ ∀ k, k < 5 → A 35 k = I 35 k + (if f ≠ 0 ∧ k = (-2 - f).toNat then 1 else 0)
def Q6 (I : Nat → Nat → Int) (f : Int) (A : Nat → Nat → Int) : Prop := (∀ i, i ≠ 58 → (i < 67 ∨ i = 68) → A i = I i) ∧ (∀ k, (k < 14 ∨ k = 22) → A 58 k = I 58 k) ∧ ∀ k, k < 5 → A 67 (k + 2) = I 67 (k + 2) + (if f ≠ 0 ∧ k = (-2 - f).toNat then 1 else 0)
def hF (f : Int) : Prop := f = 0 ∨ (-6 ≤ f ∧ f ≤ -2)
theorem Rel_Q {I A B : Nat → Nat → Int} {J : Nat → Nat → Int64} {q q2 : Nat × Nat} {f : Int} (h : Rel I J q) (hq : isQ q2) (h5 : Q5 I f A) (h6 : Q6 A f B) : Rel B J q2 := by
  refine Rel_cg h hq (fun i hi => by rw [h6.1 i (by omega) (by omega), h5.1 i (by omega)]) (fun i h58 h59 h69 h67 => by rw [h6.1 i h58 (by omega), h5.1 i (by omega)]) (fun k hk => by rw [h6.2.1 k hk, h5.1 58 (by omega)]) (fun k hk => ?_)
  rw [h6.1 35 (by omega) (by omega), h5.2 k hk, h6.2.2 k hk, h5.1 67 (by omega), h.2.2.2.2.2.2.2.2.2.2.2.2.2.1 k hk]
theorem Q5_u {I B ok : Nat → Nat → Int} {f : Int} (hb : frS I B) (ho : frS I ok) : Q5 I f (uI B f ok) := by
  unfold uI
  split
  · next h => exact ⟨fun i hi => ho i (by omega), fun k _ => by rw [ho 35 (by omega), if_neg (fun z => z.1 h), Int.add_zero]⟩
  · next h =>
    refine ⟨fun i hi => ?_, fun k _ => ?_⟩
    · unfold refI
      rw [zu_ne (by omega), hb i (by omega)]
    · unfold refI
      rw [hb 35 (by omega)]
      by_cases e : k = (-2 - f).toNat
      · rw [if_pos ⟨h, e⟩, e, zu_s]
      · rw [if_neg (fun z => e z.2), zu_n (fun z => e z.2), hb 35 (by omega), Int.add_zero]
theorem Q6_u {I B ok : Nat → Nat → Int} {f : Int} (hf : hF f) (hb : frR I B) (ho : frR I ok) : Q6 I f (uK B f ok) := by
  unfold uK
  split
  · next h => exact ⟨fun i h58 hi => ho.1 i h58 (by omega), fun k hk => ho.2 k (by omega), fun k _ => by rw [ho.1 67 (by omega) (by omega), if_neg (fun z => z.1 h), Int.add_zero]⟩
  · next h =>
    have hf2 := hf.resolve_left h
    refine ⟨fun i h58 hi => ?_, fun k hk => ?_, fun k _ => ?_⟩
    · unfold refR
      rw [zu_ne (by omega), hb.1 i h58 (by omega)]
    · unfold refR
      rw [zu_ne (by omega), hb.2 k (by omega)]
    · unfold refR
      rw [hb.1 67 (by omega) (by omega)]
      by_cases e : k = (-2 - f).toNat
      · have e2 : k + 2 = (-f).toNat := by omega
        rw [if_pos ⟨h, e⟩, ← e2, zu_s]
      · have e2 : ¬ k + 2 = (-f).toNat := by omega
        rw [if_neg (fun z => e z.2), zu_n (fun z => e2 z.2), hb.1 67 (by omega) (by omega), Int.add_zero]
theorem frS_zSq (I : Nat → Nat → Int) (p : SP) : frS I (zSq I 36 p) := fun i hi => by
  funext k
  simp only [zSq, zSp]
  rw [if_neg (by omega), if_neg (by omega)]
def vK (t : Option FieldType) (a : Value) : Prop := match t with
  | some .long => ∃ x, a = .long x
  | _ => ∃ x, a = .int x
/-- two calls, the class's and the reference's: the same answer, and the worlds stay related -/
def zPair (g : zG) (M5 : zM) (d5 : Nat) (M6 : zM) (d6 : Nat) (as : List Value) (σ : zSt) : Prop := ∃ (a : Value) (p5 : Option Value → zSt → Prop), vK M5.2.2.2 a ∧ zRuns g M5 d5 0 0 (.ref 0 :: as) σ p5 ∧ ∀ r σ', p5 r σ' → r = some a ∧ σ'.1 = LAY ∧ ∃ p6 : Option Value → zSt → Prop, zRuns g M6 d6 0 0 (.ref 58 :: as) σ' p6 ∧ ∀ r2 σ2, p6 r2 σ2 → r2 = some a ∧ ∃ I2 J2 q2, Rel I2 J2 q2 ∧ σ2 = zst I2 J2 q2
def RF (I A : Nat → Nat → Int) : Prop := ∀ i, 58 ≤ i → A i = I i
theorem pq {g : zG} {M5 M6 : zM} {d5 d6 : Nat} {as : List Value} {I : Nat → Nat → Int} {J : Nat → Nat → Int64} {q : Nat × Nat} {f : Int} {a : Value} {p5 : Option Value → zSt → Prop} (R : Rel I J q) (h5 : zRuns g M5 d5 0 0 (.ref 0 :: as) (zst I J q) p5) (k5 : ∀ r σ', p5 r σ' → r = some a ∧ ∃ A q1, isQ q1 ∧ Q5 I f A ∧ σ' = zst A J q1) (h6 : ∀ A q1, RF I A → ∃ p6 : Option Value → zSt → Prop, zRuns g M6 d6 0 0 (.ref 58 :: as) (zst A J q1) p6 ∧ ∀ r2 σ2, p6 r2 σ2 → r2 = some a ∧ ∃ B, Q6 A f B ∧ σ2 = zst B J q1) (hv : vK M5.2.2.2 a := by exact Exists.intro _ rfl) : zPair g M5 d5 M6 d6 as (zst I J q) := by
  refine ⟨a, p5, hv, h5, fun r σ' h => ?_⟩
  obtain ⟨e, A, q1, hq, hA, rfl⟩ := k5 r σ' h
  obtain ⟨p6, h7, h8⟩ := h6 A q1 (fun i hi => hA.1 i (Or.inr hi))
  refine ⟨e, rfl, p6, h7, fun r2 σ2 h9 => ?_⟩
  obtain ⟨e2, B, hB, rfl⟩ := h8 r2 σ2 h9
  exact ⟨e2, B, J, q1, Rel_Q R hq hA hB, rfl⟩
/-! the canonical world: the class's places are told as the reference's -/
def inC (i : Nat) : Bool := decide (i < 6) || (decide (i = 12) || decide (19 ≤ i ∧ i < 36))
def oI (I : Nat → Nat → Int) : Nat → Nat → Int := fun i => if inC i = true then VI I i else if i = 11 then (fun k => if k = 1 then I 58 12 else I 11 k) else if i = 13 then (fun k => if k < 5 ∨ k = 6 then I 13 k else 0) else if i = 16 then (fun k => if k < 2 then I 16 k else 0) else I i
def oJ (I : Nat → Nat → Int) (J : Nat → Nat → Int64) : Nat → Nat → Int64 := fun i => if i = 1 ∨ (19 ≤ i ∧ i < 36) then VJ I J i else J i
theorem oI_c {I : Nat → Nat → Int} {i : Nat} (h : inC i = true) : oI I i = VI I i := if_pos h
theorem oI_n {I : Nat → Nat → Int} {i : Nat} (h : inC i = false) (h2 : i ≠ 11 ∧ i ≠ 13 ∧ i ≠ 16) : oI I i = I i := by
  unfold oI
  rw [if_neg (by rw [h]; decide), if_neg h2.1, if_neg h2.2.1, if_neg h2.2.2]
theorem oI_58 {I : Nat → Nat → Int} {i : Nat} (h : 36 ≤ i) : oI I i = I i := oI_n (by unfold inC; simp; omega) (by omega)
theorem VI_fr {I A : Nat → Nat → Int} (h : RF I A) : VI A = VI I := by
  funext i k
  unfold VI
  rw [h 58 (by omega), h 60 (by omega), h 61 (by omega), h 62 (by omega), h 63 (by omega), h 67 (by omega), h 64 (by omega), h 65 (by omega)]
theorem VJ_fr {I A : Nat → Nat → Int} {J : Nat → Nat → Int64} (h : RF I A) : VJ A J = VJ I J := by
  funext i k
  unfold VJ
  rw [h 59 (by omega)]
theorem oI_RF {I : Nat → Nat → Int} : RF I (oI I) := fun i hi => oI_58 (by omega)
/-- the class's functions at the canonical world -/
def CAN (I : Nat → Nat → Int) (J : Nat → Nat → Int64) : Prop := (∀ i, inC i = true → I i = VI I i) ∧ I 11 1 = I 58 12 ∧ J 1 = VJ I J 1 ∧ (∀ i, 19 ≤ i → i < 36 → J i = VJ I J i) ∧ (∀ k, ¬ (k < 5 ∨ k = 6) → I 13 k = 0) ∧ ∀ k, 2 ≤ k → I 16 k = 0
theorem CAN_o {I : Nat → Nat → Int} {J : Nat → Nat → Int64} : CAN (oI I) (oJ I J) := by
  have hv : VI (oI I) = VI I := VI_fr oI_RF
  have hj : VJ (oI I) (oJ I J) = VJ I J := by
    rw [VJ_fr oI_RF]
    funext i k
    unfold VJ oJ
    rw [if_neg (show ¬ (66 = 1 ∨ (19 ≤ 66 ∧ 66 < 36)) by omega)]
  refine ⟨fun i hi => by rw [hv]; exact oI_c hi, ?_, by rw [hj]; exact if_pos (.inl rfl), fun i h1 h2 => by rw [hj]; exact if_pos (.inr ⟨h1, h2⟩), fun k hk => if_neg hk, fun k hk => if_neg (by omega)⟩
  rw [oI_58 (I := I) (i := 58) (by omega)]
  rfl
theorem gH_o {I : Nat → Nat → Int} (h : gH I 6) : gH (oI I) 6 := by
  unfold gH
  rw [oI_n (i := 6) rfl (by omega), oI_n (i := 6 + 1) rfl (by omega), oI_n (i := 6 + 2) rfl (by omega)]
  exact h
theorem gS_o {I : Nat → Nat → Int} (h : gS I 9) : gS (oI I) 9 := by
  unfold gS
  rw [oI_n (i := 9) rfl (by omega), oI_n (i := 9 + 1) rfl (by omega)]
  exact h
theorem AG_C {I : Nat → Nat → Int} {J : Nat → Nat → Int64} (C : CAN I J) : AG I J := by
  obtain ⟨c1, c2, c3, c4, -⟩ := C
  refine ⟨by rw [c1 0 rfl]; rfl, by rw [c1 1 rfl]; exact ⟨rfl, rfl, rfl, rfl, rfl, rfl⟩, fun e _ => by rw [c1 2 rfl, c1 3 rfl, c1 5 rfl]; exact ⟨rfl, rfl, rfl⟩, by rw [c1 4 rfl]; exact ⟨rfl, rfl⟩, ⟨c2, fun k _ => by rw [c1 12 rfl]; rfl⟩, fun k _ => by rw [c1 35 rfl]; rfl, fun s hs => ?_, by rw [c3]; rfl⟩
  have hi : inC (19 + 2 * s) = true := by unfold inC; simp; omega
  rw [c1 _ hi, VI_s0 hs, VI_s1 hs]
  exact ⟨rfl, rfl, fun j _ => by rw [c4 _ (by omega) (by omega), VJ_s hs]⟩
theorem Rel_o {I : Nat → Nat → Int} {J : Nat → Nat → Int64} {q : Nat × Nat} (h : Rel I J q) : Rel (oI I) (oJ I J) q := by
  obtain ⟨hq, r0, rl, rt, ri, rk, rg, rc, ra⟩ := h
  have e : ∀ i, 36 ≤ i → oI I i = I i := fun i hi => oI_58 hi
  refine ⟨hq, ?_, ?_, ?_, ?_, ?_, ⟨gH_o rg.1, gS_o rg.2⟩, fun z => ?_, AG_C CAN_o⟩
  · refine RV0_cg ⟨?_, ?_, ?_⟩ r0
    · rw [e 58 (by omega)]; exact ⟨rfl, rfl, rfl, rfl, rfl, rfl⟩
    · rw [e 59 (by omega)]; exact fun _ _ => rfl
    · rw [e 60 (by omega), e 61 (by omega), e 62 (by omega)]; exact fun _ _ => ⟨rfl, rfl, rfl⟩
  · unfold RLS gRL; rw [e 64 (by omega), e 65 (by omega), e 58 (by omega)]; exact rl
  · unfold gTR; rw [e 58 (by omega), e 63 (by omega)]; exact rt
  · rw [e 58 (by omega)]; exact ri
  · unfold K68; rw [e 68 (by omega)]; exact rk
  · rw [e 58 (by omega)] at z
    obtain ⟨K, k1, k2, k3⟩ := rc z
    refine ⟨K, k1, ?_, ?_⟩
    · unfold KA; rw [e 68 (by omega)]; exact k2
    · unfold KB
      rw [oI_n (i := 6) rfl (by omega), oI_n (i := 7) rfl (by omega), oI_n (i := 8) rfl (by omega), oI_n (i := 9) rfl (by omega), oI_n (i := 10) rfl (by omega), show oJ I J 6 = J 6 from if_neg (by omega)]
      exact k3
def tyAt (kd k : Nat) : Nat := if kd < 7 then (zft kd).getD k 9 else if kd = 8 then 1 else if kd = 7 ∨ kd = 9 then 0 else 2
theorem zHp_tail {g : zG} {σ σ' : zSt} (h1 : σ'.1 = σ.1) (hk : ∀ p ∈ σ.1, p.1 < 12 ∧ (p.1 < 7 → (zft p.1).length = p.2)) (hI : ∀ i k kd n, σ.1[i]? = some (kd, n) → k < n → tyAt kd k = 0 → σ.2.1 i k = σ'.2.1 i k) (hJ : ∀ i k kd n, σ.1[i]? = some (kd, n) → k < n → tyAt kd k = 1 → σ.2.2.1 i k = σ'.2.2.1 i k) (hR : ∀ i k kd n, σ.1[i]? = some (kd, n) → k < n → tyAt kd k = 2 → σ.2.2.2 i k = σ'.2.2.2 i k) (H : Heap) (hH : zHp g σ H) : zHp g σ' H := by
  refine ⟨by rw [h1]; exact hH.1, by rw [h1]; exact hH.2.1, by rw [h1]; exact hH.2.2.1, fun i kd hi => ?_⟩
  rw [h1] at hi
  have h2 := hH.2.2.2 i kd hi
  obtain ⟨kd, n⟩ := kd
  obtain ⟨k12, k7⟩ := hk _ (List.mem_of_getElem? hi)
  by_cases h7 : kd < 7
  · have hl : (zft kd).length = n := k7 h7
    simp only [zE, h7, if_true] at h2 ⊢
    have e : zfs g σ i (zft kd) 0 = zfs g σ' i (zft kd) 0 := by
      refine zfs_eq _ _ (fun j t ht => ?_)
      have hj := (List.getElem?_eq_some_iff.mp ht).1
      have hty : tyAt kd j = t := by
        unfold tyAt
        rw [if_pos h7, List.getD_eq_getElem?_getD, ht]
        rfl
      rw [Nat.zero_add]
      have ht3 : t = 0 ∨ t = 1 ∨ t = 2 := by
        have hm := List.mem_of_getElem? ht
        have : ∀ kd, kd < 7 → ∀ t ∈ zft kd, t = 0 ∨ t = 1 ∨ t = 2 := by decide +kernel
        exact this kd h7 t hm
      rcases ht3 with rfl | rfl | rfl
      · simp only [zfv]; rw [hI i j kd n hi (by omega) hty]
      · simp only [zfv]; rw [hJ i j kd n hi (by omega) hty]
      · simp only [zfv]; rw [hR i j kd n hi (by omega) hty]
    rw [← e]
    exact h2
  · rcases (show kd = 7 ∨ kd = 8 ∨ kd = 9 ∨ kd = 10 ∨ kd = 11 by omega) with rfl | rfl | rfl | rfl | rfl
    · rw [zE_7] at h2 ⊢
      show H[_]? = some (vp_cell _ _)
      have h3 : H[za g i]? = some (vp_cell _ _) := h2
      rw [h3, vp_cell_i, vp_cell_i]
      exact congrArg some (arrV_cong (fun j hj => by show Value.int (iI (σ.2.1 i j)) = Value.int (iI (σ'.2.1 i j)); rw [hI i j 7 n hi hj rfl]))
    · rw [zE_8] at h2 ⊢
      show H[_]? = some (vp_cell _ _)
      have h3 : H[za g i]? = some (vp_cell _ _) := h2
      rw [h3, vp_cell_l, vp_cell_l]
      exact congrArg some (arrV_cong (fun j hj => by show Value.long (σ.2.2.1 i j) = Value.long (σ'.2.2.1 i j); rw [hJ i j 8 n hi hj rfl]))
    · rw [zE_9] at h2 ⊢
      show H[_]? = some (vp_cell _ _)
      have h3 : H[za g i]? = some (vp_cell _ _) := h2
      rw [h3, vp_cell_i, vp_cell_i]
      exact congrArg some (arrV_cong (fun j hj => by show Value.int (iI (σ.2.1 i j)) = Value.int (iI (σ'.2.1 i j)); rw [hI i j 9 n hi hj rfl]))
    · rw [zE_10] at h2 ⊢
      show H[_]? = some (vp_cell _ _)
      have h3 : H[za g i]? = some (vp_cell _ _) := h2
      rw [h3, vp_cell_q, vp_cell_q]
      exact congrArg some (arrV_cong (fun j hj => by show va_rf ((σ.2.2.2 i j).map (za g)) = va_rf ((σ'.2.2.2 i j).map (za g)); rw [hR i j 10 n hi hj rfl]))
    · rw [zE_11] at h2 ⊢
      show H[_]? = some (vp_cell _ _)
      have h3 : H[za g i]? = some (vp_cell _ _) := h2
      rw [h3, vp_cell_q, vp_cell_q]
      exact congrArg some (arrV_cong (fun j hj => by show va_rf ((σ.2.2.2 i j).map (za g)) = va_rf ((σ'.2.2.2 i j).map (za g)); rw [hR i j 11 n hi hj rfl]))
theorem lay_ok : ∀ p ∈ LAY, p.1 < 12 ∧ (p.1 < 7 → (zft p.1).length = p.2) := fun p hp => ⟨lay_kd p hp, lay_ft p hp⟩
theorem lay_low : ∀ i, i < 36 → ∀ kd n, LAY[i]? = some (kd, n) → (kd, n) = LAY.getD i (0, 0) := fun i _ kd n h => by
  rw [List.getD_eq_getElem?_getD, h]
  rfl
theorem zst_can {g : zG} {I : Nat → Nat → Int} {J : Nat → Nat → Int64} {q : Nat × Nat} (h : AG I J) (H : Heap) (hH : zHp g (zst I J q) H) : zHp g (zst (oI I) (oJ I J) q) H := by
  obtain ⟨a0, a1, a2, a4, a6, a7, a8, a9⟩ := h
  refine zHp_tail (σ := zst I J q) (σ' := zst (oI I) (oJ I J) q) rfl lay_ok (fun i k kd n hi hk ht => ?_) (fun i k kd n hi hk ht => ?_) (fun i k kd n hi hk ht => rfl) H hH
  · have hi : LAY[i]? = some (kd, n) := hi
    show I i k = oI I i k
    by_cases hc : inC i = true
    · rw [oI_c hc]
      by_cases h19 : 19 ≤ i ∧ i < 35
      · by_cases hodd : i % 2 = 1
        · have e : i = 19 + 2 * ((i - 19) / 2) := by omega
          have hs : (i - 19) / 2 < 8 := by omega
          obtain ⟨s, hs2⟩ : ∃ s, s = (i - 19) / 2 := ⟨_, rfl⟩
          rw [← hs2] at e hs
          subst e
          have hl := lay_l (isL_of hs)
          rw [hl] at hi
          cases hi
          rcases (show k = 0 ∨ k = 1 ∨ k = 2 by omega) with rfl | rfl | rfl
          · rw [VI_s0 hs]; exact (a8 s hs).1
          · rw [VI_s1 hs]; exact (a8 s hs).2.1
          · exact absurd ht (by decide)
        · have e : i = 19 + 2 * ((i - 20) / 2) + 1 := by omega
          have hs : (i - 20) / 2 < 8 := by omega
          obtain ⟨s, hs2⟩ : ∃ s, s = (i - 20) / 2 := ⟨_, rfl⟩
          rw [← hs2] at e hs
          subst e
          have hl := lay_l1 (isL_of hs)
          rw [hl] at hi
          cases hi
          cases (show (1 : Nat) = 0 from ht)
      · have hi2 : i = 0 ∨ i = 1 ∨ i = 2 ∨ i = 3 ∨ i = 4 ∨ i = 5 ∨ i = 12 ∨ i = 35 := by
          unfold inC at hc
          simp only [Bool.or_eq_true, decide_eq_true_eq] at hc
          omega
        rcases hi2 with rfl | rfl | rfl | rfl | rfl | rfl | rfl | rfl
        · cases (show LAY[0]? = some (5, 8) from rfl).symm.trans hi
          rcases (show k = 0 ∨ k = 1 ∨ k = 2 ∨ k = 3 ∨ k = 4 ∨ k = 5 ∨ k = 6 ∨ k = 7 by omega) with rfl | rfl | rfl | rfl | rfl | rfl | rfl | rfl <;> first | exact absurd ht (by decide) | exact a0
        · cases (show LAY[1]? = some (0, 10) from rfl).symm.trans hi
          rcases (show k = 0 ∨ k = 1 ∨ k = 2 ∨ k = 3 ∨ k = 4 ∨ k = 5 ∨ k = 6 ∨ k = 7 ∨ k = 8 ∨ k = 9 by omega) with rfl | rfl | rfl | rfl | rfl | rfl | rfl | rfl | rfl | rfl
          · exact a1.1
          · exact a1.2.1
          · exact a1.2.2.1
          · exact a1.2.2.2.1
          · exact a1.2.2.2.2.1
          · exact absurd ht (by decide)
          · exact a1.2.2.2.2.2
          · exact absurd ht (by decide)
          · exact absurd ht (by decide)
          · exact absurd ht (by decide)
        · cases (show LAY[2]? = some (7, 5) from rfl).symm.trans hi
          exact (a2 k hk).1
        · cases (show LAY[3]? = some (7, 5) from rfl).symm.trans hi
          exact (a2 k hk).2.1
        · cases (show LAY[4]? = some (3, 3) from rfl).symm.trans hi
          rcases (show k = 0 ∨ k = 1 ∨ k = 2 by omega) with rfl | rfl | rfl
          · exact a4.1
          · exact a4.2
          · exact absurd ht (by decide)
        · cases (show LAY[5]? = some (7, 5) from rfl).symm.trans hi
          exact (a2 k hk).2.2
        · cases (show LAY[12]? = some (7, 250) from rfl).symm.trans hi
          exact a6.2 k hk
        · cases (show LAY[35]? = some (7, 5) from rfl).symm.trans hi
          exact a7 k hk
    · have hc := Bool.eq_false_iff.mpr hc
      by_cases h11 : i = 11
      · subst h11
        show I 11 k = if k = 1 then I 58 12 else I 11 k
        split
        · next e => rw [e]; exact a6.1
        · rfl
      · by_cases h13 : i = 13
        · subst h13
          cases (show LAY[13]? = some (0, 10) from rfl).symm.trans hi
          show I 13 k = if k < 5 ∨ k = 6 then I 13 k else 0
          split
          · rfl
          · next z =>
            rcases (show k = 5 ∨ k = 7 ∨ k = 8 ∨ k = 9 by omega) with rfl | rfl | rfl | rfl <;> exact absurd ht (by decide)
        · by_cases h16 : i = 16
          · subst h16
            cases (show LAY[16]? = some (3, 3) from rfl).symm.trans hi
            show I 16 k = if k < 2 then I 16 k else 0
            split
            · rfl
            · next z =>
              have z2 : k = 2 := by omega
              subst z2
              exact absurd ht (by decide)
          · rw [oI_n hc ⟨h11, h13, h16⟩]
  · have hi : LAY[i]? = some (kd, n) := hi
    show J i k = oJ I J i k
    by_cases h1 : i = 1
    · subst h1
      cases (show LAY[1]? = some (0, 10) from rfl).symm.trans hi
      rcases (show k = 0 ∨ k = 1 ∨ k = 2 ∨ k = 3 ∨ k = 4 ∨ k = 5 ∨ k = 6 ∨ k = 7 ∨ k = 8 ∨ k = 9 by omega) with rfl | rfl | rfl | rfl | rfl | rfl | rfl | rfl | rfl | rfl <;> first | exact absurd ht (by decide) | exact a9
    · by_cases h19 : 19 ≤ i ∧ i < 36
      · rw [show oJ I J i = VJ I J i from if_pos (.inr h19)]
        by_cases hodd : i % 2 = 1
        · by_cases h35 : i = 35
          · subst h35
            cases (show LAY[35]? = some (7, 5) from rfl).symm.trans hi
            cases (show (0 : Nat) = 1 from ht)
          · have e : i = 19 + 2 * ((i - 19) / 2) := by omega
            have hs : (i - 19) / 2 < 8 := by omega
            obtain ⟨s, hs2⟩ : ∃ s, s = (i - 19) / 2 := ⟨_, rfl⟩
            rw [← hs2] at e hs
            subst e
            have hl := lay_l (isL_of hs)
            rw [hl] at hi
            cases hi
            rcases (show k = 0 ∨ k = 1 ∨ k = 2 by omega) with rfl | rfl | rfl <;> exact absurd ht (by decide)
        · have e : i = 19 + 2 * ((i - 20) / 2) + 1 := by omega
          have hs : (i - 20) / 2 < 8 := by omega
          obtain ⟨s, hs2⟩ : ∃ s, s = (i - 20) / 2 := ⟨_, rfl⟩
          rw [← hs2] at e hs
          subst e
          have hl := lay_l1 (isL_of hs)
          rw [hl] at hi
          cases hi
          rw [VJ_s hs]
          exact (a8 s hs).2.2 k hk
      · rw [show oJ I J i = J i from if_neg (by omega)]
