theorem mayWN_V {I : Nat → Nat → Int} {c : Int} : mayWN (VI I) 1 c = (isCellN (I 58 0) c && (!decide (c = I 58 2) && (!decide (c = I 58 3) && !eweAtN (I 62) c (I 58 5).toNat))) := congrArg (fun x => x) rfl
theorem mayPN_V {I : Nat → Nat → Int} {J : Nat → Nat → Int64} {c : Int} : mayPN (VI I) (VJ I J 1 5) 1 c = (openN (I 58 0) (maskW (I 59)) c && (!decide (c = I 58 3) && (!eweAtN (I 62) c (I 58 5).toNat && !eweAtN (I 62) (I 58 2) (I 58 5).toNat))) := congrArg (fun x => x) rfl
theorem VJ_15 {I : Nat → Nat → Int} {J : Nat → Nat → Int64} : VJ I J 1 5 = maskW (I 59) := congrArg (fun x => x) rfl
theorem VI_2 {I : Nat → Nat → Int} : VI I 2 = I 60 := congrArg (fun x => x) rfl
theorem VI_3 {I : Nat → Nat → Int} : VI I 3 = I 61 := congrArg (fun x => x) rfl
theorem VI_5 {I : Nat → Nat → Int} : VI I 5 = I 62 := congrArg (fun x => x) rfl
theorem VI_12 {I : Nat → Nat → Int} : VI I 12 = I 63 := rfl
theorem wallMi {f : Nat → Int} {c : Int} (h : gC7 c) : wallL (maskW f) c = decide (f c.toNat = 1) := by
  obtain ⟨⟨h1, h2⟩, h3⟩ := h
  have := wallM (f := f) (c := c.toNat) (by omega) (by omega)
  rw [show ((c.toNat : Nat) : Int) = c by omega] at this
  exact this
theorem cnt_0 {P : Nat → Bool} {n : Nat} : cnt P n = 0 ↔ ∀ e, e < n → P e = false := by
  induction n with
  | zero => simp [cnt]
  | succ n ih =>
    have h0 := (cnt_r P n).1
    simp only [cnt]
    constructor
    · intro h e he
      have h1 : bI (P n) = 0 := by rcases bI_01 (P n) with q | q <;> omega
      have h2 := ih.mp (by omega)
      by_cases q : e = n
      · subst q
        cases hp : P e with
        | false => rfl
        | true => rw [hp] at h1; exact absurd h1 (by decide)
      · exact h2 e (by omega)
    · intro h
      rw [ih.mpr (fun e he => h e (by omega)), h n (by omega)]
      rfl
theorem in_0 {I : Nat → Nat → Int} : inN (hvR I) (I 62) = 0 ↔ eweAtN (I 62) (I 58 2) (I 58 5).toNat = false := by
  show cnt (fun e => decide (I 62 e = I 58 2)) (I 58 5).toNat = 0 ↔ _
  rw [cnt_0]
  constructor
  · intro h
    refine Bool.eq_false_iff.mpr (fun q => ?_)
    obtain ⟨e, h1, h2⟩ := (eweAtN_iff _ _ _).mp q
    have := h e h1
    rw [h2] at this
    simp at this
  · intro h e he
    refine decide_eq_false (fun q => ?_)
    have := (eweAtN_iff (I 62) (I 58 2) (I 58 5).toNat).mpr ⟨e, he, q⟩
    rw [h] at this
    cases this
theorem in_r {I : Nat → Nat → Int} (hg : gR I) : 0 ≤ inN (hvR I) (I 62) ∧ inN (hvR I) (I 62) ≤ 5 := by
  have h := cnt_r (fun e => decide (I 62 e = I 58 2)) (I 58 5).toNat
  have h2 : (I 58 5).toNat ≤ 5 := by have := hg.2.2.2.1; omega
  show 0 ≤ cnt (fun e => decide (I 62 e = I 58 2)) (I 58 5).toNat ∧ cnt (fun e => decide (I 62 e = I 58 2)) (I 58 5).toNat ≤ 5
  omega
theorem again_t {C : Nat → Int} {I : Nat → Nat → Int} {d : Nat} {p : SP} (h : svAt I d p) (e : Nat) (he : e < 5) : cpK C (fun e => I 70 (7 * d + 2 + e)) 5 e = p.2.2 e := by
  unfold cpK
  rw [if_pos he]
  exact h.2.2 e he
theorem bsN_o {n : Int} {w : Int64} {c : Int} {k : Nat} (hn : n ≤ 7) : bsN n w c k = -1 ↔ openN n w (c + shN k) = false := by
  unfold bsN
  constructor
  · intro h
    refine Bool.eq_false_iff.mpr (fun q => ?_)
    rw [if_pos q] at h
    have := (gC7_o hn q).1.1
    omega
  · intro h
    rw [h]
    exact if_neg (by decide)
theorem gR_t1 {I : Nat → Nat → Int} {v : Int} (h : gR I) : gR (zu I 58 10 v) := h
theorem zRq_svs {I : Nat → Nat → Int} {d : Nat} : zRq (svI I d (spR I)) (spR I) = svI I d (spR I) := by
  have := zRq_self (I := svI I d (spR I))
  rw [spR_sv] at this
  exact this
