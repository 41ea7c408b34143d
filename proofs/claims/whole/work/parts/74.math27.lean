/-! late, best, stand, shy, still as the reference does them -/
def latF (J : Nat → Nat → Int64) (s l : Nat) : Nat → Int := fun i => if i < l then 0 else tdF J s (i - l)
def cmP (J : Nat → Nat → Int64) (s : Nat) : Nat → Bool := fun k => !isCmd (J 66 (40 * s + k))
theorem cm_cmd {J : Nat → Nat → Int64} {s k : Nat} (h : firstN (cmP J s) k = none) : ∀ e, e < k → 0 ≤ tdF J s e ∧ tdF J s e ≤ 4 := by
  intro e he
  have h1 := firstN_none.mp h e he
  simp only [cmP, Bool.not_eq_false', isCmd, decide_eq_true_eq] at h1
  unfold tdF
  omega
theorem lat_cmd {J : Nat → Nat → Int64} {s l n : Nat} (h : firstN (cmP J s) n = none) : ∀ e, e < n + l → 0 ≤ latF J s l e ∧ latF J s l e ≤ 4 := by
  intro e he
  unfold latF
  split
  · omega
  · exact cm_cmd h _ (by omega)
theorem fcom_V {I : Nat → Nat → Int} {J : Nat → Nat → Int64} (h : gRL I) {s n l : Int} (hs : 0 ≤ s ∧ s < 8) (hn : 0 ≤ n ∧ n ≤ l) : fcomN (VI I) (VJ I J) s n l = if ¬ ntN I s.toNat n = 0 then ntN I s.toNat n else if firstN (cmP J s.toNat) n.toNat = none then 0 else -5 := by
  unfold fcomN
  rw [frow_V h hs hn, VJ_row (by omega)]
  rfl
theorem fcom_B {I : Nat → Nat → Int} {J : Nat → Nat → Int64} {s n l : Int} (h : ¬ ((0 ≤ s ∧ s < 8) ∧ 0 ≤ n ∧ n ≤ l)) : fcomN (VI I) (VJ I J) s n l = -2 := by
  unfold fcomN
  rw [frow_B h, if_pos (by decide)]
def bsV (I : Nat → Nat → Int) (c : Nat) : Int := penN (hvR I) (turnS (hvR I) (spR I) (c : Int)).2.2
def bsP (I : Nat → Nat → Int) (c : Nat) : Bool := canN (I 58 0) (maskW (I 59)) (I 58 2) (I 58 3) (c : Int)
def sdV (I : Nat → Nat → Int) (c : Nat) : Int := penN (hvR I) (turnS (hvR I) ((c : Int), I 58 4, I 62) 0).2.2
def sdP (I : Nat → Nat → Int) (c : Nat) : Bool := dogsN (I 58 0) (maskW (I 59)) (I 58 2) (c : Int)
theorem penR_b {I : Nat → Nat → Int} {C : Nat → Int} (hg : gR I) (hC : ∀ e, e < 5 → gC7 (C e)) : 0 ≤ penN (hvR I) C ∧ penN (hvR I) C ≤ 90 := by
  obtain ⟨g1, g2, g3, g4, g5, g6⟩ := hg
  have h1 := sumN_b (f := fun e => stp (C e) (I 58 2)) (b := 18) (k := (I 58 5).toNat) (fun e he => stp_r (by have := (hC e (by omega)).1; omega) (by have := g2.1; omega))
  show 0 ≤ sumN (fun e => stp (C e) (I 58 2)) (I 58 5).toNat ∧ sumN (fun e => stp (C e) (I 58 2)) (I 58 5).toNat ≤ 90
  omega
theorem gR_sp {I : Nat → Nat → Int} {p : SP} (h : gR I) : gR (zRq I p) := gR_q h
def shyR (I : Nat → Nat → Int) (w : Nat) : Int := shyF (fun (c : Nat) => sdP I c && !decide (goalN (hvR I) (c : Int) (I 62) w (I 60 w) = I 62 w)) (fun (c : Nat) => stp (I 62 w) (c : Int)) 67
theorem dogs_c {n : Int} {w : Int64} {pen c : Int} : dogsN n w pen c = (isCellN n c && (!wallL w c && !decide (c = pen))) := by
  unfold dogsN openN
  cases isCellN n c <;> cases wallL w c <;> cases decide (c = pen) <;> rfl
/-- how the ewes would go, THE DOG at a CELL -/
def mvD (I : Nat → Nat → Int) (c : Int) : Nat := bitsN (fun e => !decide ((turnS (hvR I) (c, I 58 4, I 62) 0).2.2 e = I 62 e)) (I 58 5).toNat
theorem mv_D {I : Nat → Nat → Int} {c : Int} : mvR (zRq I (c, I 58 4, I 62)) = mvD I c := by
  unfold mvR mvD
  rw [zRq_k (by decide) (by decide)]
  refine bitsN_cong (fun e he => ?_)
  unfold mvP
  rw [hvR_q]
  rfl
theorem mvD_lt {I : Nat → Nat → Int} {c : Int} (hg : gR I) : mvD I c < 32 := by
  obtain ⟨_, _, _, g4, _⟩ := hg
  exact Nat.lt_of_lt_of_le (bitsN_lt _ _) (Nat.pow_le_pow_right (n := 2) (by decide) (show (I 58 5).toNat ≤ 5 by omega))
def stillR (I : Nat → Nat → Int) (w : Int) : Int := if w = 0 then (stillF (sdP I) (fun (c : Nat) => bcI (mvD I (c : Int))) 67).1 else (stillF (sdP I) (fun (c : Nat) => bcI (mvD I (c : Int))) 67).2
/-- what the still calls leave: all as it was but THE DOG's CELL -/
def stI (I I2 : Nat → Nat → Int) : Prop := frR (zRq I (I2 58 3, I 58 4, I 62)) I2 ∧ I2 58 4 = I 58 4 ∧ I2 62 = I 62 ∧ gC7 (I2 58 3)
theorem stI_0 {I : Nat → Nat → Int} (h : gC7 (I 58 3)) : stI I I := by
  refine ⟨?_, rfl, rfl, h⟩
  have : zRq I (I 58 3, I 58 4, I 62) = I := zRq_self
  rw [this]
  exact frR_rf
theorem stI_g {I I2 : Nat → Nat → Int} (hg : gR I) (hr : gRS (spR I)) (h : stI I I2) : gR I2 ∧ gRS (spR I2) ∧ I2 58 0 = I 58 0 ∧ I2 58 2 = I 58 2 ∧ I2 59 = I 59 := by
  obtain ⟨h1, h2, h3, h4⟩ := h
  refine ⟨frR_gR h1 (gR_q hg), ?_, ?_, ?_, ?_⟩
  · rw [frR_sp h1, zRq_sp]
    exact ⟨h4, hr.2.1, hr.2.2⟩
  · rw [h1.2 0 (by omega), zRq_k (by decide) (by decide)]
  · rw [h1.2 2 (by omega), zRq_k (by decide) (by decide)]
  · rw [frR_i h1 (by decide) (by decide), zRq_n (by decide) (by decide)]
theorem mvR_fr {A I3 : Nat → Nat → Int} (h : frR A I3) : mvR I3 = mvR A := by
  unfold mvR
  rw [h.2 5 (by omega)]
  refine bitsN_cong (fun e he => ?_)
  unfold mvP
  rw [frR_hv h, frR_sp h, frR_i h (by decide) (by decide)]
theorem stI_q {I I2 : Nat → Nat → Int} {c : Int} (h : stI I I2) : frR (zRq I (c, I 58 4, I 62)) (zRq I2 (c, I 58 4, I 62)) := by
  have := frR_q (p := (c, I 58 4, I 62)) h.1
  rw [zRq_zRq] at this
  exact this
theorem stI_s {I I3 : Nat → Nat → Int} {c : Int} (h : frR (zRq I (c, I 58 4, I 62)) I3) (hc : gC7 c) : stI I (svI I3 0 (spR I3)) := by
  have e3 : svI I3 0 (spR I3) 58 3 = c := by rw [svI_n (by decide), h.2 3 (by omega)]; rfl
  have e4 : svI I3 0 (spR I3) 58 4 = I 58 4 := by rw [svI_n (by decide), h.2 4 (by omega)]; rfl
  have e62 : svI I3 0 (spR I3) 62 = I 62 := by rw [svI_n (by decide), frR_i h (by decide) (by decide)]; rfl
  refine ⟨?_, e4, e62, by rw [e3]; exact hc⟩
  rw [e3]
  exact frR_tr h frR_sv
theorem frR_st {I I2 : Nat → Nat → Int} (h : stI I I2) : frR I (zu I2 58 3 (I 58 3)) := by
  rw [zu583, h.2.1, h.2.2.1]
  have := stI_q (c := I 58 3) h
  rw [show zRq I (I 58 3, I 58 4, I 62) = I from zRq_self] at this
  exact this
