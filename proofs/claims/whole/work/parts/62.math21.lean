/-! the reference's world, told at the class's own places -/
def VI (I : Nat → Nat → Int) : Nat → Nat → Int := fun i k =>
  if i = 0 then (if k = 2 then I 58 22 else 0)
  else if i = 1 then (if k = 0 then I 58 0 else if k = 1 then I 58 2 else if k = 2 then I 58 9 else if k = 3 then I 58 10 else if k = 4 then I 58 11 else if k = 6 then I 58 5 else 0)
  else if i = 2 then I 60 k else if i = 3 then I 61 k
  else if i = 4 then (if k = 0 then I 58 3 else if k = 1 then I 58 4 else 0)
  else if i = 5 then I 62 k
  else if i = 11 then (if k = 1 then I 58 12 else 0)
  else if i = 12 then I 63 k
  else if i = 35 then I 67 (k + 2)
  else if 19 ≤ i ∧ i < 35 ∧ i % 2 = 1 then (if k = 0 then I 64 ((i - 19) / 2) else if k = 1 then I 65 ((i - 19) / 2) else 0)
  else 0
def VJ (I : Nat → Nat → Int) (J : Nat → Nat → Int64) : Nat → Nat → Int64 := fun i k =>
  if i = 1 then (if k = 5 then maskW (I 59) else 0)
  else if 20 ≤ i ∧ i < 36 ∧ i % 2 = 0 then J 66 (40 * ((i - 20) / 2) + k)
  else 0
theorem VI_s0 {I : Nat → Nat → Int} {k : Nat} (h : k < 8) : VI I (19 + 2 * k) 0 = I 64 k := by
  unfold VI
  rw [if_neg (by omega), if_neg (by omega), if_neg (by omega), if_neg (by omega), if_neg (by omega), if_neg (by omega), if_neg (by omega), if_neg (by omega), if_neg (by omega), if_pos (by omega), if_pos rfl, show (19 + 2 * k - 19) / 2 = k by omega]
theorem VI_s1 {I : Nat → Nat → Int} {k : Nat} (h : k < 8) : VI I (19 + 2 * k) 1 = I 65 k := by
  unfold VI
  rw [if_neg (by omega), if_neg (by omega), if_neg (by omega), if_neg (by omega), if_neg (by omega), if_neg (by omega), if_neg (by omega), if_neg (by omega), if_neg (by omega), if_pos (by omega), if_neg (by omega), if_pos rfl, show (19 + 2 * k - 19) / 2 = k by omega]
theorem VJ_s {I : Nat → Nat → Int} {J : Nat → Nat → Int64} {k i : Nat} (h : k < 8) : VJ I J (19 + 2 * k + 1) i = J 66 (40 * k + i) := by
  unfold VJ
  rw [if_neg (by omega), if_pos (by omega), show (19 + 2 * k + 1 - 20) / 2 = k by omega]
def gRL (I : Nat → Nat → Int) : Prop := ∀ k, k < 8 → (-1 ≤ I 64 k ∧ I 64 k ≤ 14) ∧ (0 ≤ I 65 k ∧ I 65 k ≤ 40) ∧ (I 64 k < 5 ∨ 10 ≤ I 64 k)
theorem VI_gH {I : Nat → Nat → Int} (h : gR I) : gH (VI I) 1 := by
  obtain ⟨h1, h2, h3, h4, h5, h6, h7⟩ := h
  exact ⟨h1, h2.1, h3, h4, h5, h6⟩
theorem VI_gS {I : Nat → Nat → Int} (h : gRS (spR I)) : gS (VI I) 4 := ⟨h.1.1, h.2.1, fun e he => (h.2.2 e he).1⟩
theorem VI_hv {I : Nat → Nat → Int} {J : Nat → Nat → Int64} : hv (VI I) (VJ I J) 1 = hvR I := rfl
theorem VI_sp {I : Nat → Nat → Int} : spOf (VI I) 4 = spR I := rfl
theorem bI_d {p q : Prop} [Decidable p] [Decidable q] (h : p ↔ q) : bI (decide p) = bI (decide q) := by rw [decide_eq_decide.mpr h]
/-- a refusal of the reference -/
def refR (I : Nat → Nat → Int) (x : Int) : Nat → Nat → Int := zu I 67 (-x).toNat (I 67 (-x).toNat + 1)
def uK (I : Nat → Nat → Int) (f : Int) (ok : Nat → Nat → Int) : Nat → Nat → Int := if f = 0 then ok else refR I f
theorem uK0 {I : Nat → Nat → Int} {f : Int} {ok : Nat → Nat → Int} (h : f = 0) : uK I f ok = ok := if_pos h
theorem uKc {I : Nat → Nat → Int} {f c : Int} {ok : Nat → Nat → Int} (h : f = c) (hc : c ≠ 0) : uK I f ok = refR I c := by subst h; exact if_neg hc
def noRN (I : Nat → Nat → Int) (s : Nat) : Int := if 10 ≤ I 64 s then -3 else if I 64 s < 0 then -4 else 0
theorem i64_10 {x : Int64} (h : 0 ≤ x.toInt) : (x / 10).toInt = x.toInt / 10 ∧ (x - x / 10 * 10).toInt = x.toInt % 10 := by
  have h1 : (x / 10).toInt = x.toInt / 10 := by
    rw [Int64.toInt_div_of_ne_right _ _ (by decide), show (10 : Int64).toInt = 10 from rfl, Int.tdiv_eq_ediv_of_nonneg h]
  have hx := x.toInt_lt
  refine ⟨h1, ?_⟩
  rw [Int64.toInt_sub, Int64.toInt_mul, h1, show (10 : Int64).toInt = 10 from rfl]
  rw [show (x.toInt / 10 * 10).bmod (2 ^ 64) = x.toInt / 10 * 10 from Int.bmod_eq_of_le (by omega) (by omega)]
  rw [Int.bmod_eq_of_le (by omega) (by omega)]
  omega
theorem isCellL {n : Int} {x : Int64} (hn : 3 ≤ n ∧ n ≤ 7) : isCellN n x.toInt = decide (0 ≤ x.toInt ∧ x.toInt / 10 < n ∧ x.toInt % 10 < n) := rfl
/-- k places of a row of longs, from a on, hold v -/
def zfr (J : Nat → Nat → Int64) (a k : Nat) : Nat → Nat → Int64 := fun i j => if i = 66 ∧ a ≤ j ∧ j < a + k then 0 else J i j
theorem zfr_0 {J : Nat → Nat → Int64} {a : Nat} : zfr J a 0 = J := by
  funext i j
  simp only [zfr]
  rw [if_neg (by omega)]
theorem zfr_s {J : Nat → Nat → Int64} {a k : Nat} : zu (zfr J a k) 66 (a + k) 0 = zfr J a (k + 1) := by
  funext i j
  simp only [zu, zfr]
  by_cases h : i = 66 ∧ j = a + k
  · rw [if_pos h, if_pos (by omega)]
  · rw [if_neg h]
    by_cases h2 : i = 66 ∧ a ≤ j ∧ j < a + k
    · rw [if_pos h2, if_pos (by omega)]
    · rw [if_neg h2, if_neg (by omega)]
