/-! what the class says of told rows, in numbers -/
def cellsOk (n : Int) (f : Nat → Int64) (k : Nat) : Bool := decide (0 ≤ (f k).toInt ∧ (f k).toInt < 67) && isCellN n (f k).toInt
/-- of a EWE told to go so, THE DOG told: its CELL behind k of them, where it went so -/
def sogoP (H : HV) (C : Nat → Int) (w : Nat) (kd : Int) (f h : Nat → Int64) : Nat → Nat → Int
  | 0 => C
  | k + 1 => up1 (sogoP H C w kd f h k) w (h k).toInt
def sogoN (H : HV) (C : Nat → Int) (w : Nat) (kd : Int) (f h : Nat → Int64) (k : Nat) : Bool := decide (goalN H (f k).toInt (sogoP H C w kd f h k) w kd = (h k).toInt)
theorem sogoP_r {H : HV} {C : Nat → Int} {w : Nat} {kd : Int} {f h : Nat → Int64} {m : Nat} (hC : ∀ e, e < 5 → 0 ≤ C e ∧ C e ≤ 66) (hh : ∀ k, k < m → 0 ≤ (h k).toInt ∧ (h k).toInt ≤ 66) : ∀ k, k ≤ m → ∀ e, e < 5 → 0 ≤ sogoP H C w kd f h k e ∧ sogoP H C w kd f h k e ≤ 66 := by
  intro k
  induction k with
  | zero => intro _ e he; exact hC e he
  | succ k ih =>
    intro hk e he
    simp only [sogoP, up1]
    split
    · exact hh k (by omega)
    · exact ih (by omega) e he
theorem i2l_toInt {a : Int} (h : -2147483648 ≤ a ∧ a ≤ 2147483647) : (iI a).toInt64.toInt = a := by
  rw [Int32.toInt_toInt64, iI_toInt h.1 h.2]
/-- lost COMMANDS (bits): what is done at k, how many ways -/
def lostAt (lost k : Nat) : Bool := decide (lost / 2 ^ k % 2 = 1)
def lostS (H : HV) (p : SP) (f : Nat → Int64) (lost : Nat) : Nat → SP
  | 0 => p
  | k + 1 => turnS H (lostS H p f lost k) (if lostAt lost k then (lostS H p f lost k).2.1 else (f k).toInt)
def lostW (wind : Int) (lost : Nat) : Nat → Int64
  | 0 => 1
  | k + 1 => lostW wind lost k * (iI (if lostAt lost k then wind else 12 - wind)).toInt64
theorem gP_lost {I : Nat → Nat → Int} {J : Nat → Nat → Int64} {h : Nat} {p : SP} {f : Nat → Int64} {lost : Nat} (hg : gH I h) (hp : gP p) : ∀ k, (∀ e, e < k → 0 ≤ (f e).toInt ∧ (f e).toInt ≤ 4) → gP (lostS (hv I J h) p f lost k)
  | 0, _ => hp
  | k + 1, h2 => by
    have h3 := gP_lost (J := J) (lost := lost) hg hp k (fun e he => h2 e (by omega))
    have h4 := h2 k (by omega)
    refine gP_turn hg h3 ?_
    split
    · exact h3.2.1
    · exact h4
theorem iI_shr {a k : Nat} (ha : a < 2 ^ 31) (hk : k < 31) : iI (a : Int) >>> (iI (k : Int) &&& 31) = iI ((a / 2 ^ k : Nat) : Int) := by
  rw [← iI_nI, ← iI_nI]
  refine pk_shrN ha (nI k &&& 31) k ?_
  have : ∀ k, k < 31 → ((nI k &&& 31).toBitVec.smod 32).toNat = k := by decide +kernel
  exact this k hk
theorem iI_and1 {a : Nat} (ha : a < 2 ^ 31) : iI (a : Int) &&& iI 1 = iI ((a % 2 : Nat) : Int) := by
  have := pk_andN (n := a) (by omega) (m := iI 1) 1 (by decide)
  rw [← iI_nI, this]
  rfl
theorem firstN_lt {P : Nat → Bool} {n e : Nat} (h : firstN P n = some e) : e < n ∧ P e = true := by
  induction n with
  | zero => simp [firstN] at h
  | succ n ih =>
    simp only [firstN] at h
    cases h2 : firstN P n with
    | some x =>
      rw [h2] at h
      cases h
      have := ih h2
      exact ⟨by omega, this.2⟩
    | none =>
      rw [h2] at h
      simp only at h
      split at h
      · cases h
        exact ⟨by omega, by assumption⟩
      · cases h
theorem wrongN_r {n : Int} {w : Int64} {pen dog : Int} {f : Nat → Int64} {m : Nat} (hm : m ≤ 40) : -2147483648 ≤ wrongN n w pen dog f m ∧ wrongN n w pen dog f m ≤ 2147483647 := by
  unfold wrongN
  cases h : firstN (wrongP n w pen dog f) m with
  | none => simp
  | some e =>
    have := (firstN_lt h).1
    simp only
    omega
