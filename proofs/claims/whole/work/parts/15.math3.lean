/-! more of a turn, in numbers -/
theorem iI_or {a b : Nat} (ha : a < 2 ^ 31) (hb : b < 2 ^ 31) : iI (a : Int) ||| iI (b : Int) = iI ((a ||| b : Nat) : Int) := by
  apply Int32.toBitVec_inj.mp
  show BitVec.ofInt 32 a ||| BitVec.ofInt 32 b = BitVec.ofInt 32 ((a ||| b : Nat) : Int)
  rw [BitVec.ofInt_natCast, BitVec.ofInt_natCast, BitVec.ofInt_natCast]
  apply BitVec.eq_of_toNat_eq
  rw [BitVec.toNat_or, BitVec.toNat_ofNat, BitVec.toNat_ofNat, BitVec.toNat_ofNat]
  have h1 : a ||| b < 2 ^ 31 := Nat.or_lt_two_pow ha hb
  rw [Nat.mod_eq_of_lt (by omega), Nat.mod_eq_of_lt (by omega), Nat.mod_eq_of_lt (by omega)]
theorem iI_bit {b : Nat} {k : Nat} (hb : b < 2 ^ k) (hk : k < 31) : iI (b : Int) ||| iI ((2 ^ k : Nat) : Int) = iI ((b + 2 ^ k : Nat) : Int) := by
  have h2 : (2 : Nat) ^ k < 2 ^ 31 := Nat.pow_lt_pow_right (by omega) hk
  rw [iI_or (by omega) h2]
  congr 2
  have := Nat.two_pow_add_eq_or_of_lt hb 1
  rw [Nat.mul_one] at this
  rw [Nat.or_comm, ← this, Nat.add_comm]
theorem iI_sh1 {k : Nat} (hk : k < 31) : iI 1 <<< (iI (k : Int) &&& 31) = iI ((2 ^ k : Nat) : Int) := by
  have h : ∀ k, k < 31 → iI 1 <<< (iI ((k : Nat) : Int) &&& 31) = iI ((2 ^ k : Nat) : Int) := by decide +kernel
  exact h k hk
/-- bits, as a number -/
def bitsN (P : Nat → Bool) : Nat → Nat
  | 0 => 0
  | k + 1 => bitsN P k + (if P k then 2 ^ k else 0)
theorem bitsN_lt (P : Nat → Bool) (k : Nat) : bitsN P k < 2 ^ k := by
  induction k with
  | zero => simp [bitsN]
  | succ k ih =>
    simp only [bitsN, Nat.pow_succ]
    split <;> omega
theorem bitsN_step {P : Nat → Bool} {k : Nat} (hk : k < 31) (h : P k = true) : iI (bitsN P k : Int) ||| iI ((2 ^ k : Nat) : Int) = iI (bitsN P (k + 1) : Int) := by
  rw [iI_bit (bitsN_lt P k) hk]
  simp [bitsN, h]
theorem bitsN_no {P : Nat → Bool} {k : Nat} (h : P k = false) : bitsN P (k + 1) = bitsN P k := by simp [bitsN, h]
theorem bitsN_cong {P Q : Nat → Bool} {n : Nat} (h : ∀ e, e < n → P e = Q e) : bitsN P n = bitsN Q n := by
  induction n with
  | zero => rfl
  | succ n ih => simp only [bitsN]; rw [ih (fun e he => h e (by omega)), h n (by omega)]
theorem cnt_cong {P Q : Nat → Bool} {n : Nat} (h : ∀ e, e < n → P e = Q e) : cnt P n = cnt Q n := by
  induction n with
  | zero => rfl
  | succ n ih => simp only [cnt]; rw [ih (fun e he => h e (by omega)), h n (by omega)]
theorem stp_0 {c d : Int} (hc : 0 ≤ c ∧ c ≤ 99) (hd : 0 ≤ d ∧ d ≤ 99) : stp c d ≤ 0 ↔ c = d := by
  unfold stp iabs
  constructor
  · intro h; omega
  · intro h; subst h; omega
def withinN (H : HV) (C : Nat → Int) (l : Int) : Int := cnt (fun e => decide (stp (C e) H.2.2.1 ≤ l * tmN (H.2.2.2.2.1 e).toNat)) H.2.2.2.1.toNat
def inN (H : HV) (C : Nat → Int) : Int := cnt (fun e => decide (C e = H.2.2.1)) H.2.2.2.1.toNat
def penN (H : HV) (C : Nat → Int) : Int := sumN (fun e => stp (C e) H.2.2.1) H.2.2.2.1.toNat
theorem sum_r {f : Nat → Int} {n : Nat} (h : ∀ e, e < n → 0 ≤ f e ∧ f e ≤ 18) : 0 ≤ sumN f n ∧ sumN f n ≤ 18 * n := by
  induction n with
  | zero => simp [sumN]
  | succ n ih =>
    have h1 := ih (fun e he => h e (by omega))
    have h2 := h n (by omega)
    simp only [sumN]
    omega
theorem goalN_r {I : Nat → Nat → Int} {J : Nat → Nat → Int64} {h : Nat} {dog : Int} {C : Nat → Int} {w : Nat} {kd : Int} (hg : gH I h) (hC : ∀ e, e < 5 → 0 ≤ C e ∧ C e ≤ 66) (hw : w < 5) : 0 ≤ goalN (hv I J h) dog C w kd ∧ goalN (hv I J h) dog C w kd ≤ 66 := by
  obtain ⟨g1, g2, g3, g4, g5, g6⟩ := hg
  unfold goalN
  refine git_r (show I h 0 ≤ 7 from g1.2) (hC w hw) ?_ _
  unfold markN
  split
  · show -1 ≤ I h 1 ∧ I h 1 ≤ 66
    omega
  · exact leadN_r (by show (I h 6).toNat ≤ 5; omega) hC
theorem turnC_r {I : Nat → Nat → Int} {J : Nat → Nat → Int64} {h : Nat} {dog : Int} {C : Nat → Int} (hg : gH I h) (hC : ∀ e, e < 5 → 0 ≤ C e ∧ C e ≤ 66) : ∀ k, k ≤ 5 → ∀ e, e < 5 → 0 ≤ turnC (hv I J h) dog C k e ∧ turnC (hv I J h) dog C k e ≤ 66 := by
  intro k
  induction k with
  | zero => intro _ e he; exact hC e he
  | succ k ih =>
    intro hk e he
    simp only [turnC, up1]
    split
    · exact goalN_r hg (ih (by omega)) (by omega)
    · exact ih (by omega) e he
theorem dogN_r {I : Nat → Nat → Int} {J : Nat → Nat → Int64} {h : Nat} {dog c : Int} (hg : gH I h) (hd : 0 ≤ dog ∧ dog ≤ 66) : 0 ≤ dogN (hv I J h) dog c ∧ dogN (hv I J h) dog c ≤ 66 := by
  unfold dogN
  split
  · rename_i h1
    simp only [canN, Bool.or_eq_true, decide_eq_true_eq] at h1
    rcases h1 with h1 | h1
    · subst h1
      show 0 ≤ dog + shN 0 ∧ dog + shN 0 ≤ 66
      simp [shN]
      exact hd
    · simp only [dogsN, Bool.and_eq_true] at h1
      exact openN_r hg.1.2 h1.2
  · exact hd
/-- the cells behind a TURN -/
def goneC (H : HV) (dog c : Int) (C : Nat → Int) : Nat → Int := turnC H (dogN H dog c) C H.2.2.2.1.toNat
