/-! what a hill is, in numbers -/
def iabs (x : Int) : Int := max x (-x)
def stp (c d : Int) : Int := iabs (c / 10 - d / 10) + iabs (c % 10 - d % 10)
theorem stp_r {c d : Int} (hc : 0 ≤ c ∧ c ≤ 99) (hd : 0 ≤ d ∧ d ≤ 99) : 0 ≤ stp c d ∧ stp c d ≤ 18 := by
  unfold stp iabs
  omega
def isCellN (n c : Int) : Bool := decide (0 ≤ c ∧ c / 10 < n ∧ c % 10 < n)
def bitL (c : Int) : Int64 := 1 <<< ((iI (c / 10 * 8 + c % 10)).toInt64 &&& 63)
def wallL (w : Int64) (c : Int) : Bool := !decide (w &&& bitL c = 0)
def openN (n : Int) (w : Int64) (c : Int) : Bool := isCellN n c && !wallL w c
def dogsN (n : Int) (w : Int64) (pen c : Int) : Bool := !decide (c = pen) && openN n w c
/-- some EWE of the first k is at a CELL -/
def eweAtN (cells : Nat → Int) (c : Int) : Nat → Bool
  | 0 => false
  | k + 1 => eweAtN cells c k || decide (cells k = c)
theorem eweAtN_iff (cells : Nat → Int) (c : Int) (k : Nat) : eweAtN cells c k = true ↔ ∃ e, e < k ∧ cells e = c := by
  induction k with
  | zero => simp [eweAtN]
  | succ k ih =>
    simp only [eweAtN, Bool.or_eq_true, ih, decide_eq_true_eq]
    constructor
    · rintro (⟨e, h1, h2⟩ | h)
      · exact ⟨e, by omega, h2⟩
      · exact ⟨k, by omega, h⟩
    · rintro ⟨e, h1, h2⟩
      by_cases h : e = k
      · subst h; exact Or.inr h2
      · exact Or.inl ⟨e, by omega, h2⟩
/-- a Hill whose numbers may be -/
def gH (I : Nat → Nat → Int) (h : Nat) : Prop := (3 ≤ I h 0 ∧ I h 0 ≤ 7) ∧ (0 ≤ I h 1 ∧ I h 1 ≤ 66) ∧ (0 ≤ I h 2 ∧ I h 2 ≤ 12) ∧ (0 ≤ I h 6 ∧ I h 6 ≤ 5) ∧ (∀ e, e < 5 → 0 ≤ I (h + 1) e ∧ I (h + 1) e ≤ 5) ∧ (∀ e, e < 5 → 0 ≤ I (h + 2) e ∧ I (h + 2) e ≤ 9)
def gS (I : Nat → Nat → Int) (s : Nat) : Prop := (0 ≤ I s 0 ∧ I s 0 ≤ 66) ∧ (0 ≤ I s 1 ∧ I s 1 ≤ 4) ∧ (∀ e, e < 5 → 0 ≤ I (s + 1) e ∧ I (s + 1) e ≤ 66)
/-! Math.abs, Math.max by the kit's rows -/
section ZMA
variable {g : zG} {X : zX} {M : zM} {d mc ms nc ns : Nat} {σ : zSt} {pc : Nat} {L : List (Nat × Value)} {S : List Value} {idx : Nat}
theorem z_mmax (C : zC g X M d mc ms) (hlk : Cond.methodLink M.1.cls idx yJ9_max_7cf53 ∈ zTb) {a b : Int} (ha : -2147483648 ≤ a ∧ a ≤ 2147483647) (hb : -2147483648 ≤ b ∧ b ≤ 2147483647) (h1 : 1 ≤ d) (hc : nc ≤ mc) (hs : ns ≤ ms) (hw : (S.map fun v => v.category).sum ≤ 8) (hd : decode M.2.1 pc = .ok (.invokestatic idx, 3)) (k : zZ g X nc ns σ (pc + 3) L (.int (iI (max a b)) :: S)) : zZ g X nc ns σ pc L (.int (iI b) :: .int (iI a) :: S) := by
  intro H locs ls hH hS hl
  have hts := C.2.2.2.2.1
  have hr := C.2.2.2.2.2.2.2.1
  have hq := C.2.2.2.2.2.2.2.2.1
  refine va_mmax C.1 C.2.1 (hl.1.symm) C.2.2.2.1 (hts _ hlk) (hts _ sJ9_max_7cf53) (hts _ oJ9_max_7cf53.2.1) (hts _ oJ9_max_7cf53.1) (by omega) (by rw [zcat]; omega) (by omega) (by omega) hd ?_
  have e : (if iI a < iI b then iI b else iI a) = iI (max a b) := by
    by_cases h : a < b
    · rw [if_pos ((iI_lt ha hb).mpr h), show max a b = b by omega]
    · rw [if_neg (fun z => h ((iI_lt ha hb).mp z)), show max a b = a by omega]
  rw [e]
  exact k H locs ls hH hS hl
theorem z_mabs (C : zC g X M d mc ms) (hlk : Cond.methodLink M.1.cls idx yJ9_abs_0f7a4 ∈ zTb) {a : Int} (ha : -2147483647 ≤ a ∧ a ≤ 2147483647) (h1 : 1 ≤ d) (hc : nc ≤ mc) (hs : ns ≤ ms) (hw : (S.map fun v => v.category).sum ≤ 8) (hd : decode M.2.1 pc = .ok (.invokestatic idx, 3)) (k : zZ g X nc ns σ (pc + 3) L (.int (iI (iabs a)) :: S)) : zZ g X nc ns σ pc L (.int (iI a) :: S) := by
  intro H locs ls hH hS hl
  have hts := C.2.2.2.2.1
  have hr := C.2.2.2.2.2.2.2.1
  have hq := C.2.2.2.2.2.2.2.2.1
  refine va_mabs C.1 C.2.1 (hl.1.symm) C.2.2.2.1 (hts _ hlk) (hts _ sJ9_abs_0f7a4) (hts _ oJ9_abs_0f7a4.2.1) (hts _ oJ9_abs_0f7a4.1) (by omega) (by rw [zcat]; omega) (by omega) (by omega) hd ?_
  have e : (if 0 ≤ iI a then iI a else 0 - iI a) = iI (iabs a) := by
    have z : (0 : Int32) = iI 0 := rfl
    rw [z]
    by_cases h : 0 ≤ a
    · rw [if_pos ((iI_le (by decide) (by omega)).mpr h), show iabs a = a by unfold iabs; omega]
    · rw [if_neg (fun q => h ((iI_le (by decide) (by omega)).mp q)), iI_sub, show iabs a = 0 - a by unfold iabs; omega]
  rw [e]
  exact k H locs ls hH hS hl
end ZMA
