/-! THE TAPE, in numbers: tokens, words, numbers, statements -/
def byN (f : Nat → Int) (n : Nat) (i : Int) : Int := if 0 ≤ i ∧ i < n then f i.toNat else -1
def tkN (c : Int) : Int := if c = -1 then 0 else if 97 ≤ c ∧ c ≤ 122 then 1 else if 48 ≤ c ∧ c ≤ 57 then 2 else if c = 59 then 3 else 4
theorem tkN_r (c : Int) : 0 ≤ tkN c ∧ tkN c ≤ 4 := by
  unfold tkN
  (repeat' split) <;> omega
theorem byN_in {f : Nat → Int} {n i : Nat} (h : i < n) : byN f n (i : Int) = f i := by
  unfold byN
  rw [if_pos (by omega), Int.toNat_natCast]
theorem byN_out {f : Nat → Int} {n i : Nat} (h : n ≤ i) : byN f n (i : Int) = -1 := by
  unfold byN
  rw [if_neg (by omega)]
/-- the first place from p on, ahead of n, at which P holds; n, if there is none -/
def upTo (P : Nat → Bool) (p n : Nat) : Nat := match firstN (fun i => P (p + i)) (n - p) with
  | some e => p + e
  | none => p + (n - p)
theorem upTo_some {P : Nat → Bool} {p n e : Nat} (he : e < n - p) (h0 : firstN (fun i => P (p + i)) e = none) (h : P (p + e) = true) : upTo P p n = p + e := by
  unfold upTo
  rw [firstN_some he h0 h]
theorem upTo_none {P : Nat → Bool} {p n : Nat} (h0 : firstN (fun i => P (p + i)) (n - p) = none) : upTo P p n = p + (n - p) := by
  unfold upTo
  rw [h0]
theorem firstN_bef {P : Nat → Bool} {n e : Nat} (h : firstN P n = some e) : ∀ i, i < e → P i = false := by
  induction n with
  | zero => cases h
  | succ n ih =>
    simp only [firstN] at h
    cases h2 : firstN P n with
    | some x => rw [h2] at h; cases h; exact ih h2
    | none =>
      rw [h2] at h
      simp only at h
      split at h
      · cases h; exact firstN_none.mp h2
      · cases h
theorem upTo_r {P : Nat → Bool} {p n : Nat} (h : p ≤ n) : p ≤ upTo P p n ∧ upTo P p n ≤ n := by
  unfold upTo
  split
  · next e he =>
    have := (firstN_lt he).1
    omega
  · omega
theorem upTo_bef {P : Nat → Bool} {p n i : Nat} (h1 : p ≤ i) (h2 : i < upTo P p n) : P i = false := by
  unfold upTo at h2
  split at h2
  · next e he =>
    have := firstN_bef he (i - p) (by omega)
    rw [show p + (i - p) = i by omega] at this
    exact this
  · next he =>
    have := firstN_none.mp he (i - p) (by omega)
    rw [show p + (i - p) = i by omega] at this
    exact this
theorem upTo_at {P : Nat → Bool} {p n : Nat} (hp : p ≤ n) (h : upTo P p n < n) : P (upTo P p n) = true := by
  unfold upTo at h ⊢
  split at h
  · next e he => exact (firstN_lt he).2
  · omega
theorem upTo_u {P : Nat → Bool} {p n e : Nat} (h1 : p ≤ e) (h2 : e ≤ n) (hb : ∀ i, p ≤ i → i < e → P i = false) (ha : e < n → P e = true) : upTo P p n = e := by
  by_cases h : e < n
  · have := upTo_some (P := P) (p := p) (n := n) (e := e - p) (by omega) (firstN_none.mpr (fun i hi => hb (p + i) (by omega) (by omega))) (by rw [show p + (e - p) = e by omega]; exact ha h)
    rw [this]; omega
  · have := upTo_none (P := P) (p := p) (n := n) (firstN_none.mpr (fun i hi => hb (p + i) (by omega) (by omega)))
    rw [this]; omega
def skN (f : Nat → Int) (n p : Nat) : Nat := upTo (fun i => !decide (f i = 32)) p n
def runN (f : Nat → Int) (n p : Nat) (t : Int) : Nat := upTo (fun i => !decide (tkN (f i) = t)) p n
def tokT (f : Nat → Int) (n p : Nat) : Int := tkN (byN f n (skN f n p : Nat))
def tokE (f : Nat → Int) (n p : Nat) : Nat := if tokT f n p = 0 then skN f n p else if tokT f n p = 1 ∨ tokT f n p = 2 then runN f n (skN f n p + 1) (tokT f n p) else skN f n p + 1
theorem tokT_r (f : Nat → Int) (n p : Nat) : 0 ≤ tokT f n p ∧ tokT f n p ≤ 4 := tkN_r _
theorem tkN_0 {c : Int} : tkN c = 0 ↔ c = -1 := by
  unfold tkN
  constructor
  · (repeat' split) <;> intro h <;> omega
  · intro h; rw [if_pos h]
theorem tokT_0 {f : Nat → Int} {n p : Nat} (hf : ∀ k, k < n → 0 ≤ f k) : tokT f n p = 0 ↔ n ≤ skN f n p := by
  unfold tokT
  rw [tkN_0]
  constructor
  · intro h
    by_cases q : skN f n p < n
    · rw [byN_in q] at h
      have := hf _ q
      omega
    · omega
  · intro h; exact byN_out h
theorem tok_r {f : Nat → Int} {n p : Nat} (hf : ∀ k, k < n → 0 ≤ f k) (hp : p ≤ n) : (p ≤ skN f n p ∧ skN f n p ≤ n) ∧ skN f n p ≤ tokE f n p ∧ tokE f n p ≤ n := by
  have h1 : p ≤ skN f n p ∧ skN f n p ≤ n := upTo_r hp
  refine ⟨h1, ?_⟩
  unfold tokE
  split
  · omega
  · next h0 =>
    have h2 : skN f n p < n := by
      have := mt (tokT_0 hf (p := p)).mpr h0
      omega
    split
    · have h3 : skN f n p + 1 ≤ runN f n (skN f n p + 1) (tokT f n p) ∧ runN f n (skN f n p + 1) (tokT f n p) ≤ n := upTo_r (by omega)
      omega
    · omega
/-- of a word or a number: all its signs are of one kind -/
theorem tok_all {f : Nat → Int} {n p : Nat} (ht : tokT f n p = 1 ∨ tokT f n p = 2) (hf : ∀ k, k < n → 0 ≤ f k) : skN f n p < tokE f n p ∧ ∀ i, skN f n p ≤ i → i < tokE f n p → tkN (f i) = tokT f n p := by
  have h0 : ¬ tokT f n p = 0 := by omega
  have h2 : skN f n p < n := by
    have := mt (tokT_0 hf (p := p)).mpr h0
    omega
  have h3 : skN f n p + 1 ≤ runN f n (skN f n p + 1) (tokT f n p) ∧ runN f n (skN f n p + 1) (tokT f n p) ≤ n := upTo_r (by omega)
  have he : tokE f n p = runN f n (skN f n p + 1) (tokT f n p) := by
    unfold tokE
    rw [if_neg h0, if_pos ht]
  rw [he]
  refine ⟨by omega, fun i h4 h5 => ?_⟩
  by_cases q : i = skN f n p
  · subst q
    show _ = tkN (byN f n (skN f n p : Nat))
    rw [byN_in h2]
  · have := upTo_bef (P := fun i => !decide (tkN (f i) = tokT f n p)) (p := skN f n p + 1) (n := n) (i := i) (by omega) h5
    simpa using this
def wordN (f : Nat → Int) (s e k : Nat) : Bool := decide (e = s + zLen k) && decide (firstN (fun i => !decide (f (s + i) = txN k i)) (zLen k) = none)
def dgN (f : Nat → Int) (s : Nat) : Nat → Int
  | 0 => 0
  | k + 1 => dgN f s k * 10 + f (s + k) - 48
/-- the number that is read from p on; -1 -/
def nmN (f : Nat → Int) (n p : Nat) : Int := if tokT f n p = 2 ∧ tokE f n p ≤ skN f n p + 2 then dgN f (skN f n p) (tokE f n p - skN f n p) else -1
theorem tkN_2 {c : Int} (h : tkN c = 2) : 48 ≤ c ∧ c ≤ 57 := by
  unfold tkN at h
  (repeat' split at h) <;> omega
theorem nmN_r {f : Nat → Int} {n p : Nat} (hf : ∀ k, k < n → 0 ≤ f k) : -1 ≤ nmN f n p ∧ nmN f n p ≤ 99 := by
  unfold nmN
  split
  · next h =>
    obtain ⟨h1, h2⟩ := tok_all (Or.inr h.1) hf
    have a1 := tkN_2 ((h2 (skN f n p) (Nat.le_refl _) h1).trans h.1)
    rcases (show tokE f n p - skN f n p = 1 ∨ tokE f n p - skN f n p = 2 by omega) with e | e
    · rw [e]
      simp only [dgN, Nat.add_zero]
      omega
    · rw [e]
      have a2 := tkN_2 ((h2 (skN f n p + 1) (by omega) (by omega)).trans h.1)
      simp only [dgN, Nat.add_zero]
      omega
  · omega
/-- all that a Hill is: its ints, its walls, kinds, as, Spots, cells -/
abbrev HR : Type := (Nat → Int) × Int64 × (Nat → Int) × (Nat → Int) × (Nat → Int) × (Nat → Int)
def mwR (R : HR) (c : Int) : Bool := isCellN (R.1 0) c && (!decide (c = R.1 1) && (!decide (c = R.2.2.2.2.1 0) && !eweAtN R.2.2.2.2.2 c (R.1 6).toNat))
def mpR (R : HR) (c : Int) : Bool := openN (R.1 0) R.2.1 c && (!decide (c = R.2.2.2.2.1 0) && (!eweAtN R.2.2.2.2.2 c (R.1 6).toNat && !eweAtN R.2.2.2.2.2 (R.1 1) (R.1 6).toNat))
def setR (R : HR) (k : Nat) (v : Int) : HR := (up1 R.1 k v, R.2)
def walR (R : HR) (w : Int64) : HR := (R.1, w, R.2.2)
def dogR (R : HR) (v : Int) : HR := (R.1, R.2.1, R.2.2.1, R.2.2.2.1, up1 R.2.2.2.2.1 0 v, R.2.2.2.2.2)
def eweR (R : HR) (kd a c : Int) : HR := (up1 R.1 6 (R.1 6 + 1), R.2.1, up1 R.2.2.1 (R.1 6).toNat kd, up1 R.2.2.2.1 (R.1 6).toNat a, R.2.2.2.2.1, up1 R.2.2.2.2.2 (R.1 6).toNat c)
def stSide (f : Nat → Int) (n p : Nat) (R : HR) : Bool × Nat × HR := if R.1 0 ≤ nmN f n p ∧ nmN f n p ≤ 7 then (true, p, setR R 0 (nmN f n p)) else (false, p, R)
def stWall (f : Nat → Int) (n p : Nat) (R : HR) : Bool × Nat × HR := if mwR R (nmN f n p) = true then (true, p, walR R (R.2.1 ||| bitL (nmN f n p))) else (false, p, R)
def stGap (f : Nat → Int) (n p : Nat) (R : HR) : Bool × Nat × HR := if isCellN (R.1 0) (nmN f n p) = true then (true, p, walR R (R.2.1 &&& (bitL (nmN f n p) ^^^ (-1)))) else (false, p, R)
def stPen (f : Nat → Int) (n p : Nat) (R : HR) : Bool × Nat × HR := if mpR R (nmN f n p) = true then (true, p, setR R 1 (nmN f n p)) else (false, p, R)
def stDog (f : Nat → Int) (n p : Nat) (R : HR) : Bool × Nat × HR := if dogsN (R.1 0) R.2.1 (R.1 1) (nmN f n p) = true then (true, p, dogR R (nmN f n p)) else (false, p, R)
def stWind (f : Nat → Int) (n p : Nat) (R : HR) : Bool × Nat × HR := if 0 ≤ nmN f n p ∧ nmN f n p ≤ 12 then (true, p, setR R 2 (nmN f n p)) else (false, p, R)
def stEwe (f : Nat → Int) (n p : Nat) (R : HR) : Bool × Nat × HR :=
  if 5 ≤ R.1 6 then (false, p, R)
  else if ¬ (0 ≤ nmN f n (tokE f n p) ∧ nmN f n (tokE f n p) < 6) then (false, tokE f n p, R)
  else if ¬ (0 ≤ nmN f n (tokE f n (tokE f n p)) ∧ nmN f n (tokE f n (tokE f n p)) ≤ 9) then (false, tokE f n (tokE f n p), R)
  else if openN (R.1 0) R.2.1 (nmN f n (tokE f n (tokE f n (tokE f n p)))) = true then (true, tokE f n (tokE f n (tokE f n p)), eweR R (nmN f n (tokE f n p)) (nmN f n (tokE f n (tokE f n p))) (nmN f n (tokE f n (tokE f n (tokE f n p)))))
  else (false, tokE f n (tokE f n (tokE f n p)), R)
/-- a statement whose first token is read from p on: whether it is told, from where its last token is read, what is then -/
def stF (f : Nat → Int) (n p : Nat) (R : HR) : Bool × Nat × HR :=
  if ¬ tokT f n p = 1 then (false, p, R)
  else if wordN f (skN f n p) (tokE f n p) 0 = true then stSide f n (tokE f n p) R
  else if wordN f (skN f n p) (tokE f n p) 1 = true then stWall f n (tokE f n p) R
  else if wordN f (skN f n p) (tokE f n p) 2 = true then stGap f n (tokE f n p) R
  else if wordN f (skN f n p) (tokE f n p) 3 = true then stPen f n (tokE f n p) R
  else if wordN f (skN f n p) (tokE f n p) 4 = true then stDog f n (tokE f n p) R
  else if wordN f (skN f n p) (tokE f n p) 5 = true then stEwe f n p R
  else if wordN f (skN f n p) (tokE f n p) 6 = true then stWind f n (tokE f n p) R
  else (false, p, R)
/-- the token fields of THE TAPE, when the last token was read from p on -/
def zTk (I : Nat → Nat → Int) (t s e : Int) : Nat → Nat → Int := fun i k => if i = 11 then (if k = 3 then t else if k = 4 then s else if k = 5 then e else I 11 k) else I i k
theorem zTk_n {I : Nat → Nat → Int} {t s e : Int} {i : Nat} (h : i ≠ 11) : zTk I t s e i = I i := by funext k; simp [zTk, h]
theorem zTk_1 {I : Nat → Nat → Int} {t s e : Int} : zTk I t s e 11 1 = I 11 1 := rfl
theorem zTk_3 {I : Nat → Nat → Int} {t s e : Int} : zTk I t s e 11 3 = t := rfl
theorem zTk_4 {I : Nat → Nat → Int} {t s e : Int} : zTk I t s e 11 4 = s := rfl
theorem zTk_5 {I : Nat → Nat → Int} {t s e : Int} : zTk I t s e 11 5 = e := rfl
theorem zTk_12 {I : Nat → Nat → Int} {t s e : Int} : zTk I t s e 12 = I 12 := zTk_n (by decide)
theorem zTk_p3 {I : Nat → Nat → Int} {t s e v : Int} : zu (zTk I t s e) 11 3 v = zTk I v s e := by
  funext i k
  by_cases h : i = 11
  · subst h
    rcases (show k = 3 ∨ k = 4 ∨ k = 5 ∨ (k ≠ 3 ∧ k ≠ 4 ∧ k ≠ 5) by omega) with rfl | rfl | rfl | ⟨h1, h2, h3⟩ <;> simp [zu, zTk, *]
  · simp [zu, zTk, h]
theorem zTk_p4 {I : Nat → Nat → Int} {t s e v : Int} : zu (zTk I t s e) 11 4 v = zTk I t v e := by
  funext i k
  by_cases h : i = 11
  · subst h
    rcases (show k = 3 ∨ k = 4 ∨ k = 5 ∨ (k ≠ 3 ∧ k ≠ 4 ∧ k ≠ 5) by omega) with rfl | rfl | rfl | ⟨h1, h2, h3⟩ <;> simp [zu, zTk, *]
  · simp [zu, zTk, h]
theorem zTk_p5 {I : Nat → Nat → Int} {t s e v : Int} : zu (zTk I t s e) 11 5 v = zTk I t s v := by
  funext i k
  by_cases h : i = 11
  · subst h
    rcases (show k = 3 ∨ k = 4 ∨ k = 5 ∨ (k ≠ 3 ∧ k ≠ 4 ∧ k ≠ 5) by omega) with rfl | rfl | rfl | ⟨h1, h2, h3⟩ <;> simp [zu, zTk, *]
  · simp [zu, zTk, h]
theorem zTk_self {I : Nat → Nat → Int} : zTk I (I 11 3) (I 11 4) (I 11 5) = I := by
  funext i k
  by_cases h : i = 11
  · subst h
    rcases (show k = 3 ∨ k = 4 ∨ k = 5 ∨ (k ≠ 3 ∧ k ≠ 4 ∧ k ≠ 5) by omega) with rfl | rfl | rfl | ⟨h1, h2, h3⟩ <;> simp [zTk, *]
  · simp [zTk, h]
theorem zTk_a {I : Nat → Nat → Int} {v : Int} : zu I 11 4 v = zTk I (I 11 3) v (I 11 5) := by
  have h := zTk_p4 (I := I) (t := I 11 3) (s := I 11 4) (e := I 11 5) (v := v)
  rw [zTk_self] at h
  exact h
theorem zTk_tk {I : Nat → Nat → Int} {t s e t' s' e' : Int} : zTk (zTk I t s e) t' s' e' = zTk I t' s' e' := by
  funext i k
  by_cases h : i = 11
  · subst h
    simp only [zTk, if_true]
    (repeat' split) <;> rfl
  · simp [zTk, h]
def gT (I : Nat → Nat → Int) : Prop := (0 ≤ I 11 1 ∧ I 11 1 ≤ 250) ∧ ∀ k, k < 250 → 0 ≤ I 12 k ∧ I 12 k ≤ 255
theorem gT_tk {I : Nat → Nat → Int} {t s e : Int} (h : gT I) : gT (zTk I t s e) := by
  unfold gT
  rw [zTk_1, zTk_12]
  exact h
/-- the last token was read from p on -/
def tkI (I : Nat → Nat → Int) (f : Nat → Int) (n p : Nat) : Nat → Nat → Int := zTk I (tokT f n p) (skN f n p : Nat) (tokE f n p : Nat)
theorem byN_b {f : Nat → Int} {n : Nat} {i : Int} (h : ∀ k, k < 250 → 0 ≤ f k ∧ f k ≤ 255) (hn : n ≤ 250) : -1 ≤ byN f n i ∧ byN f n i ≤ 255 := by
  unfold byN
  split
  · have := h i.toNat (by omega)
    omega
  · omega
