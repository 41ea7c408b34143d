/-! rows told, refusals, in numbers -/
def zfl {α : Type} (f : Nat → Nat → α) (a m : Nat) (v : α) : Nat → Nat → α := fun i k => if i = a ∧ k < m then v else f i k
theorem zfl_0 {α : Type} {f : Nat → Nat → α} {a : Nat} {v : α} : zfl f a 0 v = f := by
  funext i k
  simp [zfl]
theorem zfl_s {α : Type} {f : Nat → Nat → α} {a m : Nat} {v : α} : zu (zfl f a m v) a m v = zfl f a (m + 1) v := by
  funext i k
  simp only [zu, zfl]
  by_cases h1 : i = a
  · by_cases h2 : k = m
    · simp [h1, h2]
    · by_cases h3 : k < m
      · simp [h1, h2, h3]; omega
      · simp [h1, h2, h3]; omega
  · simp [h1]
def refI (I : Nat → Nat → Int) (x : Int) : Nat → Nat → Int := zu I 35 (-2 - x).toNat (I 35 (-2 - x).toNat + 1)
def isCmd (x : Int64) : Bool := decide (0 ≤ x.toInt ∧ x.toInt < 5)
theorem i64lt {x : Int64} {c : Int64} : x < c ↔ x.toInt < c.toInt := Int64.lt_iff_toInt_lt
theorem i64le {x : Int64} {c : Int64} : x ≤ c ↔ x.toInt ≤ c.toInt := Int64.le_iff_toInt_le
theorem l2i_eq (x : Int64) : x.toInt32 = iI x.toInt := (Int32.ofInt_int64ToInt x).symm
/-- of the Shelves: what may stand in them -/
def gL (I : Nat → Nat → Int) : Prop := ∀ k, k < 8 → (-1 ≤ I (19 + 2 * k) 0 ∧ I (19 + 2 * k) 0 ≤ 14) ∧ (0 ≤ I (19 + 2 * k) 1 ∧ I (19 + 2 * k) 1 ≤ 40)
def frowN (I : Nat → Nat → Int) (s n limit : Int) : Int :=
  if ¬ (0 ≤ s ∧ s < 8) ∨ n < 0 ∨ limit < n then -2
  else if 10 ≤ I (19 + 2 * s.toNat) 0 then -3
  else if ¬ (0 ≤ I (19 + 2 * s.toNat) 0 ∧ I (19 + 2 * s.toNat) 0 < 5) then -4
  else if I (19 + 2 * s.toNat) 1 < n then -2 else 0
theorem frowN_0 {I : Nat → Nat → Int} {s n limit : Int} (h : frowN I s n limit = 0) : (0 ≤ s ∧ s < 8) ∧ (0 ≤ n ∧ n ≤ limit) ∧ (0 ≤ I (19 + 2 * s.toNat) 0 ∧ I (19 + 2 * s.toNat) 0 < 5) ∧ n ≤ I (19 + 2 * s.toNat) 1 := by
  unfold frowN at h
  split at h
  · omega
  · split at h
    · omega
    · split at h
      · omega
      · split at h <;> omega
theorem frowN_r (I : Nat → Nat → Int) (s n limit : Int) : -4 ≤ frowN I s n limit ∧ frowN I s n limit ≤ 0 := by
  unfold frowN
  (repeat' split) <;> omega
def fcomN (I : Nat → Nat → Int) (J : Nat → Nat → Int64) (s n limit : Int) : Int :=
  if ¬ frowN I s n limit = 0 then frowN I s n limit
  else if firstN (fun k => !isCmd (J (19 + 2 * s.toNat + 1) k)) n.toNat = none then 0 else -5
theorem fcomN_r (I : Nat → Nat → Int) (J : Nat → Nat → Int64) (s n limit : Int) : -5 ≤ fcomN I J s n limit ∧ fcomN I J s n limit ≤ 0 := by
  have := frowN_r I s n limit
  unfold fcomN
  (repeat' split) <;> omega
/-- where THE DOG is behind k told COMMANDS that it can do -/
def walkC (dog : Int) (f : Nat → Int64) : Nat → Int
  | 0 => dog
  | k + 1 => walkC dog f k + shN (f k).toInt.toNat
def wrongP (n : Int) (w : Int64) (pen dog : Int) (f : Nat → Int64) (k : Nat) : Bool := !(isCmd (f k) && canN n w pen (walkC dog f k) (f k).toInt)
def wrongN (n : Int) (w : Int64) (pen dog : Int) (f : Nat → Int64) (m : Nat) : Int := match firstN (wrongP n w pen dog f) m with
  | some e => e
  | none => -1
theorem canN_r {n : Int} {w : Int64} {pen dog c : Int} (hn : n ≤ 7) (hd : 0 ≤ dog ∧ dog ≤ 66) (h : canN n w pen dog c = true) : 0 ≤ dog + shN c.toNat ∧ dog + shN c.toNat ≤ 66 := by
  simp only [canN, Bool.or_eq_true, decide_eq_true_eq] at h
  rcases h with h | h
  · subst h
    simp [shN]
    exact hd
  · simp only [dogsN, Bool.and_eq_true] at h
    exact openN_r hn h.2
theorem walkC_r {n : Int} {w : Int64} {pen dog : Int} {f : Nat → Int64} (hn : n ≤ 7) (hd : 0 ≤ dog ∧ dog ≤ 66) : ∀ k, firstN (wrongP n w pen dog f) k = none → 0 ≤ walkC dog f k ∧ walkC dog f k ≤ 66 := by
  intro k
  induction k with
  | zero => intro _; exact hd
  | succ k ih =>
    intro h
    have h1 := firstN_none.mp h
    have h2 := ih (firstN_none.mpr (fun e he => h1 e (by omega)))
    have h3 := h1 k (by omega)
    simp only [wrongP, Bool.not_eq_false', Bool.and_eq_true] at h3
    exact canN_r hn h2 h3.2
/-- what a TURN changes, as one -/
abbrev SP : Type := Int × Int × (Nat → Int)
def spOf (I : Nat → Nat → Int) (s : Nat) : SP := (I s 0, I s 1, I (s + 1))
def zSq (I : Nat → Nat → Int) (s : Nat) (p : SP) : Nat → Nat → Int := zSp I s p.1 p.2.1 p.2.2
def turnS (H : HV) (p : SP) (c : Int) : SP := (dogN H p.1 c, c, goneC H p.1 c p.2.2)
def runS (H : HV) (p : SP) (f : Nat → Int) : Nat → SP
  | 0 => p
  | k + 1 => turnS H (runS H p f k) (f k)
def gP (p : SP) : Prop := (0 ≤ p.1 ∧ p.1 ≤ 66) ∧ (0 ≤ p.2.1 ∧ p.2.1 ≤ 4) ∧ (∀ e, e < 5 → 0 ≤ p.2.2 e ∧ p.2.2 e ≤ 66)
theorem gP_turn {I : Nat → Nat → Int} {J : Nat → Nat → Int64} {h : Nat} {p : SP} {c : Int} (hg : gH I h) (hp : gP p) (hc : 0 ≤ c ∧ c ≤ 4) : gP (turnS (hv I J h) p c) :=
  ⟨dogN_r hg hp.1, hc, turnC_r hg hp.2.2 _ (by obtain ⟨_, _, _, g4, _⟩ := hg; show (I h 6).toNat ≤ 5; omega)⟩
theorem gP_run {I : Nat → Nat → Int} {J : Nat → Nat → Int64} {h : Nat} {p : SP} {f : Nat → Int} (hg : gH I h) (hp : gP p) : ∀ k, (∀ e, e < k → 0 ≤ f e ∧ f e ≤ 4) → gP (runS (hv I J h) p f k)
  | 0, _ => hp
  | k + 1, h => gP_turn hg (gP_run hg hp k (fun e he => h e (by omega))) (h k (by omega))
theorem gP_of {I : Nat → Nat → Int} {s : Nat} (h : gS I s) : gP (spOf I s) := h
theorem gS_of {I : Nat → Nat → Int} {s : Nat} {p : SP} (h : gP p) : gS (zSq I s p) s := gS_sp h.1 h.2.1 h.2.2
theorem zSq_self {I : Nat → Nat → Int} {s : Nat} : zSq I s (spOf I s) = I := zSp_self
theorem zSq_zSq {I : Nat → Nat → Int} {s : Nat} {p p' : SP} : zSq (zSq I s p) s p' = zSq I s p' := zSp_zSp
theorem spOf_sq {I : Nat → Nat → Int} {s : Nat} {p : SP} : spOf (zSq I s p) s = p := by
  simp only [spOf, zSq, zSp_0, zSp_1, zSp_c]
/-- a told element, cut to its SORT -/
def cutN (so : Int) (v : Int64) : Int64 := if so = 0 then v.toInt32.toInt8.toInt32.toInt64 else if so = 1 then v.toInt32.toInt16.toInt32.toInt64 else if so = 2 then v.toInt32.toInt64 else if so = 4 then (if v = 0 then 0 else 1) else v
def underN (kd up : Int) : Bool := decide (up = 0 ∨ kd = up ∨ (kd = 3 ∧ up = 1) ∨ (kd = 4 ∧ up = 2))
def filledN (I : Nat → Nat → Int) : Nat → Int
  | 0 => 0
  | k + 1 => filledN I k + bI (!decide (I (19 + 2 * k) 0 = -1))
