/-! a turn, in numbers -/
abbrev HV : Type := Int × Int64 × Int × Int × (Nat → Int) × (Nat → Int)
def hv (I : Nat → Nat → Int) (J : Nat → Nat → Int64) (h : Nat) : HV := (I h 0, J h 5, I h 1, I h 6, I (h + 1), I (h + 2))
theorem sep {h s : Nat} (hh : isH h) (hs : isS s) : s ≠ h ∧ s ≠ h + 1 ∧ s ≠ h + 2 ∧ s + 1 ≠ h ∧ s + 1 ≠ h + 1 ∧ s + 1 ≠ h + 2 := by
  unfold isH at hh
  unfold isS at hs
  omega
theorem sepS {s o : Nat} (hs : isS s) (ho : isS o) : s + 1 ≠ o ∧ (s = o ∨ s + 1 ≠ o + 1) := by
  unfold isS at hs ho
  omega
/-- the Spots at s hold these -/
def zSp (I : Nat → Nat → Int) (s : Nat) (dg di : Int) (C : Nat → Int) : Nat → Nat → Int := fun i k => if i = s then (if k = 0 then dg else if k = 1 then di else I s k) else if i = s + 1 then C k else I i k
theorem zSp_0 {I : Nat → Nat → Int} {s : Nat} {dg di : Int} {C : Nat → Int} : zSp I s dg di C s 0 = dg := by simp [zSp]
theorem zSp_1 {I : Nat → Nat → Int} {s : Nat} {dg di : Int} {C : Nat → Int} : zSp I s dg di C s 1 = di := by simp [zSp]
theorem zSp_c {I : Nat → Nat → Int} {s : Nat} {dg di : Int} {C : Nat → Int} : zSp I s dg di C (s + 1) = C := by funext k; simp [zSp]
theorem zSp_n {I : Nat → Nat → Int} {s i : Nat} {dg di : Int} {C : Nat → Int} (h1 : i ≠ s) (h2 : i ≠ s + 1) : zSp I s dg di C i = I i := by funext k; simp [zSp, h1, h2]
theorem zSp_zSp {I : Nat → Nat → Int} {s : Nat} {dg di dg' di' : Int} {C C' : Nat → Int} : zSp (zSp I s dg di C) s dg' di' C' = zSp I s dg' di' C' := by
  funext i k
  by_cases h : i = s
  · subst h
    by_cases h0 : k = 0
    · simp [zSp, h0]
    · by_cases h1 : k = 1 <;> simp [zSp, h0, h1]
  · by_cases h2 : i = s + 1 <;> simp [zSp, h, h2]
theorem zSp_self {I : Nat → Nat → Int} {s : Nat} : zSp I s (I s 0) (I s 1) (I (s + 1)) = I := by
  funext i k
  by_cases h : i = s
  · subst h
    by_cases h0 : k = 0
    · simp [zSp, h0]
    · by_cases h1 : k = 1 <;> simp [zSp, h0, h1]
  · by_cases h2 : i = s + 1 <;> simp [zSp, h, h2]
theorem zSp_put1 {I : Nat → Nat → Int} {s : Nat} {c : Int} : zu I s 1 c = zSp I s (I s 0) c (I (s + 1)) := by
  funext i k
  by_cases h : i = s
  · subst h
    by_cases h0 : k = 0
    · simp [zSp, zu, h0]
    · by_cases h1 : k = 1 <;> simp [zSp, zu, h0, h1]
  · by_cases h2 : i = s + 1 <;> simp [zSp, zu, h, h2]
theorem zSp_put0 {I : Nat → Nat → Int} {s : Nat} {c : Int} : zu I s 0 c = zSp I s c (I s 1) (I (s + 1)) := by
  funext i k
  by_cases h : i = s
  · subst h
    by_cases h0 : k = 0
    · simp [zSp, zu, h0]
    · by_cases h1 : k = 1 <;> simp [zSp, zu, h0, h1]
  · by_cases h2 : i = s + 1 <;> simp [zSp, zu, h, h2]
def up1 (C : Nat → Int) (e : Nat) (v : Int) : Nat → Int := fun k => if k = e then v else C k
theorem zSp_putc {I : Nat → Nat → Int} {s e : Nat} {dg di v : Int} {C : Nat → Int} : zu (zSp I s dg di C) (s + 1) e v = zSp I s dg di (up1 C e v) := by
  funext i k
  by_cases h : i = s
  · subst h
    simp [zSp, zu]
  · by_cases h2 : i = s + 1
    · subst h2
      by_cases h3 : k = e <;> simp [zSp, zu, up1, h3]
    · simp [zSp, zu, h, h2]
theorem hv_sp {I : Nat → Nat → Int} {J : Nat → Nat → Int64} {h s : Nat} {dg di : Int} {C : Nat → Int} (hh : isH h) (hs : isS s) : hv (zSp I s dg di C) J h = hv I J h := by
  obtain ⟨a1, a2, a3, a4, a5, a6⟩ := sep hh hs
  simp only [hv, zSp_n (Ne.symm a1) (Ne.symm a4), zSp_n (Ne.symm a2) (Ne.symm a5), zSp_n (Ne.symm a3) (Ne.symm a6)]
theorem gH_sp {I : Nat → Nat → Int} {h s : Nat} {dg di : Int} {C : Nat → Int} (hh : isH h) (hs : isS s) (hg : gH I h) : gH (zSp I s dg di C) h := by
  obtain ⟨a1, a2, a3, a4, a5, a6⟩ := sep hh hs
  unfold gH
  rw [zSp_n (Ne.symm a1) (Ne.symm a4), zSp_n (Ne.symm a2) (Ne.symm a5), zSp_n (Ne.symm a3) (Ne.symm a6)]
  exact hg
theorem gS_sp {I : Nat → Nat → Int} {s : Nat} {dg di : Int} {C : Nat → Int} (h1 : 0 ≤ dg ∧ dg ≤ 66) (h2 : 0 ≤ di ∧ di ≤ 4) (h3 : ∀ e, e < 5 → 0 ≤ C e ∧ C e ≤ 66) : gS (zSp I s dg di C) s := by
  unfold gS
  rw [zSp_0, zSp_1, zSp_c]
  exact ⟨h1, h2, h3⟩
def cp5 (f g : Nat → Int) : Nat → Int := fun k => if k < 5 then f k else g k
def cnt (P : Nat → Bool) : Nat → Int
  | 0 => 0
  | k + 1 => cnt P k + bI (P k)
theorem cnt_r (P : Nat → Bool) (k : Nat) : 0 ≤ cnt P k ∧ cnt P k ≤ k := by
  induction k with
  | zero => simp [cnt]
  | succ k ih =>
    simp only [cnt]
    rcases bI_01 (P k) with h | h <;> rw [h] <;> omega
def sumN (f : Nat → Int) : Nat → Int
  | 0 => 0
  | k + 1 => sumN f k + f k
def firstN (P : Nat → Bool) : Nat → Option Nat
  | 0 => none
  | k + 1 => match firstN P k with
    | some e => some e
    | none => if P k then some k else none
theorem firstN_none {P : Nat → Bool} {k : Nat} : firstN P k = none ↔ ∀ e, e < k → P e = false := by
  induction k with
  | zero => simp [firstN]
  | succ k ih =>
    simp only [firstN]
    cases h : firstN P k with
    | some e =>
      simp only [reduceCtorEq, false_iff]
      intro q
      have := ih.mpr (fun e he => q e (by omega))
      rw [h] at this
      cases this
    | none =>
      have h2 := ih.mp h
      cases h3 : P k with
      | true => simp only [if_true, reduceCtorEq, false_iff]; intro q; have := q k (by omega); rw [h3] at this; cases this
      | false =>
        simp only [Bool.false_eq_true, if_false, true_iff]
        intro e he
        by_cases q : e = k
        · subst q; exact h3
        · exact h2 e (by omega)
theorem firstN_some {P : Nat → Bool} {n e : Nat} (he : e < n) (h0 : firstN P e = none) (h : P e = true) : firstN P n = some e := by
  induction n with
  | zero => omega
  | succ n ih =>
    simp only [firstN]
    by_cases q : e = n
    · subst q
      rw [h0]
      simp [h]
    · rw [ih (by omega)]
def leadP (K C : Nat → Int) (pen : Int) (w : Nat) : Nat → Bool := fun e => !decide (e = w) && (decide (K e = 5) && !decide (C e = pen))
def leadN (K C : Nat → Int) (pen : Int) (w n : Nat) : Int := match firstN (leadP K C pen w) n with
  | some e => C e
  | none => -1
def shN (k : Nat) : Int := [0, -10, 10, -1, 1].getD k 0
def tmN (k : Nat) : Int := [1, 2, 1, 3, 1, 1].getD k 0
def frN (k : Nat) : Int := [3, 3, 3, 5, 3, -1].getD k 0
def srN (k : Nat) : Int := [-1, -1, 1, -1, 2, -1].getD k 0
theorem shN_r (k : Nat) : -10 ≤ shN k ∧ shN k ≤ 10 := by
  match k with
  | 0 | 1 | 2 | 3 | 4 => decide
  | k + 5 => simp [shN]
theorem tmN_r {k : Nat} (h : k < 6) : 1 ≤ tmN k ∧ tmN k ≤ 3 := by
  match k, h with
  | 0, _ | 1, _ | 2, _ | 3, _ | 4, _ | 5, _ => decide
theorem frN_r (k : Nat) : -1 ≤ frN k ∧ frN k ≤ 5 := by
  match k with
  | 0 | 1 | 2 | 3 | 4 | 5 => decide
  | k + 6 => simp [frN]
theorem srN_r (k : Nat) : -1 ≤ srN k ∧ srN k ≤ 2 := by
  match k with
  | 0 | 1 | 2 | 3 | 4 | 5 => decide
  | k + 6 => simp [srN]
def farN (mark b : Int) : Int := if mark = -1 then 0 else stp b mark
def nstp (n : Int) (w : Int64) (dog mark cell : Int) (k : Nat) (p : Int × Int) : Int × Int :=
  if openN n w (cell + shN k) = true ∧ stp cell dog < stp (cell + shN k) dog ∧ (p.1 = cell ∨ farN mark (cell + shN k) < p.2) then (cell + shN k, farN mark (cell + shN k)) else p
theorem nstp_t {n : Int} {w : Int64} {dog mark cell b f : Int} {k : Nat} {p : Int × Int} (hb : b = cell + shN k) (h1 : openN n w b = true) (h2 : stp cell dog < stp b dog) (hf : f = farN mark b) (h3 : p.1 = cell ∨ f < p.2) : nstp n w dog mark cell k p = (b, f) := by
  subst hb; subst hf
  unfold nstp
  rw [if_pos ⟨h1, h2, h3⟩]
theorem nstp_f {n : Int} {w : Int64} {dog mark cell b : Int} {k : Nat} {p : Int × Int} (hb : b = cell + shN k) (h : openN n w b = false ∨ ¬ stp cell dog < stp b dog ∨ ¬ (p.1 = cell ∨ farN mark b < p.2)) : nstp n w dog mark cell k p = p := by
  subst hb
  unfold nstp
  rw [if_neg]
  rintro ⟨h1, h2, h3⟩
  rcases h with h | h | h
  · rw [h1] at h; cases h
  · exact h h2
  · exact h h3
def nfold (n : Int) (w : Int64) (dog mark cell : Int) : Nat → Int × Int
  | 0 => (cell, 0)
  | k + 1 => nstp n w dog mark cell (k + 1) (nfold n w dog mark cell k)
def nextN (n : Int) (w : Int64) (cell dog mark : Int) : Int := (nfold n w dog mark cell 4).1
theorem openN_r {n : Int} {w : Int64} {c : Int} (hn : n ≤ 7) (h : openN n w c = true) : 0 ≤ c ∧ c ≤ 66 := by
  simp only [openN, isCellN, Bool.and_eq_true, decide_eq_true_eq] at h
  omega
theorem nfold_r {n : Int} {w : Int64} {dog mark cell : Int} (hn : n ≤ 7) (hc : 0 ≤ cell ∧ cell ≤ 66) (hm : -1 ≤ mark ∧ mark ≤ 66) (k : Nat) : (0 ≤ (nfold n w dog mark cell k).1 ∧ (nfold n w dog mark cell k).1 ≤ 66) ∧ 0 ≤ (nfold n w dog mark cell k).2 ∧ (nfold n w dog mark cell k).2 ≤ 18 := by
  induction k with
  | zero => simp [nfold, hc]
  | succ k ih =>
    simp only [nfold, nstp]
    split
    · rename_i h
      have h1 := openN_r hn h.1
      refine ⟨h1, ?_⟩
      unfold farN
      split
      · omega
      · exact stp_r (by omega) (by omega)
    · exact ih
theorem nextN_r {n : Int} {w : Int64} {cell dog mark : Int} (hn : n ≤ 7) (hc : 0 ≤ cell ∧ cell ≤ 66) (hm : -1 ≤ mark ∧ mark ≤ 66) : 0 ≤ nextN n w cell dog mark ∧ nextN n w cell dog mark ≤ 66 := (nfold_r hn hc hm 4).1
def gstp (n : Int) (w : Int64) (pen dog fears stares mark c : Int) : Int := if c = pen then c else if stp c dog ≤ fears ∧ stares < stp c dog then nextN n w c dog mark else c
def git (n : Int) (w : Int64) (pen dog fears stares mark c : Int) : Nat → Int
  | 0 => c
  | t + 1 => gstp n w pen dog fears stares mark (git n w pen dog fears stares mark c t)
theorem git_r {n : Int} {w : Int64} {pen dog fears stares mark c : Int} (hn : n ≤ 7) (hc : 0 ≤ c ∧ c ≤ 66) (hm : -1 ≤ mark ∧ mark ≤ 66) (t : Nat) : 0 ≤ git n w pen dog fears stares mark c t ∧ git n w pen dog fears stares mark c t ≤ 66 := by
  induction t with
  | zero => exact hc
  | succ t ih =>
    simp only [git, gstp]
    split
    · exact ih
    · split
      · exact nextN_r hn ih hm
      · exact ih
theorem git_pen {n : Int} {w : Int64} {pen dog fears stares mark c : Int} {t : Nat} (h : git n w pen dog fears stares mark c t = pen) : ∀ u, t ≤ u → git n w pen dog fears stares mark c u = pen := by
  intro u hu
  induction u with
  | zero => have : t = 0 := by omega
            subst this; exact h
  | succ u ih =>
    by_cases q : t = u + 1
    · subst q; exact h
    · have h1 := ih (by omega)
      simp only [git, gstp, h1, if_true]
/-- the leader's number: its CELL, or -1 -/
def markN (H : HV) (C : Nat → Int) (w : Nat) (kd : Int) : Int := if kd = 5 then H.2.2.1 else leadN H.2.2.2.2.1 C H.2.2.1 w H.2.2.2.1.toNat
def fearN (H : HV) (w : Nat) (kd : Int) : Int := if kd = 5 then H.2.2.2.2.2 w else frN kd.toNat
def goalN (H : HV) (dog : Int) (C : Nat → Int) (w : Nat) (kd : Int) : Int := git H.1 H.2.1 H.2.2.1 dog (fearN H w kd) (srN kd.toNat) (markN H C w kd) (C w) (tmN kd.toNat).toNat
theorem leadN_r {K C : Nat → Int} {pen : Int} {w n : Nat} (hn : n ≤ 5) (hC : ∀ e, e < 5 → 0 ≤ C e ∧ C e ≤ 66) : -1 ≤ leadN K C pen w n ∧ leadN K C pen w n ≤ 66 := by
  unfold leadN
  cases h : firstN (leadP K C pen w) n with
  | none => simp
  | some e =>
    have he : e < n := by
      by_cases q : e < n
      · exact q
      · exfalso
        have : ∀ m, firstN (leadP K C pen w) m = some e → e < m := by
          intro m
          induction m with
          | zero => simp [firstN]
          | succ m ih =>
            intro hm
            simp only [firstN] at hm
            cases h2 : firstN (leadP K C pen w) m with
            | some x => rw [h2] at hm; cases hm; have := ih h2; omega
            | none =>
              rw [h2] at hm
              simp only at hm
              split at hm
              · cases hm; omega
              · cases hm
        exact q (this n h)
    have := hC e (by omega)
    simp only
    omega
def canN (n : Int) (w : Int64) (pen dog c : Int) : Bool := decide (c = 0) || dogsN n w pen (dog + shN c.toNat)
/-- the EWES' CELLS when k of them have gone -/
def turnC (H : HV) (dog : Int) (C : Nat → Int) : Nat → Nat → Int
  | 0 => C
  | k + 1 => up1 (turnC H dog C k) k (goalN H dog (turnC H dog C k) k (H.2.2.2.2.1 k))
def dogN (H : HV) (dog c : Int) : Int := if canN H.1 H.2.1 H.2.2.1 dog c = true then dog + shN c.toNat else dog
