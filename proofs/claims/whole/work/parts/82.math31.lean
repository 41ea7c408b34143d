/-! the reference's kinds, copies -/
theorem sogo7 {H : HV} {C : Nat → Int} {w : Nat} {kd : Int} {f h : Nat → Int64} {m : Nat} (hC : ∀ e, e < 5 → gC7 (C e)) (hh : ∀ k, k < m → gC7 (h k).toInt) : ∀ k, k ≤ m → ∀ e, e < 5 → gC7 (sogoP H C w kd f h k e) := by
  intro k
  induction k with
  | zero => intro _ e he; exact hC e he
  | succ k ih =>
    intro hk e he
    simp only [sogoP, up1]
    split
    · exact hh k (by omega)
    · exact ih (by omega) e he
def okV (x : Int) (P : Nat → Bool) (e : Nat) : Int := if firstN P e = none then x else 0
theorem firstN_sn {P : Nat → Bool} {k : Nat} : firstN P (k + 1) = none ↔ firstN P k = none ∧ P k = false := by
  simp only [firstN]
  cases firstN P k with
  | some e => simp
  | none => cases h : P k <;> simp
theorem okV_t {x : Int} {P : Nat → Bool} {e : Nat} (h : P e = false) : okV x P e = okV x P (e + 1) := by
  unfold okV
  by_cases h2 : firstN P e = none
  · rw [if_pos h2, if_pos (firstN_sn.mpr ⟨h2, h⟩)]
  · rw [if_neg h2, if_neg (fun z => h2 (firstN_sn.mp z).1)]
theorem okV_f {x : Int} {P : Nat → Bool} {e : Nat} (h : P e = true) : 0 = okV x P (e + 1) := by
  unfold okV
  rw [if_neg (fun z => absurd ((firstN_sn.mp z).2.symm.trans h) (by decide))]
def bcP (n : Int) (f h : Nat → Int64) : Nat → Bool := fun k => !(isCellN n (f k).toInt && isCellN n (h k).toInt)
theorem bcP_no {n : Int} (hn : n ≤ 7) {f h : Nat → Int64} : ∀ m, firstN (bcP n f h) m = none ↔ firstN (fun k => !cellsOk n f k) m = none ∧ firstN (fun k => !cellsOk n h k) m = none := by
  intro m
  have key : ∀ (g : Nat → Int64) k, cellsOk n g k = isCellN n (g k).toInt := fun g k => by
    unfold cellsOk
    cases h2 : isCellN n (g k).toInt with
    | false => rw [Bool.and_false]
    | true =>
      simp only [isCellN, Bool.and_eq_true, decide_eq_true_eq] at h2
      rw [decide_eq_true (by omega)]
      rfl
  constructor
  · intro h2
    have h3 := firstN_none.mp h2
    exact ⟨firstN_none.mpr (fun k hk => by have h4 := h3 k hk; simp only [bcP] at h4; rw [key]; revert h4; cases isCellN n (f k).toInt <;> cases isCellN n (h k).toInt <;> decide), firstN_none.mpr (fun k hk => by have h4 := h3 k hk; simp only [bcP] at h4; rw [key]; revert h4; cases isCellN n (f k).toInt <;> cases isCellN n (h k).toInt <;> decide)⟩
  · intro ⟨h2, h3⟩
    refine firstN_none.mpr (fun k hk => ?_)
    have h4 := firstN_none.mp h2 k hk
    have h5 := firstN_none.mp h3 k hk
    rw [key] at h4 h5
    simp only [bcP]
    revert h4 h5
    cases isCellN n (f k).toInt <;> cases isCellN n (h k).toInt <;> decide
theorem fK_V {I : Nat → Nat → Int} {J : Nat → Nat → Int64} (hg : gR I) (hrl : gRL I) {s t n w : Int} : fKinds (VI I) (VJ I J) s t n w = if ¬ ((0 ≤ s ∧ s < 8) ∧ (0 ≤ t ∧ t < 8) ∧ (0 ≤ n ∧ n ≤ 40) ∧ (0 ≤ w ∧ w < I 58 5)) then -2
  else if 10 ≤ I 64 s.toNat ∨ 10 ≤ I 64 t.toNat then -3
  else if I 64 s.toNat < 0 ∨ I 64 t.toNat < 0 then -4
  else if ¬ (n ≤ I 65 s.toNat ∧ n ≤ I 65 t.toNat) then -2
  else if okV (if I 62 w.toNat = I 58 2 then 0 else 1) (bcP (I 58 0) (roF J s.toNat) (roF J t.toNat)) n.toNat = 0 then -5 else 0 := by
  unfold fKinds
  rw [show VI I 1 6 = I 58 5 from rfl, show VI I 1 1 = I 58 2 from rfl, show VI I 1 0 = I 58 0 from rfl, VI_5]
  by_cases h1 : (0 ≤ s ∧ s < 8) ∧ (0 ≤ t ∧ t < 8) ∧ (0 ≤ n ∧ n ≤ 40) ∧ (0 ≤ w ∧ w < I 58 5)
  · have h1' : ¬ ¬ ((0 ≤ s ∧ s < 8) ∧ (0 ≤ t ∧ t < 8) ∧ (0 ≤ n ∧ n ≤ 40) ∧ (0 ≤ w ∧ w < I 58 5)) := fun z => z h1
    rw [if_neg h1', if_neg h1']
    have hs : s.toNat < 8 := by omega
    have ht : t.toNat < 8 := by omega
    rw [VI_s0 hs, VI_s0 ht, VI_s1 hs, VI_s1 ht, VJ_row hs, VJ_row ht]
    have h3 := hrl _ hs
    have h4 := hrl _ ht
    by_cases h2 : 10 ≤ I 64 s.toNat ∨ 10 ≤ I 64 t.toNat
    · rw [if_pos h2, if_pos h2]
    · rw [if_neg h2, if_neg h2]
      by_cases h5 : I 64 s.toNat < 0 ∨ I 64 t.toNat < 0
      · rw [if_pos (by omega), if_pos h5]
      · rw [if_neg (by omega), if_neg h5]
        by_cases h6 : n ≤ I 65 s.toNat ∧ n ≤ I 65 t.toNat
        · have h6' : ¬ ¬ (n ≤ I 65 s.toNat ∧ n ≤ I 65 t.toNat) := fun z => z h6
          rw [if_neg h6', if_neg h6']
          have h7 := bcP_no hg.1.2 (f := roF J s.toNat) (h := roF J t.toNat) n.toNat
          unfold okV
          by_cases h8 : I 62 w.toNat = I 58 2
          · rw [if_pos (.inl h8), if_pos h8, if_pos (by split <;> rfl)]
          · rw [if_neg h8]
            by_cases h9 : firstN (bcP (I 58 0) (roF J s.toNat) (roF J t.toNat)) n.toNat = none
            · rw [if_pos h9]
              have h10 := h7.mp h9
              refine (if_neg ?_).trans (if_neg (by decide)).symm
              intro z
              rcases z with z | z | z
              · exact h8 z
              · exact z h10.1
              · exact z h10.2
            · rw [if_neg h9, if_pos rfl]
              refine if_pos (.inr ?_)
              by_cases h10 : firstN (fun k => !cellsOk (I 58 0) (roF J s.toNat) k) n.toNat = none
              · exact .inr (fun z => h9 (h7.mpr ⟨h10, z⟩))
              · exact .inl h10
        · rw [if_pos h6, if_pos h6]
  · rw [if_pos h1, if_pos h1]
theorem gR_60 {I : Nat → Nat → Int} {w : Nat} {v : Int} (h : gR I) (hv : 0 ≤ v ∧ v ≤ 5) : gR (zu I 60 w v) := by
  obtain ⟨h1, h2, h3, h4, h5, h6, h7⟩ := h
  refine ⟨h1, h2, h3, h4, fun e he => ?_, h6, h7⟩
  by_cases e2 : e = w
  · subst e2; rw [zu_s]; exact hv
  · rw [zu_n (by omega)]; exact h5 e he
theorem goal_60 {I : Nat → Nat → Int} {w : Nat} {v dog kd : Int} {C : Nat → Int} : goalN (hvR (zu I 60 w v)) dog C w kd = goalN (hvR I) dog C w kd := by
  have h1 : leadP (zu I 60 w v 60) C (I 58 2) w = leadP (I 60) C (I 58 2) w := by
    funext e
    unfold leadP
    by_cases h : e = w
    · subst h; simp
    · rw [zu_n (by omega)]
  have h2 : leadN (zu I 60 w v 60) C (I 58 2) w (I 58 5).toNat = leadN (I 60) C (I 58 2) w (I 58 5).toNat := by
    unfold leadN
    rw [h1]
  have h3 : markN (hvR (zu I 60 w v)) C w kd = markN (hvR I) C w kd := by
    unfold markN
    show (if kd = 5 then I 58 2 else leadN (zu I 60 w v 60) C (I 58 2) w (I 58 5).toNat) = (if kd = 5 then I 58 2 else leadN (I 60) C (I 58 2) w (I 58 5).toNat)
    rw [h2]
  unfold goalN
  rw [h3]
  rfl
theorem sogo_60 {I : Nat → Nat → Int} {w : Nat} {v kd : Int} {C : Nat → Int} {f h : Nat → Int64} {k : Nat} : sogoN (hvR (zu I 60 w v)) C w kd f h k = sogoN (hvR I) C w kd f h k := by
  have h1 : ∀ k, sogoP (hvR (zu I 60 w v)) C w kd f h k = sogoP (hvR I) C w kd f h k := fun k => by
    induction k with
    | zero => rfl
    | succ k ih => simp only [sogoP]; rw [ih]
  unfold sogoN
  rw [h1, goal_60]
theorem goes_60 {I : Nat → Nat → Int} {w : Nat} {v kd : Int} {C : Nat → Int} {f h : Nat → Int64} {m : Nat} : goesN (hvR (zu I 60 w v)) C w kd f h m = goesN (hvR I) C w kd f h m := by
  unfold goesN
  rw [show (fun k => !sogoN (hvR (zu I 60 w v)) C w kd f h k) = (fun k => !sogoN (hvR I) C w kd f h k) from funext fun k => by rw [sogo_60]]
def kindsR (I : Nat → Nat → Int) (J : Nat → Nat → Int64) (s t n w : Nat) : Nat := bitsN (fun k => goesN (hvR I) (I 62) w (k : Int) (roF J s) (roF J t) n) 6
theorem zu_zu {α : Type} {f : Nat → Nat → α} {i k : Nat} {a b : α} : zu (zu f i k a) i k b = zu f i k b := by
  funext x y
  simp only [zu]
  split <;> rfl
theorem zu_self {α : Type} {f : Nat → Nat → α} {i k : Nat} : zu f i k (f i k) = f := by
  funext x y
  simp only [zu]
  split
  · next h => rw [h.1, h.2]
  · rfl
