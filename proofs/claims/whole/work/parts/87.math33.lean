theorem gR_im {I : Nat → Nat → Int} {v : Int} (h : gR I) : gR (zu I 58 22 v) := h
/-! the reference's walks -/
def zFr (I : Nat → Nat → Int) (F : Nat → Int) : Nat → Nat → Int := fun i k => if i = 73 then F k else I i k
theorem zFr_self {I : Nat → Nat → Int} : zFr I (I 73) = I := by
  funext i k
  unfold zFr
  split
  · next h => rw [h]
  · rfl
theorem zFr_p {I : Nat → Nat → Int} {F : Nat → Int} {k : Nat} {v : Int} : zu (zFr I F) 73 k v = zFr I (up1 F k v) := by
  funext i j
  simp only [zu, zFr, up1]
  by_cases h : i = 73
  · by_cases h2 : j = k <;> simp [h, h2]
  · simp [h]
theorem zFr_n {I : Nat → Nat → Int} {F : Nat → Int} {i : Nat} (h : i ≠ 73) : zFr I F i = I i := by
  funext k
  unfold zFr
  rw [if_neg h]
theorem gR_F {I : Nat → Nat → Int} {F : Nat → Int} (h : gR I) : gR (zFr I F) := h
theorem frR_F {I : Nat → Nat → Int} {F : Nat → Int} : frR I (zFr I F) := ⟨fun i h1 h2 => zFr_n (by omega), fun k _ => by rw [zFr_n (by decide)]⟩
def wku (n : Int) (w : Int64) (pen : Int) (s c k : Nat) (F : Nat → Int) : Nat → Int := if F c = (s : Int) ∧ bsN n w (c : Int) k ≠ -1 ∧ bsN n w (c : Int) k ≠ pen ∧ F (bsN n w (c : Int) k).toNat = 0 then up1 F (bsN n w (c : Int) k).toNat ((s : Int) + 1) else F
def wkK (n : Int) (w : Int64) (pen : Int) (s c : Nat) (F : Nat → Int) : Nat → Nat → Int
  | 0 => F
  | k + 1 => wku n w pen s c (k + 1) (wkK n w pen s c F k)
def wkC (n : Int) (w : Int64) (pen : Int) (s : Nat) (F : Nat → Int) : Nat → Nat → Int
  | 0 => F
  | c + 1 => wkK n w pen s c (wkC n w pen s F c) 4
def wkS (n : Int) (w : Int64) (pen : Int) (F : Nat → Int) : Nat → Nat → Int
  | 0 => F
  | t + 1 => wkC n w pen (t + 1) (wkS n w pen F t) 67
def wkG (F : Nat → Int) : Prop := ∀ c, c < 67 → (F c ≠ 0 → gC7 (c : Int)) ∧ 0 ≤ F c ∧ F c ≤ 50
theorem wku_g {n : Int} {w : Int64} {pen : Int} {s c k : Nat} {F : Nat → Int} (hn : n ≤ 7) (hs : s ≤ 49) (h : wkG F) : wkG (wku n w pen s c k F) := by
  unfold wku
  split
  · next h2 =>
    intro x hx
    simp only [up1]
    by_cases e : x = (bsN n w (c : Int) k).toNat
    · rw [if_pos e]
      have h7 := bsN_7 (w := w) (c := (c : Int)) (k := k) hn
      have h8 : gC7 (bsN n w (c : Int) k) := h7.resolve_left h2.2.1
      have h9 := h8.1
      have h10 : (x : Int) = bsN n w (c : Int) k := by omega
      rw [h10]
      exact ⟨fun _ => h8, by omega, by omega⟩
    · rw [if_neg e]
      exact h x hx
  · exact h
theorem wkK_g {n : Int} {w : Int64} {pen : Int} {s c : Nat} {F : Nat → Int} (hn : n ≤ 7) (hs : s ≤ 49) (h : wkG F) : ∀ k, wkG (wkK n w pen s c F k)
  | 0 => h
  | k + 1 => wku_g hn hs (wkK_g hn hs h k)
theorem wkC_g {n : Int} {w : Int64} {pen : Int} {s : Nat} {F : Nat → Int} (hn : n ≤ 7) (hs : s ≤ 49) (h : wkG F) : ∀ c, wkG (wkC n w pen s F c)
  | 0 => h
  | c + 1 => wkK_g hn hs (wkC_g hn hs h c) 4
theorem wkS_g {n : Int} {w : Int64} {pen : Int} {F : Nat → Int} (hn : n ≤ 7) (h : wkG F) : ∀ t, t ≤ 49 → wkG (wkS n w pen F t)
  | 0, _ => h
  | t + 1, ht => wkC_g hn ht (wkS_g hn h t (by omega)) 67
def wk0 (F : Nat → Int) (d : Int) : Nat → Int := up1 (fun k => if k < 67 then 0 else F k) d.toNat 1
theorem wk0_g {F : Nat → Int} {d : Int} (h : gC7 d) : wkG (wk0 F d) := by
  intro c hc
  unfold wk0
  simp only [up1]
  by_cases e : c = d.toNat
  · rw [if_pos e]
    have h2 := h.1
    rw [show (c : Int) = d by omega]
    exact ⟨fun _ => h, by decide, by decide⟩
  · rw [if_neg e, if_pos hc]
    exact ⟨fun z => absurd rfl z, by decide, by decide⟩
def farR (I : Nat → Nat → Int) : Nat → Int := wkS (I 58 0) (maskW (I 59)) (I 58 2) (wk0 (I 73) (I 58 3)) 49
theorem farR_g {I : Nat → Nat → Int} (h : gR I) (h2 : gC7 (I 58 3)) : wkG (farR I) := wkS_g h.1.2 (wk0_g h2) 49 (Nat.le_refl _)
theorem zFr_s {I : Nat → Nat → Int} {F : Nat → Int} {k : Nat} : zFr I F 73 k = F k := if_pos (Eq.refl 73)
