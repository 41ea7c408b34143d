/-! the fewest, in numbers; how many rows, counted by the cells to which they bring THE DOG -/
def fewP (H : HV) (p : SP) (k : Nat) : Bool := (brP H k p).isSome
def fewO (H : HV) (p : SP) (m : Int) : Option Nat := firstN (fewP H p) (m.toNat + 1)
def fFewest (I : Nat → Nat → Int) (J : Nat → Nat → Int64) (m i : Int) : Int :=
  if ¬ ((0 ≤ m ∧ m ≤ 6) ∧ -1 ≤ i) then -2
  else if i = -1 then 0
  else match fewO (hv I J 1) (spOf I 4) m with
    | none => -5
    | some l => if i < l then 0 else -5
def fewestN (I : Nat → Nat → Int) (J : Nat → Nat → Int64) (m i : Int) : Int :=
  if i = -1 then (match fewO (hv I J 1) (spOf I 4) m with
    | none => -1
    | some l => (l : Int))
  else match fewO (hv I J 1) (spOf I 4) m with
    | none => -1
    | some l => ((brP (hv I J 1) l (spOf I 4)).getD []).getD i.toNat 0
theorem frS_few {I I2 : Nat → Nat → Int} {p : SP} (h : frB (zSq I 40 p) I2 0) : frS I I2 := fun i hi => by
  rw [h.1 i (by omega) (by omega)]
  show zSp _ _ _ _ _ i = _
  rw [zSp_n (by omega) (by omega)]
theorem brP_len {H : HV} : ∀ (k : Nat) (p : SP) (l : List Int), brP H k p = some l → l.length = k := by
  intro k
  induction k with
  | zero =>
    intro p l h
    unfold brP at h
    split at h
    · cases h
    · cases h; rfl
  | succ k ih =>
    intro p l h
    unfold brP at h
    split at h
    · cases h
    · have key : ∀ n, optN (fun c => if canN H.1 H.2.1 H.2.2.1 p.1 (c : Int) = true then (brP H k (turnS H p (c : Int))).map (fun l => (c : Int) :: l) else none) n = some l → l.length = k + 1 := by
        intro n
        induction n with
        | zero => intro h2; cases h2
        | succ n ihn =>
          intro h2
          simp only [optN] at h2
          split at h2
          · next x hx => exact ihn (by rw [hx]; exact h2)
          · split at h2
            · cases h3 : brP H k (turnS H p (n : Int)) with
              | none => rw [h3] at h2; cases h2
              | some y =>
                rw [h3] at h2
                cases h2
                simp only [List.length_cons]
                rw [ih _ _ h3]
            · cases h2
      exact key 5 h
/-- one COMMAND more: k of them from a CELL, added to what is there -/
def arC (n : Int) (w : Int64) (pen : Int) (A : Nat → Int) (c : Nat) (B : Nat → Int) : Nat → Nat → Int
  | 0 => B
  | k + 1 => if (0 ≤ (c : Int) + shN k ∧ (c : Int) + shN k < 67) ∧ canN n w pen (c : Int) (k : Int) = true then up1 (arC n w pen A c B k) ((c : Int) + shN k).toNat (arC n w pen A c B k ((c : Int) + shN k).toNat + A c) else arC n w pen A c B k
def arA (n : Int) (w : Int64) (pen : Int) (A : Nat → Int) (B : Nat → Int) : Nat → Nat → Int
  | 0 => B
  | c + 1 => if 0 < A c then arC n w pen A c (arA n w pen A B c) 5 else arA n w pen A B c
/-- two rows of ints hold these -/
def zR2 (I : Nat → Nat → Int) (a b : Nat) (A B : Nat → Int) : Nat → Nat → Int := fun i k => if i = a then A k else if i = b then B k else I i k
def isQ (q : Nat × Nat) : Prop := q = (56, 57) ∨ q = (57, 56)
theorem isQ_ne {q : Nat × Nat} (h : isQ q) : q.1 ≠ q.2 := by rcases h with rfl | rfl <;> decide
theorem isQ_sw {q : Nat × Nat} (h : isQ q) : isQ (q.2, q.1) := by rcases h with rfl | rfl <;> simp [isQ]
theorem isQ_56 {q : Nat × Nat} (h : isQ q) : (q.1 = 56 ∨ q.1 = 57) ∧ (q.2 = 56 ∨ q.2 = 57) := by rcases h with rfl | rfl <;> decide
theorem lay_q1 {q : Nat × Nat} (h : isQ q) : LAY[q.1]? = some (7, 67) := by rcases h with rfl | rfl <;> rfl
theorem lay_q2 {q : Nat × Nat} (h : isQ q) : LAY[q.2]? = some (7, 67) := by rcases h with rfl | rfl <;> rfl
theorem zR2_a {I : Nat → Nat → Int} {a b : Nat} {A B : Nat → Int} : zR2 I a b A B a = A := by funext k; simp [zR2]
theorem zR2_b {I : Nat → Nat → Int} {a b : Nat} {A B : Nat → Int} (h : a ≠ b) : zR2 I a b A B b = B := by funext k; simp [zR2, Ne.symm h]
theorem zR2_n {I : Nat → Nat → Int} {a b i : Nat} {A B : Nat → Int} (h : i ≠ a) (h2 : i ≠ b) : zR2 I a b A B i = I i := by funext k; simp [zR2, h, h2]
theorem zR2_pa {I : Nat → Nat → Int} {a b e : Nat} {A B : Nat → Int} {v : Int} : zu (zR2 I a b A B) a e v = zR2 I a b (up1 A e v) B := by
  funext i k
  simp only [zu, zR2, up1]
  by_cases h1 : i = a
  · subst h1
    by_cases h2 : k = e <;> simp [h2]
  · simp [h1]
theorem zR2_pb {I : Nat → Nat → Int} {a b e : Nat} {A B : Nat → Int} {v : Int} (h : a ≠ b) : zu (zR2 I a b A B) b e v = zR2 I a b A (up1 B e v) := by
  funext i k
  simp only [zu, zR2, up1]
  by_cases h1 : i = b
  · subst h1
    by_cases h2 : k = e <;> simp [h2, Ne.symm h]
  · simp [h1]
theorem zR2_self {I : Nat → Nat → Int} {a b : Nat} : zR2 I a b (I a) (I b) = I := by
  funext i k
  simp only [zR2]
  split
  · next h => rw [h]
  · split
    · next h => rw [h]
    · rfl
theorem zR2_sw {I : Nat → Nat → Int} {a b : Nat} {A B : Nat → Int} (h : a ≠ b) : zR2 I a b A B = zR2 I b a B A := by
  funext i k
  simp only [zR2]
  by_cases h1 : i = a
  · subst h1; simp [h]
  · simp [h1]
theorem zR2_fb {I : Nat → Nat → Int} {a b : Nat} {A B : Nat → Int} {m : Nat} {v : Int} (h : a ≠ b) : zfl (zR2 I a b A B) b m v = zR2 I a b A (fun k => if k < m then v else B k) := by
  funext i k
  simp only [zfl, zR2]
  by_cases h1 : i = b
  · subst h1
    by_cases h2 : k < m <;> simp [h2, Ne.symm h]
  · simp [h1]
def stA (d : Int) (A : Nat → Int) : Nat → Nat → Int
  | 0 => A
  | k + 1 => up1 (stA d A k) k (if (k : Int) = d then 1 else 0)
/-- the rows of t COMMANDS, by where they bring it -/
def waA (n : Int) (w : Int64) (pen d : Int) (A B : Nat → Int) : Nat → (Nat → Int) × (Nat → Int)
  | 0 => (stA d A 67, B)
  | t + 1 => (arA n w pen (waA n w pen d A B t).1 (fun k => if k < 67 then 0 else (waA n w pen d A B t).2 k) 67, (waA n w pen d A B t).1)
def waysN (I : Nat → Nat → Int) (J : Nat → Nat → Int64) (q : Nat × Nat) (m : Int) : Int := sumN (waA (I 1 0) (J 1 5) (I 1 1) (I 4 0) (I q.1) (I q.2) m.toNat).1 67
def swQ (q : Nat × Nat) : Nat → Nat × Nat
  | 0 => q
  | k + 1 => ((swQ q k).2, (swQ q k).1)
theorem swQ_is {q : Nat × Nat} (h : isQ q) (k : Nat) : isQ (swQ q k) := by
  induction k with
  | zero => exact h
  | succ k ih => exact isQ_sw ih
theorem stA_v {d : Int} {A : Nat → Int} (k : Nat) : ∀ c, c < k → stA d A k c = if (c : Int) = d then 1 else 0 := by
  induction k with
  | zero => intro c h; omega
  | succ k ih =>
    intro c hc
    simp only [stA, up1]
    split
    · next h => rw [h]
    · exact ih c (by omega)
def wS (f W : Nat → Int) (n : Nat) : Int := sumN (fun e => f e * W e) n
theorem wS_no {B W : Nat → Int} {e : Nat} {v : Int} (n : Nat) (h : n ≤ e) : wS (up1 B e v) W n = wS B W n := by
  induction n with
  | zero => rfl
  | succ n ih =>
    have h1 := ih (by omega)
    unfold wS at h1 ⊢
    simp only [sumN]
    rw [h1]
    simp only [up1]
    rw [if_neg (by omega)]
theorem wS_up {B W : Nat → Int} {e : Nat} {a : Int} (n : Nat) (h : e < n) : wS (up1 B e (B e + a)) W n = wS B W n + a * W e := by
  induction n with
  | zero => omega
  | succ n ih =>
    by_cases q : e = n
    · subst q
      have h1 := wS_no (B := B) (W := W) (v := B e + a) e (Nat.le_refl e)
      unfold wS at h1 ⊢
      simp only [sumN]
      rw [h1]
      simp only [up1]
      rw [if_pos trivial, Int.add_mul]
      omega
    · have h1 := ih (by omega)
      unfold wS at h1 ⊢
      simp only [sumN]
      rw [h1]
      simp only [up1]
      rw [if_neg (Ne.symm q)]
      omega
def stepC (n : Int) (w : Int64) (pen : Int) (c : Nat) (k : Nat) : Prop := (0 ≤ (c : Int) + shN k ∧ (c : Int) + shN k < 67) ∧ canN n w pen (c : Int) (k : Int) = true
theorem arC_w {n : Int} {w : Int64} {pen : Int} {A B W : Nat → Int} {c : Nat} (k : Nat) : wS (arC n w pen A c B k) W 67 = wS B W 67 + A c * sumN (fun j => if (0 ≤ (c : Int) + shN j ∧ (c : Int) + shN j < 67) ∧ canN n w pen (c : Int) (j : Int) = true then W ((c : Int) + shN j).toNat else 0) k := by
  induction k with
  | zero => simp [arC, sumN]
  | succ k ih =>
    simp only [arC, sumN]
    split
    · next h => rw [wS_up 67 (by omega), ih, Int.mul_add]; omega
    · rw [ih, Int.mul_add, Int.mul_zero]; omega
def sgW (n : Int) (w : Int64) (pen : Int) (W : Nat → Int) (c : Nat) : Int := sumN (fun j => if (0 ≤ (c : Int) + shN j ∧ (c : Int) + shN j < 67) ∧ canN n w pen (c : Int) (j : Int) = true then W ((c : Int) + shN j).toNat else 0) 5
theorem arA_w {n : Int} {w : Int64} {pen : Int} {A B W : Nat → Int} (hA : ∀ c, c < 67 → 0 ≤ A c) (m : Nat) (hm : m ≤ 67) : wS (arA n w pen A B m) W 67 = wS B W 67 + wS A (sgW n w pen W) m := by
  induction m with
  | zero => simp [arA, wS, sumN]
  | succ m ih =>
    have h1 := ih (by omega)
    have h2 := hA m (by omega)
    have e : wS A (sgW n w pen W) (m + 1) = wS A (sgW n w pen W) m + A m * sgW n w pen W m := rfl
    rw [e]
    simp only [arA]
    split
    · rw [arC_w, h1]
      show _ + A m * sgW n w pen W m = _
      omega
    · rw [h1, show A m = 0 by omega]
      omega
theorem wS_1 {f : Nat → Int} (n : Nat) : wS f (fun _ => 1) n = sumN f n := by
  induction n with
  | zero => rfl
  | succ n ih =>
    unfold wS at ih ⊢
    simp only [sumN]
    rw [ih, Int.mul_one]
theorem wS_0 {W : Nat → Int} {f : Nat → Int} (n : Nat) (h : ∀ c, c < n → f c = 0) : wS f W n = 0 := by
  induction n with
  | zero => rfl
  | succ n ih =>
    have h1 := ih (fun c hc => h c (by omega))
    unfold wS at h1 ⊢
    simp only [sumN]
    rw [h1, h n (by omega), Int.zero_mul]
    rfl
theorem sgW_1 {n : Int} {w : Int64} {pen : Int} {c : Nat} : 0 ≤ sgW n w pen (fun _ => 1) c ∧ sgW n w pen (fun _ => 1) c ≤ 5 := by
  have := sumN_b (f := fun j => if (0 ≤ (c : Int) + shN j ∧ (c : Int) + shN j < 67) ∧ canN n w pen (c : Int) (j : Int) = true then (1 : Int) else 0) (b := 1) (k := 5) (fun e _ => by split <;> omega)
  show 0 ≤ sumN (fun j => if (0 ≤ (c : Int) + shN j ∧ (c : Int) + shN j < 67) ∧ canN n w pen (c : Int) (j : Int) = true then (1 : Int) else 0) 5 ∧ sumN (fun j => if (0 ≤ (c : Int) + shN j ∧ (c : Int) + shN j < 67) ∧ canN n w pen (c : Int) (j : Int) = true then (1 : Int) else 0) 5 ≤ 5
  omega
theorem wS_le {f W : Nat → Int} {b : Int} (n : Nat) (hf : ∀ c, c < n → 0 ≤ f c) (hW : ∀ c, W c ≤ b) : wS f W n ≤ sumN f n * b := by
  induction n with
  | zero => simp [wS, sumN]
  | succ n ih =>
    have h1 := ih (fun c hc => hf c (by omega))
    unfold wS at h1 ⊢
    simp only [sumN]
    rw [Int.add_mul]
    have h2 : f n * W n ≤ f n * b := Int.mul_le_mul_of_nonneg_left (hW n) (hf n (by omega))
    omega
theorem sumN_ge {f : Nat → Int} (n : Nat) (hf : ∀ c, c < n → 0 ≤ f c) : ∀ c, c < n → f c ≤ sumN f n := by
  induction n with
  | zero => intro c h; omega
  | succ n ih =>
    intro c hc
    have h0 := ih (fun c hc => hf c (by omega))
    have h3 : 0 ≤ sumN f n := by
      have : ∀ m, m ≤ n → 0 ≤ sumN f m := by
        intro m
        induction m with
        | zero => intro _; simp [sumN]
        | succ m ihm =>
          intro hm
          have a1 := ihm (by omega)
          have a2 := hf m (by omega)
          simp only [sumN]
          omega
      exact this n (Nat.le_refl n)
    simp only [sumN]
    by_cases q : c = n
    · subst q; omega
    · have a1 := h0 c (by omega)
      have a2 := hf n (by omega)
      omega
theorem arC_0 {n : Int} {w : Int64} {pen : Int} {A B : Nat → Int} {c : Nat} (ha : 0 ≤ A c) (hB : ∀ k, k < 67 → 0 ≤ B k) (k : Nat) : ∀ e, e < 67 → 0 ≤ arC n w pen A c B k e := by
  induction k with
  | zero => exact hB
  | succ k ih =>
    intro e he
    simp only [arC]
    split
    · next h =>
      simp only [up1]
      split
      · have h1 := ih ((c : Int) + shN k).toNat (by omega)
        omega
      · exact ih e he
    · exact ih e he
theorem arA_0 {n : Int} {w : Int64} {pen : Int} {A B : Nat → Int} (hA : ∀ c, c < 67 → 0 ≤ A c) (hB : ∀ k, k < 67 → 0 ≤ B k) (m : Nat) (hm : m ≤ 67) : ∀ e, e < 67 → 0 ≤ arA n w pen A B m e := by
  induction m with
  | zero => exact hB
  | succ m ih =>
    simp only [arA]
    split
    · exact arC_0 (hA m (by omega)) (ih (by omega)) 5
    · exact ih (by omega)
theorem waA_0 {n : Int} {w : Int64} {pen d : Int} {A B : Nat → Int} (t : Nat) : ∀ c, c < 67 → 0 ≤ (waA n w pen d A B t).1 c := by
  induction t with
  | zero =>
    intro c hc
    simp only [waA]
    rw [stA_v 67 c hc]
    split <;> omega
  | succ t ih => exact arA_0 ih (fun k hk => by rw [if_pos hk]; exact Int.le_refl 0) 67 (by omega)
theorem stA_w {d : Int} {A W : Nat → Int} (m : Nat) : wS (stA d A 67) W (min m 67) = if 0 ≤ d ∧ d < (min m 67 : Nat) then W d.toNat else 0 := by
  induction m with
  | zero => rw [show min 0 67 = 0 from rfl, if_neg (by omega)]; rfl
  | succ m ih =>
    by_cases q : m < 67
    · rw [show min (m + 1) 67 = m + 1 by omega]
      rw [show min m 67 = m by omega] at ih
      have e : wS (stA d A 67) W (m + 1) = wS (stA d A 67) W m + stA d A 67 m * W m := rfl
      rw [e, ih, stA_v 67 m q]
      by_cases h : (m : Int) = d
      · subst h
        rw [if_neg (by omega), if_pos rfl, if_pos (by omega)]
        simp
      · rw [if_neg h]
        by_cases h2 : 0 ≤ d ∧ d < (m : Nat)
        · rw [if_pos h2, if_pos (by omega)]; omega
        · rw [if_neg h2, if_neg (by omega)]; omega
    · rw [show min (m + 1) 67 = min m 67 by omega]
      exact ih
/-- how many rows of t COMMANDS THE DOG can do from a CELL -/
def sgP (n : Int) (w : Int64) (pen : Int) : Nat → Nat → Int
  | 0 => fun _ => 1
  | t + 1 => sgW n w pen (sgP n w pen t)
theorem waA_w {n : Int} {w : Int64} {pen d : Int} {A B : Nat → Int} (hd : 0 ≤ d ∧ d ≤ 66) (t : Nat) : ∀ W, wS (waA n w pen d A B t).1 W 67 = (Nat.repeat (sgW n w pen) t W) d.toNat := by
  induction t with
  | zero =>
    intro W
    have := stA_w (d := d) (A := A) (W := W) 67
    rw [show min 67 67 = 67 from rfl, if_pos (by omega)] at this
    exact this
  | succ t ih =>
    intro W
    have e : wS (waA n w pen d A B (t + 1)).1 W 67 = wS (fun k => if k < 67 then 0 else (waA n w pen d A B t).2 k) W 67 + wS (waA n w pen d A B t).1 (sgW n w pen W) 67 := arA_w (waA_0 t) 67 (Nat.le_refl 67)
    rw [e, wS_0 67 (fun c hc => if_pos hc), ih]
    have h2 : ∀ (k : Nat) (V : Nat → Int), Nat.repeat (sgW n w pen) k (sgW n w pen V) = sgW n w pen (Nat.repeat (sgW n w pen) k V) := by
      intro k
      induction k with
      | zero => intro V; rfl
      | succ k ihk => intro V; show sgW n w pen (Nat.repeat (sgW n w pen) k (sgW n w pen V)) = _; rw [ihk]; rfl
    rw [h2]
    show 0 + _ = _
    rw [Int.zero_add]
    rfl
theorem sgP_b {n : Int} {w : Int64} {pen : Int} (t : Nat) : ∀ c, 0 ≤ sgP n w pen t c ∧ sgP n w pen t c ≤ 5 ^ t := by
  induction t with
  | zero => intro c; simp [sgP]
  | succ t ih =>
    intro c
    have h := sumN_b (f := fun j => if (0 ≤ (c : Int) + shN j ∧ (c : Int) + shN j < 67) ∧ canN n w pen (c : Int) (j : Int) = true then sgP n w pen t ((c : Int) + shN j).toNat else 0) (b := 5 ^ t) (k := 5) (fun e _ => by
      have h1 := ih ((c : Int) + shN e).toNat
      have h2 : (0 : Int) ≤ 5 ^ t := Int.le_trans h1.1 h1.2
      split
      · exact h1
      · exact ⟨Int.le_refl 0, h2⟩)
    show 0 ≤ sumN _ 5 ∧ sumN _ 5 ≤ _
    rw [Int.pow_succ]
    omega
theorem sgP_rep {n : Int} {w : Int64} {pen : Int} (t : Nat) : Nat.repeat (sgW n w pen) t (fun _ => 1) = sgP n w pen t := by
  induction t with
  | zero => rfl
  | succ t ih => show sgW n w pen (Nat.repeat (sgW n w pen) t (fun _ => 1)) = _; rw [ih]; rfl
theorem waA_sum {n : Int} {w : Int64} {pen d : Int} {A B : Nat → Int} (hd : 0 ≤ d ∧ d ≤ 66) (t : Nat) : sumN (waA n w pen d A B t).1 67 = sgP n w pen t d.toNat := by
  rw [← wS_1, waA_w hd, sgP_rep]
theorem pow5 : ∀ t, t ≤ 6 → (5 : Int) ^ t ≤ 15625 := by decide
theorem waA_r {n : Int} {w : Int64} {pen d : Int} {A B : Nat → Int} (hd : 0 ≤ d ∧ d ≤ 66) (t : Nat) (ht : t ≤ 6) : ∀ c, c < 67 → 0 ≤ (waA n w pen d A B t).1 c ∧ (waA n w pen d A B t).1 c ≤ 15625 := by
  intro c hc
  have h1 := waA_0 (n := n) (w := w) (pen := pen) (d := d) (A := A) (B := B) t
  have h2 := sumN_ge 67 h1 c hc
  rw [waA_sum hd] at h2
  have h3 := (sgP_b (n := n) (w := w) (pen := pen) t d.toNat).2
  have h4 := pow5 t ht
  exact ⟨h1 c hc, by omega⟩
def fWays (m : Int) : Int := if 0 ≤ m ∧ m ≤ 6 then 0 else -2
theorem lay_k1' : ∀ i, i < 74 → (LAY[i]?).map Prod.fst = some 1 → i = 38 := by decide +kernel
theorem lay_k1 {i : Nat} (h : (LAY[i]?).map Prod.fst = some 1) : i = 38 := by
  by_cases hi : i < 74
  · exact lay_k1' i hi h
  · rw [List.getElem?_eq_none (show LAY.length ≤ i from Nat.le_trans (by decide) (Nat.le_of_not_lt hi))] at h
    cases h
theorem zRT_k {q q' : Nat × Nat} {i k : Nat} (h4 : i = 38 → k = 4 → q.1 = q'.1) (h5 : i = 38 → k = 5 → q.2 = q'.2) : zRT q i k = zRT q' i k := by
  by_cases h : (LAY[i]?).map Prod.fst = some 1
  · have hi := lay_k1 h
    subst hi
    match k with
    | 0 | 1 | 2 | 3 => rfl
    | 4 => exact congrArg some (h4 rfl rfl)
    | 5 => exact congrArg some (h5 rfl rfl)
    | k + 6 => rfl
  · unfold zRT
    generalize (LAY[i]?).map Prod.fst = o at h
    split <;> first | rfl | exact absurd rfl h | simp_all
section YQ
variable {g : zG} {X : zX} {M : zM} {d mc ms nc ns : Nat} {I : Nat → Nat → Int} {J : Nat → Nat → Int64} {q : Nat × Nat} {pc : Nat} {L : List (Nat × Value)} {S : List Value} {idx : Nat}
theorem y_putRows4 (C : zC g X M d mc ms) {v : Nat} (hlk : Cond.fieldLink M.1.cls idx (TX1 4).1 (TX1 4).2.1 (TX1 4).2.2.1 ∈ zTb) (hd : decode M.2.1 pc = .ok (.putfield idx, 3)) (kk : zZ g X nc ns (zst I J (v, q.2)) (pc + 3) L S) : zZ g X nc ns (zst I J q) pc L (.ref v :: .ref 38 :: S) := by
  refine z_putR C zCl1 4 hlk rfl ⟨rfl, rfl⟩ rfl (show LAY[38]? = some (1, 6) from rfl) hd ?_
  refine zZ_cast (σ' := zst I J (v, q.2)) ?_ rfl rfl kk
  refine congrArg (fun r => ((LAY, I, J, r) : zSt)) ?_
  funext i k
  simp only [zu]
  split
  · next h => obtain ⟨rfl, rfl⟩ := h; rfl
  · next h => exact zRT_k (fun h1 h2 => absurd ⟨h1, h2⟩ h) (fun _ _ => rfl)
theorem y_putRows5 (C : zC g X M d mc ms) {v : Nat} (hlk : Cond.fieldLink M.1.cls idx (TX1 5).1 (TX1 5).2.1 (TX1 5).2.2.1 ∈ zTb) (hd : decode M.2.1 pc = .ok (.putfield idx, 3)) (kk : zZ g X nc ns (zst I J (q.1, v)) (pc + 3) L S) : zZ g X nc ns (zst I J q) pc L (.ref v :: .ref 38 :: S) := by
  refine z_putR C zCl1 5 hlk rfl ⟨rfl, rfl⟩ rfl (show LAY[38]? = some (1, 6) from rfl) hd ?_
  refine zZ_cast (σ' := zst I J (q.1, v)) ?_ rfl rfl kk
  refine congrArg (fun r => ((LAY, I, J, r) : zSt)) ?_
  funext i k
  simp only [zu]
  split
  · next h => obtain ⟨rfl, rfl⟩ := h; rfl
  · next h => exact zRT_k (fun _ _ => rfl) (fun h1 h2 => absurd ⟨h1, h2⟩ h)
end YQ
