/-! the reference reads THE TAPE -/
def gTR (I : Nat → Nat → Int) : Prop := (0 ≤ I 58 12 ∧ I 58 12 ≤ 250) ∧ ∀ k, k < 250 → 0 ≤ I 63 k ∧ I 63 k ≤ 255
def zTR (I : Nat → Nat → Int) (s e t v : Int) : Nat → Nat → Int := fun i k => if i = 58 then (if k = 14 then s else if k = 15 then e else if k = 16 then t else if k = 17 then v else I 58 k) else I i k
theorem zTR_n {I : Nat → Nat → Int} {s e t v : Int} {i : Nat} (h : i ≠ 58) : zTR I s e t v i = I i := by funext k; simp [zTR, h]
theorem zTR_k {I : Nat → Nat → Int} {s e t v : Int} {k : Nat} (h : k < 14 ∨ 17 < k) : zTR I s e t v 58 k = I 58 k := by
  unfold zTR
  rw [if_pos rfl, if_neg (by omega), if_neg (by omega), if_neg (by omega), if_neg (by omega)]
theorem zTR_14 {I : Nat → Nat → Int} {s e t v : Int} : zTR I s e t v 58 14 = s := congrArg (fun x => x) rfl
theorem zTR_15 {I : Nat → Nat → Int} {s e t v : Int} : zTR I s e t v 58 15 = e := congrArg (fun x => x) rfl
theorem zTR_16 {I : Nat → Nat → Int} {s e t v : Int} : zTR I s e t v 58 16 = t := congrArg (fun x => x) rfl
theorem zTR_17 {I : Nat → Nat → Int} {s e t v : Int} : zTR I s e t v 58 17 = v := congrArg (fun x => x) rfl
theorem zTR_p14 {I : Nat → Nat → Int} {s e t v x : Int} : zu (zTR I s e t v) 58 14 x = zTR I x e t v := by
  funext i k
  by_cases h : i = 58
  · subst h
    rcases (show k = 14 ∨ k = 15 ∨ k = 16 ∨ k = 17 ∨ (k ≠ 14 ∧ k ≠ 15 ∧ k ≠ 16 ∧ k ≠ 17) by omega) with rfl | rfl | rfl | rfl | ⟨h1, h2, h3, h4⟩ <;> simp [zu, zTR, *]
  · simp [zu, zTR, h]
theorem zTR_p15 {I : Nat → Nat → Int} {s e t v x : Int} : zu (zTR I s e t v) 58 15 x = zTR I s x t v := by
  funext i k
  by_cases h : i = 58
  · subst h
    rcases (show k = 14 ∨ k = 15 ∨ k = 16 ∨ k = 17 ∨ (k ≠ 14 ∧ k ≠ 15 ∧ k ≠ 16 ∧ k ≠ 17) by omega) with rfl | rfl | rfl | rfl | ⟨h1, h2, h3, h4⟩ <;> simp [zu, zTR, *]
  · simp [zu, zTR, h]
theorem zTR_p16 {I : Nat → Nat → Int} {s e t v x : Int} : zu (zTR I s e t v) 58 16 x = zTR I s e x v := by
  funext i k
  by_cases h : i = 58
  · subst h
    rcases (show k = 14 ∨ k = 15 ∨ k = 16 ∨ k = 17 ∨ (k ≠ 14 ∧ k ≠ 15 ∧ k ≠ 16 ∧ k ≠ 17) by omega) with rfl | rfl | rfl | rfl | ⟨h1, h2, h3, h4⟩ <;> simp [zu, zTR, *]
  · simp [zu, zTR, h]
theorem zTR_p17 {I : Nat → Nat → Int} {s e t v x : Int} : zu (zTR I s e t v) 58 17 x = zTR I s e t x := by
  funext i k
  by_cases h : i = 58
  · subst h
    rcases (show k = 14 ∨ k = 15 ∨ k = 16 ∨ k = 17 ∨ (k ≠ 14 ∧ k ≠ 15 ∧ k ≠ 16 ∧ k ≠ 17) by omega) with rfl | rfl | rfl | rfl | ⟨h1, h2, h3, h4⟩ <;> simp [zu, zTR, *]
  · simp [zu, zTR, h]
theorem zTR_self {I : Nat → Nat → Int} : zTR I (I 58 14) (I 58 15) (I 58 16) (I 58 17) = I := by
  funext i k
  by_cases h : i = 58
  · subst h
    rcases (show k = 14 ∨ k = 15 ∨ k = 16 ∨ k = 17 ∨ (k ≠ 14 ∧ k ≠ 15 ∧ k ≠ 16 ∧ k ≠ 17) by omega) with rfl | rfl | rfl | rfl | ⟨h1, h2, h3, h4⟩ <;> simp [zTR, *]
  · simp [zTR, h]
theorem zTR_a {I : Nat → Nat → Int} {x : Int} : zu I 58 14 x = zTR I x (I 58 15) (I 58 16) (I 58 17) := by
  have h := zTR_p14 (I := I) (s := I 58 14) (e := I 58 15) (t := I 58 16) (v := I 58 17) (x := x)
  rw [zTR_self] at h
  exact h
theorem zTR_zTR {I : Nat → Nat → Int} {s e t v s' e' t' v' : Int} : zTR (zTR I s e t v) s' e' t' v' = zTR I s' e' t' v' := by
  funext i k
  by_cases h : i = 58
  · subst h
    simp only [zTR, if_true]
    (repeat' split) <;> rfl
  · simp [zTR, h]
theorem gTR_z {I : Nat → Nat → Int} {s e t v : Int} (h : gTR I) : gTR (zTR I s e t v) := h
def rtkN (T : Int) (len : Nat) : Int := if T = 0 then 101 else if T = 1 then 119 else if T = 2 then (if 2 < len then 120 else 48) else if T = 3 then 59 else 120
def rvlN (f : Nat → Int) (T : Int) (s len : Nat) (v0 : Int) : Int := if T = 2 then dgN f s (min 2 len) else v0
/-- the reference's token, read from p on -/
def nxR (I : Nat → Nat → Int) (f : Nat → Int) (n p : Nat) : Nat → Nat → Int := zTR I (skN f n p : Nat) (tokE f n p : Nat) (rtkN (tokT f n p) (tokE f n p - skN f n p)) (rvlN f (tokT f n p) (skN f n p) (tokE f n p - skN f n p) (I 58 17))
theorem nxR_of {I : Nat → Nat → Int} {f : Nat → Int} {n p s z : Nat} {T t v : Int} (hs : skN f n p = s) (hz : tokE f n p = z) (hT : tokT f n p = T) (ht : t = rtkN T (z - s)) (hv : v = rvlN f T s (z - s) (I 58 17)) : zTR I (s : Nat) (z : Nat) t v = nxR I f n p := by
  unfold nxR
  rw [hs, hz, hT, ht, hv]
theorem tkN_l {c : Int} : tkN c = 1 ↔ (97 ≤ c ∧ c ≤ 122) := by
  unfold tkN
  constructor
  · (repeat' split) <;> intro h <;> omega
  · intro h; rw [if_neg (by omega), if_pos h]
theorem tkN_d {c : Int} : tkN c = 2 ↔ (48 ≤ c ∧ c ≤ 57) := by
  unfold tkN
  constructor
  · (repeat' split) <;> intro h <;> omega
  · intro h; rw [if_neg (by omega), if_neg (by omega), if_pos h]
theorem tkN_o {c : Int} (h0 : 0 ≤ c) (h1 : ¬ (97 ≤ c ∧ c ≤ 122)) (h2 : ¬ (48 ≤ c ∧ c ≤ 57)) : tkN c = if c = 59 then 3 else 4 := by
  unfold tkN
  rw [if_neg (by omega), if_neg h1, if_neg h2]
theorem tokE_1 {f : Nat → Int} {n p z : Nat} {T : Int} (hT : tokT f n p = T) (h12 : T = 1 ∨ T = 2) (h : runN f n (skN f n p + 1) T = z) : tokE f n p = z := by
  unfold tokE
  rw [hT, if_neg (by omega), if_pos h12, h]
theorem tokE_o {f : Nat → Int} {n p : Nat} {T : Int} (hT : tokT f n p = T) (h0 : T ≠ 0) (h12 : ¬ (T = 1 ∨ T = 2)) : tokE f n p = skN f n p + 1 := by
  unfold tokE
  rw [hT, if_neg h0, if_neg h12]
theorem tokE_0 {f : Nat → Int} {n p : Nat} (hT : tokT f n p = 0) : tokE f n p = skN f n p := by
  unfold tokE
  rw [hT, if_pos rfl]
