/-! what a call of the reference may leave behind in its own rows -/
def frR (I I2 : Nat → Nat → Int) : Prop := (∀ i, i ≠ 58 → (i < 69 ∨ 74 ≤ i) → I2 i = I i) ∧ ∀ k, (k < 14 ∨ (17 < k ∧ k < 28) ∨ 28 < k) → I2 58 k = I 58 k
theorem frR_rf {I : Nat → Nat → Int} : frR I I := ⟨fun _ _ _ => rfl, fun _ _ => rfl⟩
theorem frR_tr {I I1 I2 : Nat → Nat → Int} (a : frR I I1) (b : frR I1 I2) : frR I I2 := ⟨fun i h1 h2 => (b.1 i h1 h2).trans (a.1 i h1 h2), fun k h => (b.2 k h).trans (a.2 k h)⟩
theorem frR_sv {I : Nat → Nat → Int} {d : Nat} {p : SP} : frR I (svI I d p) := ⟨fun i h1 h2 => svI_n (by omega), fun k h => by rw [svI_n (by omega)]⟩
theorem frR_i {I I2 : Nat → Nat → Int} (h : frR I I2) {i : Nat} (h1 : i ≠ 58) (h2 : i < 69) : I2 i = I i := h.1 i h1 (.inl h2)
theorem frR_gR {I I2 : Nat → Nat → Int} (h : frR I I2) (hg : gR I) : gR I2 := by
  unfold gR
  rw [h.2 0 (by omega), h.2 2 (by omega), h.2 9 (by omega), h.2 5 (by omega), frR_i h (by decide) (by decide), frR_i h (by decide) (by decide), frR_i h (by decide) (by decide)]
  exact hg
theorem frR_sp {I I2 : Nat → Nat → Int} (h : frR I I2) : spR I2 = spR I := by
  unfold spR
  rw [h.2 3 (by omega), h.2 4 (by omega), frR_i h (by decide) (by decide)]
theorem frR_hv {I I2 : Nat → Nat → Int} (h : frR I I2) : hvR I2 = hvR I := by
  unfold hvR
  rw [h.2 0 (by omega), h.2 2 (by omega), h.2 5 (by omega), frR_i h (by decide) (by decide), frR_i h (by decide) (by decide), frR_i h (by decide) (by decide)]
theorem frR_gRL {I I2 : Nat → Nat → Int} (h : frR I I2) (hg : gRL I) : gRL I2 := by
  unfold gRL
  rw [frR_i h (by decide) (by decide), frR_i h (by decide) (by decide)]
  exact hg
theorem frR_q {I I2 : Nat → Nat → Int} {p : SP} (h : frR I I2) : frR (zRq I p) (zRq I2 p) := by
  refine ⟨fun i h1 h2 => ?_, fun k hk => ?_⟩
  · by_cases h3 : i = 62
    · subst h3; rfl
    · rw [zRq_n h1 h3, zRq_n h1 h3]; exact h.1 i h1 h2
  · simp only [zRq, if_true]
    (repeat' split) <;> first | rfl | exact h.2 k hk
def svAt (I : Nat → Nat → Int) (d : Nat) (p : SP) : Prop := I 70 (7 * d) = p.1 ∧ I 70 (7 * d + 1) = p.2.1 ∧ ∀ e, e < 5 → I 70 (7 * d + 2 + e) = p.2.2 e
theorem svAt_sv {I : Nat → Nat → Int} {d : Nat} {p : SP} : svAt (svI I d p) d p := svI_p
theorem svAt_q {I : Nat → Nat → Int} {d : Nat} {p p' : SP} (h : svAt I d p) : svAt (zRq I p') d p := by
  unfold svAt
  rw [zRq_n (by decide) (by decide)]
  exact h
theorem svAt_c {I I2 : Nat → Nat → Int} {d : Nat} {p : SP} (e : I2 70 = I 70) (h : svAt I d p) : svAt I2 d p := by
  unfold svAt
  rw [e]
  exact h
theorem svI_q {I : Nat → Nat → Int} {d : Nat} {p p' : SP} : svI (zRq I p') d p = zRq (svI I d p) p' := by
  funext i k
  simp only [svI, zRq]
  by_cases h : i = 70
  · subst h
    simp
  · by_cases h2 : i = 58
    · subst h2
      simp
    · simp [h, h2]
theorem hvR_sv {I : Nat → Nat → Int} {d : Nat} {p : SP} : hvR (svI I d p) = hvR I := frR_hv frR_sv
theorem gR_sv {I : Nat → Nat → Int} {d : Nat} {p : SP} (h : gR I) : gR (svI I d p) := frR_gR frR_sv h
theorem spR_sv {I : Nat → Nat → Int} {d : Nat} {p : SP} : spR (svI I d p) = spR I := frR_sp frR_sv
/-- where THE DOG stands no WALL is, and it is a CELL of the hill -/
def gDO (H : HV) (d : Int) : Prop := openN H.1 H.2.1 d = true
theorem gDO_t {H : HV} {d c : Int} (h : gDO H d) (hc : 0 ≤ c) : gDO H (dogN H d c) := by
  unfold dogN
  split
  · next h1 =>
    simp only [canN, Bool.or_eq_true, decide_eq_true_eq] at h1
    rcases h1 with h1 | h1
    · subst h1
      show gDO H (d + shN 0)
      rw [show shN 0 = 0 from rfl, Int.add_zero]
      exact h
    · simp only [dogsN, Bool.and_eq_true] at h1
      exact h1.2
  · exact h
theorem gDO_c {H : HV} {p : SP} {c : Int} (h : gDO H p.1) (hc : 0 ≤ c) : gDO H (turnS H p c).1 := gDO_t h hc
/-- copies inside the reference's one row of longs -/
def cpR (J : Nat → Nat → Int64) (a b n : Nat) : Nat → Nat → Int64 := fun i k => if i = 66 ∧ b ≤ k ∧ k < b + n then J 66 (a + (k - b)) else J i k
def cpB (J : Nat → Nat → Int64) (a b n m : Nat) : Nat → Nat → Int64 := fun i k => if i = 66 ∧ b + (n - m) ≤ k ∧ k < b + n then J 66 (a + (k - b)) else J i k
theorem cpR_0 {J : Nat → Nat → Int64} {a b : Nat} : cpR J a b 0 = J := by
  funext i k
  unfold cpR
  rw [if_neg (by omega)]
theorem cpB_0 {J : Nat → Nat → Int64} {a b n : Nat} : cpB J a b n 0 = J := by
  funext i k
  unfold cpB
  rw [if_neg (by omega)]
theorem cpB_n {J : Nat → Nat → Int64} {a b n : Nat} : cpB J a b n n = cpR J a b n := by
  funext i k
  unfold cpB cpR
  rw [Nat.sub_self, Nat.add_zero]
theorem cpR_s {J : Nat → Nat → Int64} {a b m : Nat} (h : a + m < b ∨ b + m ≤ a + m) : zu (cpR J a b m) 66 (b + m) (cpR J a b m 66 (a + m)) = cpR J a b (m + 1) := by
  have h0 : cpR J a b m 66 (a + m) = J 66 (a + m) := by
    unfold cpR
    rw [if_neg (by omega)]
  rw [h0]
  funext i k
  simp only [zu]
  by_cases h1 : i = 66 ∧ k = b + m
  · rw [if_pos h1]
    unfold cpR
    rw [if_pos (by omega), show a + (k - b) = a + m by omega]
  · rw [if_neg h1]
    unfold cpR
    by_cases h2 : i = 66 ∧ b ≤ k ∧ k < b + m
    · rw [if_pos h2, if_pos (show i = 66 ∧ b ≤ k ∧ k < b + (m + 1) by omega)]
    · rw [if_neg h2, if_neg (show ¬ (i = 66 ∧ b ≤ k ∧ k < b + (m + 1)) by omega)]
theorem cpB_s {J : Nat → Nat → Int64} {a b n m : Nat} (hm : m < n) (h : a ≤ b) : zu (cpB J a b n m) 66 (b + (n - 1 - m)) (cpB J a b n m 66 (a + (n - 1 - m))) = cpB J a b n (m + 1) := by
  have h0 : cpB J a b n m 66 (a + (n - 1 - m)) = J 66 (a + (n - 1 - m)) := by
    unfold cpB
    rw [if_neg (by omega)]
  rw [h0]
  funext i k
  simp only [zu]
  by_cases h1 : i = 66 ∧ k = b + (n - 1 - m)
  · rw [if_pos h1]
    unfold cpB
    rw [if_pos (by omega), show a + (k - b) = a + (n - 1 - m) by omega]
  · rw [if_neg h1]
    unfold cpB
    by_cases h2 : i = 66 ∧ b + (n - m) ≤ k ∧ k < b + n
    · rw [if_pos h2, if_pos (show i = 66 ∧ b + (n - (m + 1)) ≤ k ∧ k < b + n by omega)]
    · rw [if_neg h2, if_neg (show ¬ (i = 66 ∧ b + (n - (m + 1)) ≤ k ∧ k < b + n) by omega)]
theorem i64_add {a b c : Int} (ha : 0 ≤ a ∧ a ≤ 2147483647) (hb : 0 ≤ b ∧ b ≤ 2147483647) (hc : 0 ≤ c ∧ c ≤ 2147483647) : ((iI a).toInt64 + (iI b).toInt64 ≤ (iI c).toInt64 ↔ a + b ≤ c) ∧ ((iI c).toInt64 < (iI a).toInt64 + (iI b).toInt64 ↔ c < a + b) := by
  have h : ((iI a).toInt64 + (iI b).toInt64).toInt = a + b := by
    rw [Int64.toInt_add, i2l_toInt (by omega), i2l_toInt (by omega)]
    exact Int.bmod_eq_of_le (by omega) (by omega)
  rw [i64le, i64lt, h, i2l_toInt (by omega)]
  exact ⟨Iff.rfl, Iff.rfl⟩
