/-! KINDS under KINDS; trying a COMMAND -/
def unN (k : Nat) : Int := [-1, 0, 0, 1, 2, 0].getD k 0
def ancN (kd : Int) : Nat → Int
  | 0 => kd
  | t + 1 => unN (ancN kd t).toNat
theorem ancN_r {kd : Int} (h : 0 ≤ kd ∧ kd ≤ 5) (t : Nat) : -1 ≤ ancN kd t ∧ ancN kd t ≤ 5 := by
  induction t with
  | zero => simp only [ancN]; omega
  | succ t ih =>
    simp only [ancN]
    have : ∀ k, k < 6 → -1 ≤ unN k ∧ unN k ≤ 5 := by decide
    exact this _ (by omega)
theorem anc_1 : ∀ k, k < 6 → ∀ u, u < 6 → ∀ e, e < 7 → ancN (k : Nat) e = (u : Nat) → underN (k : Nat) (u : Nat) = true := by decide +kernel
theorem anc_2 : ∀ k, k < 6 → ∀ u, u < 6 → ∀ e, e < 7 → ancN (k : Nat) e < 0 → ((List.range e).all (fun j => decide (¬ ancN (k : Nat) j = (u : Nat))) = true) → underN (k : Nat) (u : Nat) = false := by decide +kernel
theorem anc_3 : ∀ k, k < 6 → ancN (k : Nat) 6 < 0 := by decide +kernel
theorem under_t {kd up : Int} {e : Nat} (hk : 0 ≤ kd ∧ kd ≤ 5) (hu : 0 ≤ up ∧ up ≤ 5) (he : e < 7) (h : ancN kd e = up) : underN kd up = true := by
  obtain ⟨k, rfl⟩ : ∃ k : Nat, kd = k := ⟨kd.toNat, by omega⟩
  obtain ⟨u, rfl⟩ : ∃ u : Nat, up = u := ⟨up.toNat, by omega⟩
  exact anc_1 k (by omega) u (by omega) e he h
theorem under_f {kd up : Int} {e : Nat} (hk : 0 ≤ kd ∧ kd ≤ 5) (hu : 0 ≤ up ∧ up ≤ 5) (he : e < 7) (h : ancN kd e < 0) (h2 : ∀ j, j < e → ¬ ancN kd j = up) : underN kd up = false := by
  obtain ⟨k, rfl⟩ : ∃ k : Nat, kd = k := ⟨kd.toNat, by omega⟩
  obtain ⟨u, rfl⟩ : ∃ u : Nat, up = u := ⟨up.toNat, by omega⟩
  exact anc_2 k (by omega) u (by omega) e he h (List.all_eq_true.mpr (fun j hj => decide_eq_true (h2 j (List.mem_range.mp hj))))
theorem under_6 {kd : Int} (hk : 0 ≤ kd ∧ kd ≤ 5) : ancN kd 6 < 0 := by
  obtain ⟨k, rfl⟩ : ∃ k : Nat, kd = k := ⟨kd.toNat, by omega⟩
  exact anc_3 k (by omega)
def tryI (I : Nat → Nat → Int) (J : Nat → Nat → Int64) (dd : Nat) (c : Int) : Nat → Nat → Int := zSq (zu I 54 dd c) (40 + 2 * (dd + 1)) (turnS (hv I J 1) (spOf I (40 + 2 * dd)) c)
theorem isS_ne54 {s : Nat} (hs : isS s) : s ≠ 54 ∧ s + 1 ≠ 54 := by unfold isS at hs; omega
theorem zu54_s {I : Nat → Nat → Int} {s k : Nat} {v : Int} (hs : isS s) : zu I 54 k v s = I s := zu_ne (isS_ne54 hs).1
theorem zu54_s1 {I : Nat → Nat → Int} {s k : Nat} {v : Int} (hs : isS s) : zu I 54 k v (s + 1) = I (s + 1) := zu_ne (isS_ne54 hs).2
theorem gS_cong {I I' : Nat → Nat → Int} {s : Nat} (h0 : I' s = I s) (h1 : I' (s + 1) = I (s + 1)) (h : gS I s) : gS I' s := by
  unfold gS
  rw [h0, h1]
  exact h
theorem gH_cong {I I' : Nat → Nat → Int} {h : Nat} (h0 : I' h = I h) (h1 : I' (h + 1) = I (h + 1)) (h2 : I' (h + 2) = I (h + 2)) (hg : gH I h) : gH I' h := by
  unfold gH
  rw [h0, h1, h2]
  exact hg
theorem spOf_cong {I I' : Nat → Nat → Int} {s : Nat} (h0 : I' s = I s) (h1 : I' (s + 1) = I (s + 1)) : spOf I' s = spOf I s := by
  unfold spOf
  rw [h0, h1]
theorem hv_cong {I I' : Nat → Nat → Int} {J : Nat → Nat → Int64} {h : Nat} (h0 : I' h = I h) (h1 : I' (h + 1) = I (h + 1)) (h2 : I' (h + 2) = I (h + 2)) : hv I' J h = hv I J h := by
  unfold hv
  rw [h0, h1, h2]
