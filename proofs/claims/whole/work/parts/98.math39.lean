theorem rtk_101 {T : Int} {len : Nat} : rtkN T len = 101 ↔ T = 0 := by
  unfold rtkN
  constructor
  · (repeat' split) <;> intro h <;> omega
  · intro h; rw [if_pos h]
theorem rtk_59 {T : Int} {len : Nat} : rtkN T len = 59 ↔ T = 3 := by
  unfold rtkN
  constructor
  · (repeat' split) <;> intro h <;> omega
  · intro h; rw [if_neg (by omega), if_neg (by omega), if_neg (by omega), if_pos h]
theorem kb_n {A : Nat → Nat → Int} {r i : Nat} (h : i < 58 ∨ 62 < i) : kbI A r i = A i := by
  funext k
  exact mixP_n (decide_eq_false (fun z => by rcases z with z | z | z | z | z <;> omega))
theorem kb_k {A : Nat → Nat → Int} {r k : Nat} (h : 11 < k) : kbI A r 58 k = A 58 k :=
  mixP_n (decide_eq_false (fun z => by
    rcases z with z | z | z | z | z
    · omega
    · omega
    · omega
    · omega
    · have h2 := z.2
      simp only [List.mem_cons, List.not_mem_nil, or_false] at h2
      omega))
theorem kb_59 {A : Nat → Nat → Int} {r c : Nat} (hc : c < 67) : kbI A r 59 c = 0 ∨ kbI A r 59 c = 1 := by
  have h3 : kbI A r 59 c = if A r c = 1 then 1 else 0 := by
    show (if kbR [11, 10, 9, 5, 4, 3, 2, 0] 59 c = true then kbB A r 59 c else A 59 c) = _
    rw [if_pos (show kbR [11, 10, 9, 5, 4, 3, 2, 0] 59 c = true from decide_eq_true (.inl ⟨rfl, hc⟩))]
    rfl
  rw [h3]
  split
  · exact .inr rfl
  · exact .inl rfl
theorem hrV_c12 {I : Nat → Nat → Int} {x : Int} : hrV (zu I 58 12 x) = hrV I := by
  have h1 : (fun k => VI (zu I 58 12 x) 1 k) = (fun k => VI I 1 k) := by
    funext k
    show (if k = 0 then zu I 58 12 x 58 0 else if k = 1 then zu I 58 12 x 58 2 else if k = 2 then zu I 58 12 x 58 9 else if k = 3 then zu I 58 12 x 58 10 else if k = 4 then zu I 58 12 x 58 11 else if k = 6 then zu I 58 12 x 58 5 else 0) = (if k = 0 then I 58 0 else if k = 1 then I 58 2 else if k = 2 then I 58 9 else if k = 3 then I 58 10 else if k = 4 then I 58 11 else if k = 6 then I 58 5 else 0)
    rw [zu_n (by omega), zu_n (by omega), zu_n (by omega), zu_n (by omega), zu_n (by omega), zu_n (by omega)]
  have h2 : (fun k => VI (zu I 58 12 x) 4 k) = (fun k => VI I 4 k) := by
    funext k
    show (if k = 0 then zu I 58 12 x 58 3 else if k = 1 then zu I 58 12 x 58 4 else 0) = (if k = 0 then I 58 3 else if k = 1 then I 58 4 else 0)
    rw [zu_n (by omega), zu_n (by omega)]
  unfold hrV
  rw [h1, h2, zu_ne (by decide), zu_ne (by decide), zu_ne (by decide), zu_ne (by decide)]
theorem hrV_67 {I : Nat → Nat → Int} {k : Nat} {x : Int} : hrV (zu I 67 k x) = hrV I := congrArg (fun x => x) rfl
theorem hrL_c {R R' R2 : HR} (h : hrL R R2) (e : R' = R) : hrL R' R2 := by rw [e]; exact h
theorem zu_row {A : Nat → Nat → Int} {i k : Nat} {v : Int} : zu A i k v i = up1 (A i) k v := by
  funext j
  simp only [zu, up1, true_and]
theorem kb_59v {A : Nat → Nat → Int} {r c : Nat} (hc : c < 67) : kbI A r 59 c = if A r c = 1 then 1 else 0 := by
  show (if kbR [11, 10, 9, 5, 4, 3, 2, 0] 59 c = true then kbB A r 59 c else A 59 c) = _
  rw [if_pos (show kbR [11, 10, 9, 5, 4, 3, 2, 0] 59 c = true from decide_eq_true (.inl ⟨rfl, hc⟩))]
  rfl
