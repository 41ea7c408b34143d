/-! the reference's searches, in numbers -/
def bgP (H : HV) : Nat → SP → Option (List Int)
  | 0, p => if inN H p.2.2 = H.2.2.2.1 then some [] else none
  | k + 1, p => optN (fun c => if canN H.1 H.2.1 H.2.2.1 p.1 (c : Int) = true then (bgP H k (turnS H p (c : Int))).map (fun l => (c : Int) :: l) else none) 5
def frG (I I' : Nat → Nat → Int) (dd : Nat) : Prop := (∀ i, i ≠ 70 → i ≠ 71 → I' i = I i) ∧ (∀ j, j < dd → I' 71 j = I 71 j) ∧ ∀ j, j < 7 * dd → I' 70 j = I 70 j
theorem frG_rf {I : Nat → Nat → Int} {dd : Nat} : frG I I dd := ⟨fun _ _ _ => rfl, fun _ _ => rfl, fun _ _ => rfl⟩
theorem frG_sv {I : Nat → Nat → Int} {dd : Nat} {p : SP} : frG I (svI I dd p) dd := ⟨fun i h1 _ => svI_n h1, fun j _ => by rw [svI_n (by decide)], fun j hj => by unfold svI; rw [if_neg (by omega)]⟩
theorem frG_hv {I I' : Nat → Nat → Int} {dd : Nat} (h : frG I I' dd) : hvR I' = hvR I := by
  unfold hvR
  rw [h.1 58 (by decide) (by decide), h.1 59 (by decide) (by decide), h.1 60 (by decide) (by decide), h.1 61 (by decide) (by decide)]
theorem frG_gR {I I' : Nat → Nat → Int} {dd : Nat} (h : frG I I' dd) (hg : gR I) : gR I' := by
  unfold gR
  rw [h.1 58 (by decide) (by decide), h.1 59 (by decide) (by decide), h.1 60 (by decide) (by decide), h.1 61 (by decide) (by decide)]
  exact hg
theorem frG_sp {I I' : Nat → Nat → Int} {dd : Nat} (h : frG I I' dd) : spR I' = spR I := by
  unfold spR
  rw [h.1 58 (by decide) (by decide), h.1 62 (by decide) (by decide)]
/-- the reference tries a COMMAND -/
def tryR (I : Nat → Nat → Int) (dd : Nat) (c : Int) (p : SP) : Nat → Nat → Int := zRq (zu I 71 dd c) p
theorem tryR_g {I : Nat → Nat → Int} {dd : Nat} {c : Int} {p : SP} (h : gR I) : gR (tryR I dd c p) := gR_q h
theorem tryR_hv {I : Nat → Nat → Int} {dd : Nat} {c : Int} {p : SP} : hvR (tryR I dd c p) = hvR I := hvR_q
theorem frG_back {I I' I2 : Nat → Nat → Int} {dd : Nat} {c : Int} {p : SP} (h : frG I I' dd) (hs : svAt I' dd (spR I)) (h2 : frG (tryR I' dd c p) I2 (dd + 1)) : frG I (zRq I2 (spR I)) dd ∧ svAt I2 dd (spR I) := by
  have e70 : ∀ j, j < 7 * (dd + 1) → I2 70 j = I' 70 j := fun j hj => by
    rw [h2.2.2 j hj]
    unfold tryR
    rw [zRq_n (by decide) (by decide), zu_ne (by decide)]
  refine ⟨⟨fun i h3 h4 => ?_, fun j hj => ?_, fun j hj => ?_⟩, ?_, ?_, fun e he => ?_⟩
  · by_cases h5 : i = 58
    · subst h5
      funext k
      have h6 := congrFun (h2.1 58 (by decide) (by decide)) k
      have h7 := congrFun (h.1 58 (by decide) (by decide)) k
      unfold tryR at h6
      simp only [zRq, if_true] at h6 ⊢
      by_cases h8 : k = 3
      · subst h8; rfl
      · by_cases h9 : k = 4
        · subst h9; rfl
        · rw [if_neg h8, if_neg h9] at h6 ⊢
          rw [h6, zu_ne (by decide), h7]
    · by_cases h5b : i = 62
      · subst h5b; rfl
      · rw [zRq_n h5 h5b, h2.1 i h3 h4]
        unfold tryR
        rw [zRq_n h5 h5b, zu_ne h4]
        exact h.1 i h3 h4
  · rw [zRq_n (by decide) (by decide), h2.2.1 j (by omega)]
    unfold tryR
    rw [zRq_n (by decide) (by decide), zu_n (by omega)]
    exact h.2.1 j hj
  · rw [zRq_n (by decide) (by decide), e70 j (by omega)]
    exact h.2.2 j hj
  · rw [e70 _ (by omega)]; exact hs.1
  · rw [e70 _ (by omega)]; exact hs.2.1
  · rw [e70 _ (by omega)]; exact hs.2.2 e he
def bgPost (I : Nat → Nat → Int) (J : Nat → Nat → Int64) (q : Nat × Nat) (dd : Nat) (res : Option (List Int)) : Option Value → zSt → Prop := fun r σ' => ∃ I', σ' = zst I' J q ∧ r = some (.int (iI (bI res.isSome))) ∧ frG I I' dd ∧ ∀ l, res = some l → ∀ j, j < l.length → I' 71 (dd + j) = l.getD j 0
theorem tryR_71 {I I2 : Nat → Nat → Int} {dd : Nat} {c : Int} {p : SP} (h2 : frG (tryR I dd c p) I2 (dd + 1)) : I2 71 dd = c := by
  rw [h2.2.1 dd (by omega)]
  unfold tryR
  rw [zRq_n (by decide) (by decide)]
  exact zu_s
theorem can_sg {n : Int} {w : Int64} {pen d : Int} {e : Nat} (hn : n ≤ 7) (hd : gC7 d) (hdo : openN n w d = true) (he : e < 5) (h : canN n w pen d (e : Int) = true) : bsN n w d e = d + shN e ∧ gC7 (d + shN e) ∧ openN n w (d + shN e) = true := by
  simp only [canN, Bool.or_eq_true, decide_eq_true_eq] at h
  have ho : openN n w (d + shN e) = true := by
    rcases h with z | z
    · rw [show e = 0 by omega, show shN 0 = 0 from rfl, Int.add_zero]
      exact hdo
    · rw [Int.toNat_natCast] at z
      simp only [dogsN, Bool.and_eq_true] at z
      exact z.2
  refine ⟨?_, gC7_o hn ho, ho⟩
  unfold bsN
  rw [if_pos ho]
theorem sgP_s {n : Int} {w : Int64} {pen d : Int} {k : Nat} (hd : 0 ≤ d) : sgP n w pen (k + 1) d.toNat = sumN (fun j => if (0 ≤ d + shN j ∧ d + shN j < 67) ∧ canN n w pen d (j : Int) = true then sgP n w pen k (d + shN j).toNat else 0) 5 := by
  show sgW n w pen (sgP n w pen k) d.toNat = _
  unfold sgW
  rw [show ((d.toNat : Nat) : Int) = d by omega]
def fewRO (I : Nat → Nat → Int) (m : Int) : Option Nat := firstN (fun k => (bgP (hvR I) k (spR I)).isSome) (m.toNat + 1)
def fFewR (I : Nat → Nat → Int) (m i : Int) : Int :=
  if ¬ ((0 ≤ m ∧ m ≤ 6) ∧ -1 ≤ i) then -2
  else if i = -1 then 0
  else match fewRO I m with
    | none => -5
    | some l => if i < l then 0 else -5
def fewestR (I : Nat → Nat → Int) (m i : Int) : Int :=
  if i = -1 then (match fewRO I m with
    | none => -1
    | some l => (l : Int))
  else match fewRO I m with
    | none => -1
    | some l => ((bgP (hvR I) l (spR I)).getD []).getD i.toNat 0
theorem bgP_len {H : HV} : ∀ (k : Nat) (p : SP) (l : List Int), bgP H k p = some l → l.length = k := by
  intro k
  induction k with
  | zero =>
    intro p l h
    unfold bgP at h
    split at h
    · cases h; rfl
    · cases h
  | succ k ih =>
    intro p l h
    unfold bgP at h
    have key : ∀ n, optN (fun c => if canN H.1 H.2.1 H.2.2.1 p.1 (c : Int) = true then (bgP H k (turnS H p (c : Int))).map (fun l => (c : Int) :: l) else none) n = some l → l.length = k + 1 := by
      intro n
      induction n with
      | zero => intro h2; cases h2
      | succ n ihn =>
        intro h2
        simp only [optN] at h2
        split at h2
        · next x hx => exact ihn (by rw [hx]; exact h2)
        · split at h2
          · cases h3 : bgP H k (turnS H p (n : Int)) with
            | none => rw [h3] at h2; cases h2
            | some y =>
              rw [h3] at h2
              cases h2
              simp only [List.length_cons]
              rw [ih _ _ h3]
          · cases h2
    exact key 5 h
theorem frG_R {I I' : Nat → Nat → Int} {dd : Nat} (h : frG I I' dd) : frR I I' := ⟨fun i h1 h2 => h.1 i (by omega) (by omega), fun k _ => by rw [h.1 58 (by decide) (by decide)]⟩
