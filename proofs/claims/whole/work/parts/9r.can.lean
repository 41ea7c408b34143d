/-! the class's functions at a canonical world -/
section CN
variable {I : Nat → Nat → Int} {J : Nat → Nat → Int64} {q : Nat × Nat}
theorem k0 (C : CAN I J) : I 0 = VI I 0 := C.1 0 rfl
theorem k1 (C : CAN I J) : I 1 = VI I 1 := C.1 1 rfl
theorem k2 (C : CAN I J) : I 2 = I 60 := C.1 2 rfl
theorem k3 (C : CAN I J) : I 3 = I 61 := C.1 3 rfl
theorem k4 (C : CAN I J) : I 4 = VI I 4 := C.1 4 rfl
theorem k5 (C : CAN I J) : I 5 = I 62 := C.1 5 rfl
theorem k35 (C : CAN I J) : I 35 = VI I 35 := C.1 35 rfl
theorem kj (C : CAN I J) : J 1 = VJ I J 1 := C.2.2.1
theorem ksh (C : CAN I J) {s : Int} (hs : 0 ≤ s ∧ s < 8) : I (19 + 2 * s.toNat) = VI I (19 + 2 * s.toNat) ∧ J (19 + 2 * s.toNat + 1) = VJ I J (19 + 2 * s.toNat + 1) :=
  ⟨C.1 _ (by unfold inC; simp; omega), C.2.2.2.1 _ (by omega) (by omega)⟩
theorem hvC (C : CAN I J) : hv I J 1 = hv (VI I) (VJ I J) 1 := by
  unfold hv
  rw [k1 C, kj C, show (1 : Nat) + 1 = 2 from rfl, show (1 : Nat) + 2 = 3 from rfl, k2 C, k3 C]
  rfl
theorem spC (C : CAN I J) : spOf I 4 = spOf (VI I) 4 := by
  unfold spOf
  rw [k4 C, show (4 : Nat) + 1 = 5 from rfl, k5 C]
  rfl
theorem gH1 (R : Rel I J q) (C : CAN I J) : gH I 1 := by
  have h := VI_gH R.2.1.1
  unfold gH at h ⊢
  rw [k1 C, show (1 : Nat) + 1 = 2 from rfl, show (1 : Nat) + 2 = 3 from rfl, k2 C, k3 C]
  exact h
theorem gS4 (R : Rel I J q) (C : CAN I J) : gS I 4 := by
  have h := VI_gS R.2.1.2.1
  unfold gS at h ⊢
  rw [k4 C, show (4 : Nat) + 1 = 5 from rfl, k5 C]
  exact h
theorem gL1 (R : Rel I J q) (C : CAN I J) : gL I := by
  intro k hk
  have h := R.2.2.1.1 k hk
  rw [C.1 (19 + 2 * k) (by unfold inC; simp; omega), VI_s0 hk, VI_s1 hk]
  exact ⟨h.1, h.2.1⟩
theorem gT1 (R : Rel I J q) (C : CAN I J) : gT I := by
  have h := R.2.2.2.1
  unfold gT
  rw [C.2.1, C.1 12 rfl]
  exact h
/-- what the reference needs, at any world that holds its places -/
theorem rv {A : Nat → Nat → Int} (R : Rel I J q) (h : RF I A) : RV0 A := by
  refine RV0_cg ⟨?_, ?_, ?_⟩ R.2.1
  · rw [h 58 (by omega)]; exact ⟨rfl, rfl, rfl, rfl, rfl, rfl⟩
  · rw [h 59 (by omega)]; exact fun _ _ => rfl
  · rw [h 60 (by omega), h 61 (by omega), h 62 (by omega)]; exact fun _ _ => ⟨rfl, rfl, rfl⟩
theorem rl {A : Nat → Nat → Int} (R : Rel I J q) (h : RF I A) : RLS A := by
  unfold RLS gRL
  rw [h 64 (by omega), h 65 (by omega), h 58 (by omega)]
  exact R.2.2.1
theorem uR_cg {f x y : Int} (h : f = 0 → x = y) : uR f x = uR f y := by
  unfold uR
  split
  · next e => exact h e
  · rfl
theorem frow_C (C : CAN I J) {s n l : Int} : frowN I s n l = frowN (VI I) s n l := by
  unfold frowN
  by_cases hs : 0 ≤ s ∧ s < 8
  · rw [(ksh C hs).1]
  · rw [if_pos (.inl hs), if_pos (.inl hs)]
theorem fcom_C (C : CAN I J) {s n l : Int} : fcomN I J s n l = fcomN (VI I) (VJ I J) s n l := by
  unfold fcomN
  rw [frow_C C]
  by_cases hs : 0 ≤ s ∧ s < 8
  · rw [(ksh C hs).2]
  · have h : ¬ frowN (VI I) s n l = 0 := by unfold frowN; rw [if_pos (.inl hs)]; decide
    rw [if_pos h, if_pos h]
theorem hasW_C (C : CAN I J) {c : Int} : fHasW I c = fHasW (VI I) c := by unfold fHasW; rw [k1 C]
theorem hF_frow {s n l : Int} : hF (frowN I s n l) := by
  unfold hF frowN
  (repeat' split) <;> omega
theorem hF_fcom {s n l : Int} : hF (fcomN I J s n l) := by
  unfold fcomN
  split
  · exact hF_frow
  · split
    · exact .inl rfl
    · exact .inr (by decide)
theorem says_C (C : CAN I J) {s kd : Int} : fSays I s kd = fSays (VI I) s kd := by
  unfold fSays
  by_cases hs : 0 ≤ s ∧ s < 8
  · rw [(ksh C hs).1, k1 C, k2 C]
    rfl
  · rw [if_pos (fun z => hs z.1), if_pos (fun z => hs z.1)]
theorem saysN_C (C : CAN I J) {s kd : Int} (hs : 0 ≤ s ∧ s < 8) : saysN I J s kd = saysN (VI I) (VJ I J) s kd := by
  unfold saysN
  rw [(ksh C hs).1, hvC C, k4 C, k3 C, k2 C, k5 C]
  rfl
theorem elem_C (C : CAN I J) {s i : Int} : elemN I J s i = elemN (VI I) (VJ I J) s i := by
  unfold elemN
  by_cases hs : 0 ≤ s ∧ s < 8
  · rw [(ksh C hs).1, (ksh C hs).2]
  · rw [if_neg (fun z => hs z.1), if_neg (fun z => hs z.1)]
theorem holds_C (C : CAN I J) {s : Int} : holdsN I s = holdsN (VI I) s := by
  unfold holdsN
  by_cases hs : 0 ≤ s ∧ s < 8
  · rw [(ksh C hs).1]
  · rw [if_neg hs, if_neg hs]
theorem eweOf_C (C : CAN I J) {e w : Int} : fEweOf I e w = fEweOf (VI I) e w := by unfold fEweOf; rw [k1 C]
theorem eweOfN_C (C : CAN I J) {e : Nat} {w : Int} : eweOfN I e w = eweOfN (VI I) e w := by
  unfold eweOfN
  rw [k1 C, k2 C, k3 C, k4 C, k5 C]
  rfl
theorem few_C (C : CAN I J) {m i : Int} : fFewest I J m i = fFewest (VI I) (VJ I J) m i := by
  unfold fFewest
  rw [hvC C, spC C]
theorem fewN_C (C : CAN I J) {m i : Int} : fewestN I J m i = fewestN (VI I) (VJ I J) m i := by
  unfold fewestN
  rw [hvC C, spC C]
theorem most_C (C : CAN I J) {m i : Int} : mostN I J m i = mostN (VI I) (VJ I J) m i := by
  unfold mostN
  rw [hvC C, spC C]
theorem mov_C (C : CAN I J) : movN I J = movN (VI I) (VJ I J) := by
  unfold movN
  rw [hvC C, k1 C, k2 C, k4 C, k5 C]
  rfl
theorem movD_C (C : CAN I J) {c : Int} : movD I J c = movD (VI I) (VJ I J) c := by
  unfold movD
  rw [hvC C, k1 C, k2 C, k5 C]
  rfl
theorem ewes_C (C : CAN I J) {w : Int} : ewesN I J w = ewesN (VI I) (VJ I J) w := by
  unfold ewesN
  rw [mov_C C, k1 C, k4 C, k5 C]
  rfl
theorem still_C (C : CAN I J) {w : Int} : stillN I J w = stillN (VI I) (VJ I J) w := by
  unfold stillN
  rw [show (fun (c : Nat) => bcI (movD I J (c : Int))) = (fun (c : Nat) => bcI (movD (VI I) (VJ I J) (c : Int))) from funext fun c => by rw [movD_C C], k1 C, kj C]
theorem shy_C (C : CAN I J) {w : Nat} : shyN I J w = shyN (VI I) (VJ I J) w := by
  unfold shyN
  rw [hvC C, k1 C, kj C, k2 C, k5 C]
  rfl
theorem graz_C (C : CAN I J) : grazN I = grazN (VI I) := by
  unfold grazN
  rw [k1 C, k4 C, k5 C]
  rfl
theorem out_C (C : CAN I J) : outN I = outN (VI I) := by
  unfold outN
  rw [k1 C, k5 C]
  rfl
theorem held_C (C : CAN I J) : heldN I J = heldN (VI I) (VJ I J) := by
  unfold heldN
  rw [out_C C, graz_C C, mov_C C]
theorem near_C (C : CAN I J) {w k : Int} : nearN I w k = nearN (VI I) w k := by
  unfold nearN
  rw [k1 C, k5 C]
  rfl
theorem kinds_C (C : CAN I J) {s t n w : Int} : fKinds I J s t n w = fKinds (VI I) (VJ I J) s t n w := by
  unfold fKinds
  by_cases hs : 0 ≤ s ∧ s < 8
  · by_cases ht : 0 ≤ t ∧ t < 8
    · rw [(ksh C hs).1, (ksh C hs).2, (ksh C ht).1, (ksh C ht).2, k1 C, k5 C]
      rfl
    · rw [if_pos (fun z => ht z.2.1), if_pos (fun z => ht z.2.1)]
  · rw [if_pos (fun z => hs z.1), if_pos (fun z => hs z.1)]
theorem kindsN_C (C : CAN I J) {s t n w : Int} (hs : 0 ≤ s ∧ s < 8) (ht : 0 ≤ t ∧ t < 8) : kindsN I J s t n w = kindsN (VI I) (VJ I J) s t n w := by
  unfold kindsN
  rw [hvC C, (ksh C hs).2, (ksh C ht).2, k5 C]
  rfl
theorem wrong_C (C : CAN I J) {s n : Int} (hs : 0 ≤ s ∧ s < 8) : wrongN (I 1 0) (J 1 5) (I 1 1) (I 4 0) (J (19 + 2 * s.toNat + 1)) n.toNat = wrongN (VI I 1 0) (VJ I J 1 5) (VI I 1 1) (VI I 4 0) (VJ I J (19 + 2 * s.toNat + 1)) n.toNat := by
  rw [(ksh C hs).2, k1 C, kj C, k4 C]
theorem done_C (C : CAN I J) {s n : Int} : fDone I J s n = fDone (VI I) (VJ I J) s n := by
  unfold fDone
  rw [frow_C C]
  by_cases hs : 0 ≤ s ∧ s < 8
  · rw [wrong_C C hs]
  · have h : ¬ frowN (VI I) s n 40 = 0 := by unfold frowN; rw [if_pos (.inl hs)]; decide
    rw [if_pos h, if_pos h]
theorem hF_done {s n : Int} : hF (fDone I J s n) := by
  unfold fDone
  split
  · exact hF_frow
  · split
    · exact .inl rfl
    · exact .inr (by decide)
theorem behind_C (C : CAN I J) {s n w : Int} : fBehind I J s n w = fBehind (VI I) (VJ I J) s n w := by
  unfold fBehind
  rw [done_C C, k1 C]
theorem behindN_C (C : CAN I J) {s n w : Int} (hs : 0 ≤ s ∧ s < 8) : behindN I J s n w = behindN (VI I) (VJ I J) s n w := by
  unfold behindN
  rw [hvC C, spC C, (ksh C hs).2, k1 C]
theorem ways_C (C : CAN I J) (hs : gRS (spR I)) {m : Int} : waysN I J q m = sgP (I 58 0) (maskW (I 59)) (I 58 2) m.toNat (I 58 3).toNat := by
  unfold waysN
  rw [k1 C, kj C, k4 C]
  exact waA_sum hs.1.1 m.toNat
theorem fil_C (C : CAN I J) : ∀ k, k ≤ 8 → filledN I k = flR I k
  | 0, _ => rfl
  | k + 1, h => by
    simp only [filledN, flR]
    rw [fil_C C k (by omega), C.1 (19 + 2 * k) (by unfold inC; simp; omega), VI_s0 (by omega)]
theorem status_C (C : CAN I J) (h7 : ∀ c, c < 67 → I 59 c = 1 → c % 10 < 7) {w : Int} : statusN I J w = statusR I w := by
  unfold statusN statusR
  rw [hvC C, k1 C, kj C, k4 C, k5 C, k35 C, C.2.1, fil_C C 8 (by decide)]
  show (if w = 0 then I 58 5 else if w = 1 then I 58 0 else if w = 2 then I 58 2 else if w = 3 then I 58 3 else if w = 4 then I 58 9 else if w = 5 then I 58 10 else if w = 6 then inN (hvR I) (I 62) else if w = 7 then bcL (maskW (I 59)) else if w = 8 then I 58 4 else if w = 9 then I 58 12 else if w = 10 then I 58 11 else if w = 11 then flR I 8 else if 12 ≤ w ∧ w < 17 then I 67 ((w - 12).toNat + 2) else -1) = _
  rw [wc_eq h7]
  have e : (if 12 ≤ w ∧ w < 17 then I 67 ((w - 12).toNat + 2) else -1) = (if 12 ≤ w ∧ w < 17 then I 67 (w - 10).toNat else -1) := by
    split
    · rw [show (w - 12).toNat + 2 = (w - 10).toNat by omega]
    · rfl
  rw [e]
  rfl
end CN
