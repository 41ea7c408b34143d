/-! the reference's statements -/
def hrV (I : Nat → Nat → Int) : HR := (fun k => VI I 1 k, maskW (I 59), I 60, I 61, fun k => VI I 4 k, I 62)
def wdN (f : Nat → Int) (n p k : Nat) : Bool := decide (tokT f n p = 1) && wordN f (skN f n p) (tokE f n p) k
theorem word_d : ∀ k, k < 7 → ∀ k', k' < 7 → k = k' ∨ zLen k ≠ zLen k' ∨ (List.range 5).any (fun i => decide (i < zLen k) && !decide (txN k i = txN k' i)) = true := by decide +kernel
theorem word_x {f : Nat → Int} {s e k k' : Nat} (hk : k < 7) (hk' : k' < 7) (h : wordN f s e k = true) (h' : wordN f s e k' = true) : k = k' := by
  simp only [wordN, Bool.and_eq_true, decide_eq_true_eq] at h h'
  rcases word_d k hk k' hk' with a | a | a
  · exact a
  · omega
  · exfalso
    rw [List.any_eq_true] at a
    obtain ⟨i, _, hi⟩ := a
    simp only [Bool.and_eq_true, decide_eq_true_eq, Bool.not_eq_true', decide_eq_false_iff_not] at hi
    have h1 := firstN_none.mp h.2 i hi.1
    have h2 := firstN_none.mp h'.2 i (by omega)
    simp only [Bool.not_eq_false', decide_eq_true_eq] at h1 h2
    exact hi.2 (h1.symm.trans h2)
theorem wd_no {f : Nat → Int} {n p k k' : Nat} (h : wdN f n p k = true) (hk : k < 7) (hk' : k' < 7) (hne : k ≠ k') : ¬ wordN f (skN f n p) (tokE f n p) k' = true := fun z => by
  simp only [wdN, Bool.and_eq_true] at h
  exact hne (word_x hk hk' h.2 z)
theorem wd_t {f : Nat → Int} {n p k : Nat} (h : wdN f n p k = true) : ¬ ¬ tokT f n p = 1 := fun z => by
  simp only [wdN, Bool.and_eq_true, decide_eq_true_eq] at h
  exact z h.1
theorem wd_w {f : Nat → Int} {n p k : Nat} (h : wdN f n p k = true) : wordN f (skN f n p) (tokE f n p) k = true := by
  simp only [wdN, Bool.and_eq_true] at h
  exact h.2
theorem stF_0 {f : Nat → Int} {n p : Nat} {R : HR} (h : wdN f n p 0 = true) : stF f n p R = stSide f n (tokE f n p) R := by
  unfold stF
  rw [if_neg (wd_t h), if_pos (wd_w h)]
theorem stF_1 {f : Nat → Int} {n p : Nat} {R : HR} (h : wdN f n p 1 = true) : stF f n p R = stWall f n (tokE f n p) R := by
  unfold stF
  rw [if_neg (wd_t h), if_neg (wd_no h (by decide) (by decide) (by decide)), if_pos (wd_w h)]
theorem stF_2 {f : Nat → Int} {n p : Nat} {R : HR} (h : wdN f n p 2 = true) : stF f n p R = stGap f n (tokE f n p) R := by
  unfold stF
  rw [if_neg (wd_t h), if_neg (wd_no h (by decide) (by decide) (by decide)), if_neg (wd_no h (by decide) (by decide) (by decide)), if_pos (wd_w h)]
theorem stF_3 {f : Nat → Int} {n p : Nat} {R : HR} (h : wdN f n p 3 = true) : stF f n p R = stPen f n (tokE f n p) R := by
  unfold stF
  rw [if_neg (wd_t h), if_neg (wd_no h (by decide) (by decide) (by decide)), if_neg (wd_no h (by decide) (by decide) (by decide)), if_neg (wd_no h (by decide) (by decide) (by decide)), if_pos (wd_w h)]
theorem stF_4 {f : Nat → Int} {n p : Nat} {R : HR} (h : wdN f n p 4 = true) : stF f n p R = stDog f n (tokE f n p) R := by
  unfold stF
  rw [if_neg (wd_t h), if_neg (wd_no h (by decide) (by decide) (by decide)), if_neg (wd_no h (by decide) (by decide) (by decide)), if_neg (wd_no h (by decide) (by decide) (by decide)), if_neg (wd_no h (by decide) (by decide) (by decide)), if_pos (wd_w h)]
theorem stF_5 {f : Nat → Int} {n p : Nat} {R : HR} (h : wdN f n p 5 = true) : stF f n p R = stEwe f n p R := by
  unfold stF
  rw [if_neg (wd_t h), if_neg (wd_no h (by decide) (by decide) (by decide)), if_neg (wd_no h (by decide) (by decide) (by decide)), if_neg (wd_no h (by decide) (by decide) (by decide)), if_neg (wd_no h (by decide) (by decide) (by decide)), if_neg (wd_no h (by decide) (by decide) (by decide)), if_pos (wd_w h)]
theorem stF_6 {f : Nat → Int} {n p : Nat} {R : HR} (h : wdN f n p 6 = true) : stF f n p R = stWind f n (tokE f n p) R := by
  unfold stF
  rw [if_neg (wd_t h), if_neg (wd_no h (by decide) (by decide) (by decide)), if_neg (wd_no h (by decide) (by decide) (by decide)), if_neg (wd_no h (by decide) (by decide) (by decide)), if_neg (wd_no h (by decide) (by decide) (by decide)), if_neg (wd_no h (by decide) (by decide) (by decide)), if_neg (wd_no h (by decide) (by decide) (by decide)), if_pos (wd_w h)]
theorem stF_n {f : Nat → Int} {n p : Nat} {R : HR} (h : ∀ k, k < 7 → wdN f n p k = false) : stF f n p R = (false, p, R) := by
  unfold stF
  by_cases ht : tokT f n p = 1
  · have h2 : ∀ k, k < 7 → ¬ wordN f (skN f n p) (tokE f n p) k = true := fun k hk z => by
      have h3 := h k hk
      unfold wdN at h3
      rw [decide_eq_true ht, z] at h3
      exact absurd h3 (by decide)
    rw [if_neg (fun z => z ht), if_neg (h2 0 (by decide)), if_neg (h2 1 (by decide)), if_neg (h2 2 (by decide)), if_neg (h2 3 (by decide)), if_neg (h2 4 (by decide)), if_neg (h2 5 (by decide)), if_neg (h2 6 (by decide))]
  · rw [if_pos ht]
/-- the token that was read from p on stands in the token fields -/
def tkR (I : Nat → Nat → Int) (f : Nat → Int) (n p : Nat) : Prop := I 58 14 = (skN f n p : Nat) ∧ I 58 15 = (tokE f n p : Nat) ∧ I 58 16 = rtkN (tokT f n p) (tokE f n p - skN f n p)
/-- but for the token fields all is as it was -/
def frT (I I1 : Nat → Nat → Int) : Prop := (∀ i, i ≠ 58 → I1 i = I i) ∧ ∀ k, (k < 14 ∨ 17 < k) → I1 58 k = I 58 k
def pkR (I I1 : Nat → Nat → Int) (f : Nat → Int) (n p : Nat) : Prop := frT I I1 ∧ tkR I1 f n p ∧ I1 63 = f ∧ I1 58 12 = (n : Nat)
theorem pk_e {I I1 : Nat → Nat → Int} {f : Nat → Int} {n p : Nat} (h : pkR I I1 f n p) : I1 63 = f ∧ (I1 58 12).toNat = n ∧ (I1 58 15).toNat = tokE f n p := ⟨h.2.2.1, by rw [h.2.2.2]; exact Int.toNat_natCast n, by rw [h.2.1.2.1]; exact Int.toNat_natCast _⟩
theorem nx_fr {I I1 : Nat → Nat → Int} {f : Nat → Int} {n p : Nat} (h : frT I I1) : frT I (nxR I1 f n p) := ⟨fun i hi => (zTR_n hi).trans (h.1 i hi), fun k hk => (zTR_k hk).trans (h.2 k hk)⟩
theorem nx_tk {I : Nat → Nat → Int} {f : Nat → Int} {n p : Nat} : tkR (nxR I f n p) f n p := ⟨zTR_14, zTR_15, zTR_16⟩
theorem nx_pk {I I1 : Nat → Nat → Int} {f : Nat → Int} {n p : Nat} (h : pkR I I1 f n p) : pkR I (nxR I1 (I1 63) (I1 58 12).toNat (I1 58 15).toNat) f n (tokE f n p) := by
  have e := pk_e h
  rw [e.1, e.2.1, e.2.2]
  exact ⟨nx_fr h.1, nx_tk, (zTR_n (by decide)).trans e.1, (zTR_k (by decide)).trans h.2.2.2⟩
theorem pk_g {I I1 : Nat → Nat → Int} {f : Nat → Int} {n p : Nat} (h : pkR I I1 f n p) (hg : gR I) : gR I1 := by
  unfold gR
  rw [h.1.2 0 (by decide), h.1.2 2 (by decide), h.1.2 5 (by decide), h.1.2 9 (by decide), h.1.1 59 (by decide), h.1.1 60 (by decide), h.1.1 61 (by decide)]
  exact hg
theorem pk_s {I I1 : Nat → Nat → Int} {f : Nat → Int} {n p : Nat} (h : pkR I I1 f n p) : spR I1 = spR I := by
  unfold spR
  rw [h.1.2 3 (by decide), h.1.2 4 (by decide), h.1.1 62 (by decide)]
theorem pk_t {I I1 : Nat → Nat → Int} {f : Nat → Int} {n p : Nat} (h : pkR I I1 f n p) (hT : gTR I) : gTR I1 := by
  unfold gTR
  rw [h.1.2 12 (by decide), h.1.1 63 (by decide)]
  exact hT
theorem pk_h {I I1 : Nat → Nat → Int} {f : Nat → Int} {n p : Nat} (h : pkR I I1 f n p) : hrV I1 = hrV I := by
  have h1 : (fun k => VI I1 1 k) = (fun k => VI I 1 k) := by
    funext k
    show (if k = 0 then I1 58 0 else if k = 1 then I1 58 2 else if k = 2 then I1 58 9 else if k = 3 then I1 58 10 else if k = 4 then I1 58 11 else if k = 6 then I1 58 5 else 0) = (if k = 0 then I 58 0 else if k = 1 then I 58 2 else if k = 2 then I 58 9 else if k = 3 then I 58 10 else if k = 4 then I 58 11 else if k = 6 then I 58 5 else 0)
    rw [h.1.2 0 (by decide), h.1.2 2 (by decide), h.1.2 9 (by decide), h.1.2 10 (by decide), h.1.2 11 (by decide), h.1.2 5 (by decide)]
  have h2 : (fun k => VI I1 4 k) = (fun k => VI I 4 k) := by
    funext k
    show (if k = 0 then I1 58 3 else if k = 1 then I1 58 4 else 0) = (if k = 0 then I 58 3 else if k = 1 then I 58 4 else 0)
    rw [h.1.2 3 (by decide), h.1.2 4 (by decide)]
  unfold hrV
  rw [h1, h2, h.1.1 59 (by decide), h.1.1 60 (by decide), h.1.1 61 (by decide), h.1.1 62 (by decide)]
/-- what a reading leaves alone -/
def frP (I I2 : Nat → Nat → Int) : Prop := (∀ i, (i < 58 ∨ 62 < i) → I2 i = I i) ∧ (∀ k, (k = 12 ∨ 17 < k) → I2 58 k = I 58 k) ∧ (∀ c, c < 67 → I2 59 c = 0 ∨ I2 59 c = 1) ∧ ∀ c, c < 67 → 7 ≤ c % 10 → I2 59 c = I 59 c
def stPost (I : Nat → Nat → Int) (J : Nat → Nat → Int64) (q : Nat × Nat) (f : Nat → Int) (n : Nat) (res : Bool × Nat × HR) : Option Value → zSt → Prop := fun r σ' => ∃ I2, σ' = zst I2 J q ∧ r = some (.int (iI (bI res.1))) ∧ hrV I2 = res.2.2 ∧ tkR I2 f n res.2.1 ∧ frP I I2
theorem pst_0 {I I1 : Nat → Nat → Int} {f : Nat → Int} {n p : Nat} (h : pkR I I1 f n p) (hg : gR I) : frP I I1 := ⟨fun i hi => h.1.1 i (by omega), fun k hk => h.1.2 k (by omega), fun c hc => by rw [h.1.1 59 (by decide)]; exact hg.2.2.2.2.2.2 c hc, fun c _ _ => by rw [h.1.1 59 (by decide)]⟩
theorem pst_58 {I I1 : Nat → Nat → Int} {f : Nat → Int} {n p k : Nat} {x : Int} (h : pkR I I1 f n p) (hg : gR I) (hk : k < 12) : tkR (zu I1 58 k x) f n p ∧ frP I (zu I1 58 k x) := by
  refine ⟨?_, fun i hi => ?_, fun j hj => ?_, fun c hc => ?_, fun c hc h7 => ?_⟩
  · unfold tkR
    rw [zu_n (by omega), zu_n (by omega), zu_n (by omega)]
    exact h.2.1
  · rw [zu_ne (by omega)]; exact (pst_0 h hg).1 i hi
  · rw [zu_n (by omega)]; exact (pst_0 h hg).2.1 j hj
  · rw [zu_ne (by decide)]; exact (pst_0 h hg).2.2.1 c hc
  · rw [zu_ne (by decide)]; exact (pst_0 h hg).2.2.2 c hc h7
theorem pst_59 {I I1 : Nat → Nat → Int} {f : Nat → Int} {n p k : Nat} {x : Int} (h : pkR I I1 f n p) (hg : gR I) (hx : x = 0 ∨ x = 1) (hk7 : k % 10 < 7) : tkR (zu I1 59 k x) f n p ∧ frP I (zu I1 59 k x) := by
  refine ⟨h.2.1, fun i hi => ?_, fun j hj => ?_, fun c hc => ?_, fun c hc h7 => ?_⟩
  · rw [zu_ne (by omega)]; exact (pst_0 h hg).1 i hi
  · rw [zu_ne (by decide)]; exact (pst_0 h hg).2.1 j hj
  · by_cases e : c = k
    · subst e; rw [zu_s]; exact hx
    · rw [zu_n (by omega)]; exact (pst_0 h hg).2.2.1 c hc
  · rw [zu_n (by intro z; have z2 := z.2; subst z2; omega)]; exact (pst_0 h hg).2.2.2 c hc h7
theorem pst_ew {I I1 : Nat → Nat → Int} {f : Nat → Int} {n p e : Nat} {kd a c m : Int} (h : pkR I I1 f n p) (hg : gR I) : tkR (zu (zu (zu (zu I1 60 e kd) 61 e a) 62 e c) 58 5 m) f n p ∧ frP I (zu (zu (zu (zu I1 60 e kd) 61 e a) 62 e c) 58 5 m) := by
  refine ⟨h.2.1, fun i hi => ?_, fun j hj => ?_, fun c hc => ?_, fun c hc h7 => ?_⟩
  · rw [zu_ne (by omega), zu_ne (by omega), zu_ne (by omega), zu_ne (by omega)]; exact (pst_0 h hg).1 i hi
  · rw [zu_n (by omega), zu_ne (by decide), zu_ne (by decide), zu_ne (by decide)]; exact (pst_0 h hg).2.1 j hj
  · rw [zu_ne (by decide), zu_ne (by decide), zu_ne (by decide), zu_ne (by decide)]; exact (pst_0 h hg).2.2.1 c hc
  · rw [zu_ne (by decide), zu_ne (by decide), zu_ne (by decide), zu_ne (by decide)]; exact (pst_0 h hg).2.2.2 c hc h7
theorem hr_58 {I : Nat → Nat → Int} {a k : Nat} {x : Int} (h : (a = 0 ∧ k = 0) ∨ (a = 1 ∧ k = 2) ∨ (a = 2 ∧ k = 9)) : hrV (zu I 58 k x) = setR (hrV I) a x := by
  have h1 : (fun j => VI (zu I 58 k x) 1 j) = up1 (fun j => VI I 1 j) a x := by
    funext j
    show (if j = 0 then zu I 58 k x 58 0 else if j = 1 then zu I 58 k x 58 2 else if j = 2 then zu I 58 k x 58 9 else if j = 3 then zu I 58 k x 58 10 else if j = 4 then zu I 58 k x 58 11 else if j = 6 then zu I 58 k x 58 5 else 0) = (if j = a then x else if j = 0 then I 58 0 else if j = 1 then I 58 2 else if j = 2 then I 58 9 else if j = 3 then I 58 10 else if j = 4 then I 58 11 else if j = 6 then I 58 5 else 0)
    rcases h with ⟨rfl, rfl⟩ | ⟨rfl, rfl⟩ | ⟨rfl, rfl⟩ <;> simp only [zu] <;> (repeat' split) <;> first | rfl | omega | (simp_all; done)
  have h2 : (fun j => VI (zu I 58 k x) 4 j) = (fun j => VI I 4 j) := by
    funext j
    show (if j = 0 then zu I 58 k x 58 3 else if j = 1 then zu I 58 k x 58 4 else 0) = (if j = 0 then I 58 3 else if j = 1 then I 58 4 else 0)
    rw [zu_n (by omega), zu_n (by omega)]
  unfold hrV setR
  rw [h1, h2]
  rfl
theorem hr_dog {I : Nat → Nat → Int} {x : Int} : hrV (zu I 58 3 x) = dogR (hrV I) x := by
  have h2 : (fun j => VI (zu I 58 3 x) 4 j) = up1 (fun j => VI I 4 j) 0 x := by
    funext j
    show (if j = 0 then zu I 58 3 x 58 3 else if j = 1 then zu I 58 3 x 58 4 else 0) = (if j = 0 then x else if j = 0 then I 58 3 else if j = 1 then I 58 4 else 0)
    simp only [zu]; (repeat' split) <;> first | rfl | omega | (simp_all; done)
  unfold hrV dogR
  rw [h2]
  rfl
theorem hr_ewe {I : Nat → Nat → Int} {kd a c : Int} : hrV (zu (zu (zu (zu I 60 (I 58 5).toNat kd) 61 (I 58 5).toNat a) 62 (I 58 5).toNat c) 58 5 (I 58 5 + 1)) = eweR (hrV I) kd a c := by
  have h1 : (fun j => VI (zu (zu (zu (zu I 60 (I 58 5).toNat kd) 61 (I 58 5).toNat a) 62 (I 58 5).toNat c) 58 5 (I 58 5 + 1)) 1 j) = up1 (fun j => VI I 1 j) 6 (I 58 5 + 1) := by
    funext j
    show (if j = 0 then I 58 0 else if j = 1 then I 58 2 else if j = 2 then I 58 9 else if j = 3 then I 58 10 else if j = 4 then I 58 11 else if j = 6 then I 58 5 + 1 else 0) = (if j = 6 then I 58 5 + 1 else if j = 0 then I 58 0 else if j = 1 then I 58 2 else if j = 2 then I 58 9 else if j = 3 then I 58 10 else if j = 4 then I 58 11 else if j = 6 then I 58 5 else 0)
    (repeat' split) <;> first | rfl | omega
  have h60 : ∀ (A : Nat → Nat → Int) (i k : Nat) (v : Int), zu A i k v i = up1 (A i) k v := fun A i k v => by
    funext j
    simp only [zu, up1, true_and]
  unfold hrV eweR
  rw [h1, zu_ne (show (59 : Nat) ≠ 58 by decide), zu_ne (show (59 : Nat) ≠ 62 by decide), zu_ne (show (59 : Nat) ≠ 61 by decide), zu_ne (show (59 : Nat) ≠ 60 by decide), zu_ne (show (60 : Nat) ≠ 58 by decide), zu_ne (show (60 : Nat) ≠ 62 by decide), zu_ne (show (60 : Nat) ≠ 61 by decide), zu_ne (show (61 : Nat) ≠ 58 by decide), zu_ne (show (61 : Nat) ≠ 62 by decide), zu_ne (show (62 : Nat) ≠ 58 by decide), h60, h60, h60, zu_ne (show (61 : Nat) ≠ 60 by decide), zu_ne (show (62 : Nat) ≠ 61 by decide), zu_ne (show (62 : Nat) ≠ 60 by decide)]
  rfl
theorem hr_wal {I : Nat → Nat → Int} {k : Nat} {x : Int} : hrV (zu I 59 k x) = walR (hrV I) (maskW (up1 (I 59) k x)) := by
  have h : zu I 59 k x 59 = up1 (I 59) k x := by
    funext j
    simp only [zu, up1, true_and]
  unfold hrV walR
  rw [h]
  rfl
theorem hr_wall {I : Nat → Nat → Int} {c : Int} (hc : gC7 c) : hrV (zu I 59 c.toNat 1) = walR (hrV I) ((hrV I).2.1 ||| bitL c) := by
  have h1 := hc.1
  have h2 := hc.2
  rw [hr_wal, maskW_set (by omega) (by omega), show ((c.toNat : Nat) : Int) = c by omega]
  rfl
theorem hr_gap {I : Nat → Nat → Int} {c : Int} (hc : gC7 c) : hrV (zu I 59 c.toNat 0) = walR (hrV I) ((hrV I).2.1 &&& (bitL c ^^^ (-1))) := by
  have h1 := hc.1
  have h2 := hc.2
  rw [hr_wal, maskW_clr (by decide) (by omega) (by omega), show ((c.toNat : Nat) : Int) = c by omega]
  rfl
theorem rtk_119 {T : Int} {len : Nat} : rtkN T len = 119 ↔ T = 1 := by
  unfold rtkN
  constructor
  · (repeat' split) <;> intro h <;> omega
  · intro h; rw [if_neg (by omega), if_pos h]
theorem wd_eq {I I1 : Nat → Nat → Int} {f : Nat → Int} {n p k : Nat} (h : pkR I I1 f n p) : (decide (I1 58 16 = 119) && wordN (I1 63) (I1 58 14).toNat (I1 58 15).toNat k) = wdN f n p k := by
  have e := pk_e h
  have h2 := h.2.1
  rw [e.1, e.2.2, h2.1, h2.2.2, Int.toNat_natCast]
  unfold wdN
  rw [decide_eq_decide.mpr rtk_119]
theorem pk_p {I I1 : Nat → Nat → Int} {f : Nat → Int} {n p : Nat} (h : pkR I I1 f n p) (hf : ∀ k, k < n → 0 ≤ f k) (hp : p ≤ n) : 0 ≤ I1 58 15 ∧ I1 58 15 ≤ I1 58 12 := by
  have h2 := tok_r hf hp
  rw [h.2.1.2.1, h.2.2.2]
  omega
theorem num_n {f : Nat → Int} {n p : Nat} {lo hi : Int} (hlo : 0 ≤ lo) (h : numR f n p lo hi = -1) : ¬ (lo ≤ nmN f n p ∧ nmN f n p ≤ hi) := fun z => by
  unfold numR at h
  rw [if_pos z] at h
  omega
theorem num_y {f : Nat → Int} {n p : Nat} {lo hi : Int} (h : ¬ numR f n p lo hi = -1) : (lo ≤ nmN f n p ∧ nmN f n p ≤ hi) ∧ numR f n p lo hi = nmN f n p := by
  unfold numR at h ⊢
  by_cases z : lo ≤ nmN f n p ∧ nmN f n p ≤ hi
  · exact ⟨z, if_pos z⟩
  · rw [if_neg z] at h; exact absurd rfl h
theorem num_r {f : Nat → Int} {n p : Nat} {lo hi : Int} (hf : ∀ k, k < n → 0 ≤ f k) : -1 ≤ numR f n p lo hi ∧ numR f n p lo hi ≤ 99 := by
  have h := nmN_r (p := p) hf
  unfold numR
  split <;> omega
theorem pl_r {f : Nat → Int} {n p : Nat} {m : Int} (hf : ∀ k, k < n → 0 ≤ f k) : -1 ≤ plR f n p m ∧ plR f n p m ≤ 99 := by
  have h := nmN_r (p := p) hf
  unfold plR
  split <;> omega
theorem pl_y {f : Nat → Int} {n p : Nat} {m : Int} (h : ¬ plR f n p m = -1) : isCellN m (nmN f n p) = true ∧ plR f n p m = nmN f n p := by
  unfold plR at h ⊢
  by_cases z : isCellN m (nmN f n p) = true
  · exact ⟨z, if_pos z⟩
  · rw [if_neg z] at h; exact absurd rfl h
theorem pl_n {f : Nat → Int} {n p : Nat} {m : Int} (h : plR f n p m = -1) : isCellN m (nmN f n p) = false := by
  unfold plR at h
  cases z : isCellN m (nmN f n p) with
  | false => rfl
  | true =>
    rw [if_pos z] at h
    rw [h] at z
    simp [isCellN] at z
