/-! path and reach: class = reference -/
def rcA (R : Nat → Bool) (d : Nat) : Bool := (decide (10 ≤ d) && R (d - 10)) || (R (d + 10) || ((decide (1 ≤ d) && R (d - 1)) || R (d + 1)))
def rcS (n : Int) (w : Int64) (pen : Int) (R : Nat → Bool) (d : Nat) : Bool := R d || (dogsN n w pen (d : Int) && rcA R d)
/-- the CELLS to which THE DOG comes by k COMMANDS at most -/
def rcN (n : Int) (w : Int64) (pen : Int) (b : Nat) : Nat → Nat → Bool
  | 0 => fun d => decide (d = b)
  | k + 1 => rcS n w pen (rcN n w pen b k)
def rcG (R : Nat → Bool) : Prop := ∀ c, R c = true → c < 67 ∧ c % 10 < 7
theorem dogs_7 {n : Int} {w : Int64} {pen : Int} {d : Nat} (hn : n ≤ 7) (h : dogsN n w pen (d : Int) = true) : d < 67 ∧ d % 10 < 7 := by
  simp only [dogsN, Bool.and_eq_true] at h
  have h2 := gC7_o hn h.2
  unfold gC7 at h2
  omega
theorem rcN_g {n : Int} {w : Int64} {pen : Int} {b : Nat} (hn : n ≤ 7) (hb : b < 67 ∧ b % 10 < 7) : ∀ k, rcG (rcN n w pen b k) := by
  intro k
  induction k with
  | zero =>
    intro c h
    have h : decide (c = b) = true := h
    rw [decide_eq_true_eq] at h
    rw [h]; exact hb
  | succ k ih =>
    intro c h
    have h : rcS n w pen (rcN n w pen b k) c = true := h
    simp only [rcS, Bool.or_eq_true, Bool.and_eq_true] at h
    rcases h with h | h
    · exact ih c h
    · exact dogs_7 hn h.1
theorem bI_1 (b : Bool) : decide (bI b = 1) = b := by cases b <;> decide
theorem mR_b (R : Nat → Bool) (j : Nat) : (maskW (fun c => bI (R c))).toBitVec.getLsbD j = (vb j && R (vc j)) := by
  rw [maskW_b]
  exact congrArg _ (bI_1 _)
theorem lsh_8 (x : Int64) : (lsh x 8).toBitVec = x.toBitVec <<< 8 := by
  unfold lsh
  rw [Int64.toBitVec_shiftLeft, show ((iI 8).toInt64 &&& 63).toBitVec.smod 64 = 8#64 by decide +kernel]
  rfl
theorem lsh_1 (x : Int64) : (lsh x 1).toBitVec = x.toBitVec <<< 1 := by
  unfold lsh
  rw [Int64.toBitVec_shiftLeft, show ((iI 1).toInt64 &&& 63).toBitVec.smod 64 = 1#64 by decide +kernel]
  rfl
theorem vb_iff {i : Nat} : vb i = true ↔ i / 8 < 7 ∧ i % 8 < 7 := by
  simp only [vb, Bool.and_eq_true, decide_eq_true_eq]
theorem b_or3 {a b c d a' b' c' d' : Bool} (h1 : a = a') (h2 : b = b') (h3 : c = c') (h4 : d = d') : ((a || b) || c || d) = (a' || (b' || (c' || d'))) := by
  subst h1; subst h2; subst h3; subst h4
  cases a <;> cases b <;> cases c <;> cases d <;> rfl
theorem spr_b {R : Nat → Bool} (hR : rcG R) {i : Nat} (hi : i < 64) (hv : vb i = true) : (lsh (maskW (fun c => bI (R c))) 8 ||| lus (maskW (fun c => bI (R c))) 8 ||| lsh (maskW (fun c => bI (R c))) 1 ||| lus (maskW (fun c => bI (R c))) 1).toBitVec.getLsbD i = rcA R (vc i) := by
  have hv2 := vb_iff.mp hv
  rw [Int64.toBitVec_or, Int64.toBitVec_or, Int64.toBitVec_or, BitVec.getLsbD_or, BitVec.getLsbD_or, BitVec.getLsbD_or, lsh_8, lsh_1, show (lus (maskW (fun c => bI (R c))) 8).toBitVec = (maskW (fun c => bI (R c))).toBitVec >>> 8 from rfl, show (lus (maskW (fun c => bI (R c))) 1).toBitVec = (maskW (fun c => bI (R c))).toBitVec >>> 1 from rfl, BitVec.getLsbD_shiftLeft, BitVec.getLsbD_shiftLeft, BitVec.getLsbD_ushiftRight, BitVec.getLsbD_ushiftRight, mR_b, mR_b, mR_b, mR_b]
  unfold rcA
  have hc : vc i = i / 8 * 10 + i % 8 := rfl
  refine b_or3 ?_ ?_ ?_ ?_
  · by_cases h : i < 8
    · rw [decide_eq_true h, decide_eq_false (show ¬ 10 ≤ vc i by omega)]; simp
    · have h1 : vb (i - 8) = true := vb_iff.mpr (by omega)
      have h2 : vc (i - 8) = vc i - 10 := by unfold vc; omega
      rw [decide_eq_true hi, decide_eq_false h, decide_eq_true (show 10 ≤ vc i by omega), h1, h2]; simp
  · cases h : vb (8 + i) with
    | true =>
      have h2 : vc (8 + i) = vc i + 10 := by unfold vc; omega
      rw [h2, Bool.true_and]
    | false =>
      cases h3 : R (vc i + 10) with
      | false => rfl
      | true =>
        have h4 := hR _ h3
        rw [vb_iff.mpr (show (8 + i) / 8 < 7 ∧ (8 + i) % 8 < 7 by omega)] at h
        cases h
  · by_cases h : i % 8 = 0
    · have h5 : (decide (1 ≤ vc i) && R (vc i - 1)) = false := by
        cases h3 : R (vc i - 1) with
        | false => rw [Bool.and_false]
        | true =>
          have h4 := hR _ h3
          rw [decide_eq_false (show ¬ 1 ≤ vc i by omega)]; rfl
      rw [h5]
      by_cases h6 : i < 1
      · rw [decide_eq_true h6]; simp
      · cases h7 : vb (i - 1) with
        | false => simp
        | true =>
          have h8 := vb_iff.mp h7
          omega
    · have h1 : vb (i - 1) = true := vb_iff.mpr (by omega)
      have h2 : vc (i - 1) = vc i - 1 := by unfold vc; omega
      rw [decide_eq_true hi, decide_eq_false (show ¬ i < 1 by omega), decide_eq_true (show 1 ≤ vc i by omega), h1, h2]; simp
  · cases h : vb (1 + i) with
    | true =>
      have h8 := vb_iff.mp h
      have h2 : vc (1 + i) = vc i + 1 := by unfold vc; omega
      rw [h2, Bool.true_and]
    | false =>
      cases h3 : R (vc i + 1) with
      | false => rfl
      | true =>
        have h4 := hR _ h3
        rw [vb_iff.mpr (show (1 + i) / 8 < 7 ∧ (1 + i) % 8 < 7 by omega)] at h
        cases h
theorem ground_m {n : Int} {w : Int64} {pen : Int} (hn : n ≤ 7) : ∀ k, groundB n w pen k = maskK (fun c => bI (dogsN n w pen (c : Int))) k := by
  intro k
  induction k with
  | zero => rfl
  | succ k ih =>
    simp only [groundB, maskK]
    rw [ih]
    by_cases h : dogsN n w pen (k : Int) = true
    · rw [if_pos h, if_pos ⟨by rw [h]; rfl, (dogs_7 hn h).2⟩]
    · rw [if_neg h, if_neg (fun z => h (by have z2 := z.1; cases q : dogsN n w pen (k : Int) with
        | true => rfl
        | false => rw [q] at z2; exact absurd z2 (by decide)))]
theorem spr_m {n : Int} {w : Int64} {pen : Int} {R : Nat → Bool} (hn : n ≤ 7) (hR : rcG R) : spreadN (maskW (fun c => bI (R c))) (groundB n w pen 67) = maskW (fun c => bI (rcS n w pen R c)) := by
  refine i64_ext (fun i hi => ?_)
  rw [ground_m hn 67, show maskK (fun c => bI (dogsN n w pen (c : Int))) 67 = maskW (fun c => bI (dogsN n w pen (c : Int))) from rfl]
  unfold spreadN
  rw [Int64.toBitVec_or, BitVec.getLsbD_or, Int64.toBitVec_and, BitVec.getLsbD_and, mR_b (fun c => dogsN n w pen (c : Int)), mR_b, mR_b]
  cases hv : vb i with
  | false => simp
  | true =>
    rw [spr_b hR hi hv]
    unfold rcS
    rw [Bool.true_and, Bool.true_and, Bool.true_and, Bool.and_comm (rcA R (vc i))]
theorem bit_m {b : Nat} (hb : b < 67 ∧ b % 10 < 7) : bitL (b : Int) = maskW (fun c => bI (decide (c = b))) := by
  refine i64_ext (fun i hi => ?_)
  rw [mR_b (fun c => decide (c = b)), (bitL_b b hb.1).1, BitVec.getLsbD_twoPow]
  have h1 := (bitL_b b hb.1).2
  cases hv : vb i with
  | false =>
    rw [Bool.false_and, decide_eq_false (show ¬ bp b = i from fun z => by rw [← z, vb_bp hb.1 hb.2] at hv; cases hv), Bool.and_false]
  | true =>
    rw [Bool.true_and, decide_eq_true h1, Bool.true_and]
    refine decide_eq_decide.mpr ⟨fun z => by rw [← z, vc_bp hb.2], fun z => by rw [← z]; exact (bp_vc hv).1⟩
theorem spr_eq {n : Int} {w : Int64} {pen : Int} {b : Nat} (hn : n ≤ 7) (hb : b < 67 ∧ b % 10 < 7) : ∀ k, sprN (groundB n w pen 67) (bitL (b : Int)) k = maskW (fun c => bI (rcN n w pen b k c)) := by
  intro k
  induction k with
  | zero => exact bit_m hb
  | succ k ih =>
    rw [sprN, ih]
    exact spr_m hn (rcN_g hn hb k)
/-- the neighbours, by their COMMANDS -/
theorem rcA_iff {R : Nat → Bool} (hR : rcG R) {d : Nat} : rcA R d = true ↔ ∃ c k, c < 67 ∧ k < 4 ∧ R c = true ∧ (c : Int) + shN (k + 1) = (d : Int) := by
  unfold rcA
  simp only [Bool.or_eq_true, Bool.and_eq_true, decide_eq_true_eq]
  constructor
  · rintro (⟨h1, h2⟩ | h2 | ⟨h1, h2⟩ | h2)
    · exact ⟨d - 10, 1, (hR _ h2).1, by decide, h2, by rw [show shN (1 + 1) = 10 from rfl]; omega⟩
    · exact ⟨d + 10, 0, (hR _ h2).1, by decide, h2, by rw [show shN (0 + 1) = -10 from rfl]; omega⟩
    · exact ⟨d - 1, 3, (hR _ h2).1, by decide, h2, by rw [show shN (3 + 1) = 1 from rfl]; omega⟩
    · exact ⟨d + 1, 2, (hR _ h2).1, by decide, h2, by rw [show shN (2 + 1) = -1 from rfl]; omega⟩
  · rintro ⟨c, k, h1, h2, h3, h4⟩
    rcases (show k = 0 ∨ k = 1 ∨ k = 2 ∨ k = 3 by omega) with rfl | rfl | rfl | rfl
    · rw [show shN (0 + 1) = -10 from rfl] at h4
      exact .inr (.inl (by rw [show d + 10 = c by omega]; exact h3))
    · rw [show shN (1 + 1) = 10 from rfl] at h4
      exact .inl ⟨by omega, by rw [show d - 10 = c by omega]; exact h3⟩
    · rw [show shN (2 + 1) = -1 from rfl] at h4
      exact .inr (.inr (.inr (by rw [show d + 1 = c by omega]; exact h3)))
    · rw [show shN (3 + 1) = 1 from rfl] at h4
      exact .inr (.inr (.inl ⟨by omega, by rw [show d - 1 = c by omega]; exact h3⟩))
/-- one day of the reference's walk: what a step has done -/
def wkI (s : Nat) (F G : Nat → Int) (A : Nat → Prop) : Prop := ∀ d, d < 67 → (F d ≠ 0 → G d = F d) ∧ (F d = 0 → (A d → G d = (s : Int) + 1) ∧ (¬ A d → G d = 0))
theorem bsN_d {n : Int} {w : Int64} {pen : Int} {c k d : Nat} : (bsN n w (c : Int) k = (d : Int) ∧ (d : Int) ≠ pen) ↔ (dogsN n w pen (d : Int) = true ∧ (c : Int) + shN k = (d : Int)) := by
  unfold bsN dogsN
  simp only [Bool.and_eq_true, Bool.not_eq_true', decide_eq_false_iff_not]
  constructor
  · rintro ⟨h1, h2⟩
    split at h1
    · next h3 => rw [h1] at h3; exact ⟨⟨h2, h3⟩, h1⟩
    · omega
  · rintro ⟨⟨h1, h2⟩, h3⟩
    rw [h3, if_pos h2]
    exact ⟨rfl, h1⟩
theorem wku_i {n : Int} {w : Int64} {pen : Int} {s c k : Nat} {F G : Nat → Int} {A : Nat → Prop} (hn : n ≤ 7) (hs : 1 ≤ s) (hc : c < 67) (h : wkI s F G A) : wkI s F (wku n w pen s c k G) (fun d => A d ∨ (F c = (s : Int) ∧ dogsN n w pen (d : Int) = true ∧ (c : Int) + shN k = (d : Int))) := by
  have hGc : G c = (s : Int) ↔ F c = (s : Int) := by
    have h1 := h c hc
    by_cases z : F c = 0
    · have h2 := h1.2 z
      by_cases y : A c
      · have := h2.1 y; omega
      · have := h2.2 y; omega
    · rw [h1.1 z]
  intro d hd
  have h1 := h d hd
  unfold wku
  by_cases q : G c = (s : Int) ∧ bsN n w (c : Int) k ≠ -1 ∧ bsN n w (c : Int) k ≠ pen ∧ G (bsN n w (c : Int) k).toNat = 0
  · rw [if_pos q]
    have h7 : gC7 (bsN n w (c : Int) k) := (bsN_7 (w := w) (c := (c : Int)) (k := k) hn).resolve_left q.2.1
    have h8 := h7.1
    simp only [up1]
    by_cases e : d = (bsN n w (c : Int) k).toNat
    · rw [if_pos e]
      rw [← e] at q
      have hA : dogsN n w pen (d : Int) = true ∧ (c : Int) + shN k = (d : Int) := bsN_d.mp ⟨by omega, by intro z; exact q.2.2.1 (by omega)⟩
      refine ⟨fun z => ?_, fun z => ⟨fun _ => rfl, fun y => absurd (.inr ⟨hGc.mp q.1, hA⟩) y⟩⟩
      have := h1.1 z
      omega
    · rw [if_neg e]
      refine ⟨h1.1, fun z => ⟨fun y => ?_, fun y => (h1.2 z).2 (fun x => y (.inl x))⟩⟩
      rcases y with y | y
      · exact (h1.2 z).1 y
      · have := bsN_d.mpr y.2
        exact absurd (by omega) e
  · rw [if_neg q]
    refine ⟨h1.1, fun z => ⟨fun y => ?_, fun y => (h1.2 z).2 (fun x => y (.inl x))⟩⟩
    rcases y with y | y
    · exact (h1.2 z).1 y
    · have h2 := bsN_d.mpr y.2
      by_cases x : A d
      · exact (h1.2 z).1 x
      · exfalso
        refine q ⟨hGc.mpr y.1, by omega, by rw [h2.1]; exact h2.2, ?_⟩
        rw [h2.1, Int.toNat_natCast]
        exact (h1.2 z).2 x
theorem wkI_cg {s : Nat} {F G : Nat → Int} {A B : Nat → Prop} (h : wkI s F G A) (hab : ∀ d, A d ↔ B d) : wkI s F G B := by
  intro d hd
  have := h d hd
  rw [hab d] at this
  exact this
theorem wkK_i {n : Int} {w : Int64} {pen : Int} {s c : Nat} {F G : Nat → Int} {A : Nat → Prop} (hn : n ≤ 7) (hs : 1 ≤ s) (hc : c < 67) (h : wkI s F G A) : ∀ m, wkI s F (wkK n w pen s c G m) (fun d => A d ∨ ∃ k, k < m ∧ F c = (s : Int) ∧ dogsN n w pen (d : Int) = true ∧ (c : Int) + shN (k + 1) = (d : Int)) := by
  intro m
  induction m with
  | zero => exact wkI_cg h (fun d => ⟨.inl, fun z => z.resolve_right (fun ⟨k, hk, _⟩ => by omega)⟩)
  | succ m ih =>
    refine wkI_cg (wku_i hn hs hc ih) (fun d => ?_)
    constructor
    · rintro ((z | ⟨k, hk, z⟩) | z)
      · exact .inl z
      · exact .inr ⟨k, by omega, z⟩
      · exact .inr ⟨m, by omega, z⟩
    · rintro (z | ⟨k, hk, z⟩)
      · exact .inl (.inl z)
      · by_cases q : k = m
        · subst q; exact .inr z
        · exact .inl (.inr ⟨k, by omega, z⟩)
theorem wkC_i {n : Int} {w : Int64} {pen : Int} {s : Nat} {F : Nat → Int} (hn : n ≤ 7) (hs : 1 ≤ s) : ∀ m, m ≤ 67 → wkI s F (wkC n w pen s F m) (fun d => ∃ c, c < m ∧ ∃ k, k < 4 ∧ F c = (s : Int) ∧ dogsN n w pen (d : Int) = true ∧ (c : Int) + shN (k + 1) = (d : Int)) := by
  intro m
  induction m with
  | zero => exact fun _ d hd => ⟨fun _ => rfl, fun z => ⟨fun ⟨c, hc, _⟩ => by omega, fun _ => z⟩⟩
  | succ m ih =>
    intro hm
    refine wkI_cg (wkK_i (c := m) hn hs (by omega) (ih (by omega)) 4) (fun d => ?_)
    constructor
    · rintro (⟨c, hc, z⟩ | z)
      · exact ⟨c, by omega, z⟩
      · exact ⟨m, by omega, z⟩
    · rintro ⟨c, hc, z⟩
      by_cases q : c = m
      · subst q; exact .inr z
      · exact .inl ⟨c, by omega, z⟩
def wkV (n : Int) (w : Int64) (pen : Int) (b t : Nat) (F : Nat → Int) : Prop := ∀ c, c < 67 → (0 ≤ F c ∧ F c ≤ (t : Int) + 1) ∧ ∀ k, k ≤ t → (rcN n w pen b k c = true ↔ 1 ≤ F c ∧ F c ≤ (k : Int) + 1)
theorem rc_up {n : Int} {w : Int64} {pen : Int} {b k c : Nat} (h : rcN n w pen b k c = true) : rcN n w pen b (k + 1) c = true := by
  show rcS n w pen (rcN n w pen b k) c = true
  unfold rcS
  rw [h]; rfl
theorem wkV_s {n : Int} {w : Int64} {pen : Int} {b t : Nat} {F : Nat → Int} (hn : n ≤ 7) (hb : b < 67 ∧ b % 10 < 7) (h : wkV n w pen b t F) : wkV n w pen b (t + 1) (wkC n w pen (t + 1) F 67) := by
  have hi := wkC_i (n := n) (w := w) (pen := pen) (s := t + 1) (F := F) hn (by omega) 67 (Nat.le_refl _)
  have hg := rcN_g (w := w) (pen := pen) hn hb
  intro d hd
  have h1 := h d hd
  have h2 := hi d hd
  by_cases z : F d = 0
  · have h3 := h2.2 z
    have hf : ∀ k, k ≤ t → rcN n w pen b k d = false := fun k hk => by
      cases q : rcN n w pen b k d with
      | false => rfl
      | true => have := (h1.2 k hk).mp q; omega
    by_cases y : ∃ c, c < 67 ∧ ∃ k, k < 4 ∧ F c = ((t + 1 : Nat) : Int) ∧ dogsN n w pen (d : Int) = true ∧ (c : Int) + shN (k + 1) = (d : Int)
    · rw [h3.1 y]
      refine ⟨by omega, fun k hk => ?_⟩
      by_cases e : k ≤ t
      · rw [hf k e]
        constructor
        · intro q; cases q
        · intro q; omega
      · have e2 : k = t + 1 := by omega
        subst e2
        refine ⟨fun _ => by omega, fun _ => ?_⟩
        obtain ⟨c, hc, j, hj, y1, y2, y3⟩ := y
        show rcS n w pen (rcN n w pen b t) d = true
        unfold rcS
        rw [y2, (rcA_iff (hg t)).mpr ⟨c, j, hc, hj, ((h c hc).2 t (Nat.le_refl _)).mpr (by omega), y3⟩]
        simp
    · rw [h3.2 y]
      refine ⟨by omega, fun k hk => ?_⟩
      by_cases e : k ≤ t
      · rw [hf k e]
        constructor
        · intro q; cases q
        · intro q; omega
      · have e2 : k = t + 1 := by omega
        subst e2
        refine ⟨fun q => ?_, fun q => by omega⟩
        exfalso
        have q : rcS n w pen (rcN n w pen b t) d = true := q
        unfold rcS at q
        rw [hf t (Nat.le_refl _), Bool.false_or, Bool.and_eq_true] at q
        obtain ⟨c, j, hc, hj, y1, y3⟩ := (rcA_iff (hg t)).mp q.2
        have y4 := ((h c hc).2 t (Nat.le_refl _)).mp y1
        by_cases x : F c = ((t + 1 : Nat) : Int)
        · exact y ⟨c, hc, j, hj, x, q.1, y3⟩
        · have y5 : rcN n w pen b (t - 1) c = true := ((h c hc).2 (t - 1) (by omega)).mpr (by omega)
          have y6 : rcN n w pen b (t - 1 + 1) d = true := by
            show rcS n w pen (rcN n w pen b (t - 1)) d = true
            unfold rcS
            rw [q.1, (rcA_iff (hg (t - 1))).mpr ⟨c, j, hc, hj, y5, y3⟩]
            simp
          rw [show t - 1 + 1 = t by omega, hf t (Nat.le_refl _)] at y6
          cases y6
  · rw [h2.1 z]
    refine ⟨by omega, fun k hk => ?_⟩
    by_cases e : k ≤ t
    · exact h1.2 k e
    · have e2 : k = t + 1 := by omega
      subst e2
      refine ⟨fun _ => by omega, fun _ => rc_up ((h1.2 t (Nat.le_refl _)).mpr (by omega))⟩
theorem wkV_all {n : Int} {w : Int64} {pen : Int} {b : Nat} {F : Nat → Int} (hn : n ≤ 7) (hb : b < 67 ∧ b % 10 < 7) : ∀ t, wkV n w pen b t (wkS n w pen (wk0 F (b : Int)) t) := by
  intro t
  induction t with
  | zero =>
    intro c hc
    show (0 ≤ wk0 F (b : Int) c ∧ wk0 F (b : Int) c ≤ ((0 : Nat) : Int) + 1) ∧ _
    have e : wk0 F (b : Int) c = if c = b then 1 else 0 := by
      unfold wk0
      simp only [up1, Int.toNat_natCast]
      rw [if_pos hc]
    refine ⟨by rw [e]; split <;> omega, fun k hk => ?_⟩
    have : k = 0 := by omega
    subst this
    show decide (c = b) = true ↔ 1 ≤ wk0 F (b : Int) c ∧ wk0 F (b : Int) c ≤ ((0 : Nat) : Int) + 1
    rw [e, decide_eq_true_eq]
    constructor
    · intro z; rw [if_pos z]; omega
    · intro z
      by_cases y : c = b
      · exact y
      · rw [if_neg y] at z; omega
  | succ t ih => exact wkV_s hn hb ih
theorem cnt_lt {P Q : Nat → Bool} : ∀ n, (∀ e, e < n → P e = true → Q e = true) → (∃ e, e < n ∧ Q e = true ∧ P e = false) → cnt P n + 1 ≤ cnt Q n
  | 0, _, ⟨e, he, _⟩ => by omega
  | n + 1, h, ⟨e, he, h1, h2⟩ => by
    simp only [cnt]
    by_cases q : e = n
    · subst q
      have := cnt_le e (fun e he => h e (by omega))
      rw [h1, h2]
      simp only [bI]
      simp
      omega
    · have h3 := cnt_lt n (fun e he => h e (by omega)) ⟨e, by omega, h1, h2⟩
      have h4 := h n (by omega)
      have h5 : bI (P n) ≤ bI (Q n) := by
        revert h4
        cases P n <;> cases Q n <;> simp [bI]
      omega
theorem rc_lim {n : Int} {w : Int64} {pen : Int} {b : Nat} (hn : n ≤ 7) (hb : b < 67 ∧ b % 10 < 7) (k : Nat) : cnt (rcN n w pen b k) 67 ≤ 49 := by
  have h := cnt_le (P := rcN n w pen b k) (Q := fun c => decide (c % 10 < 7)) 67 (fun e _ z => decide_eq_true (rcN_g hn hb k e z).2)
  have h2 : cnt (fun c => decide (c % 10 < 7)) 67 = 49 := by decide +kernel
  omega
theorem rc_stay {n : Int} {w : Int64} {pen : Int} {b j : Nat} (h : rcN n w pen b (j + 1) = rcN n w pen b j) : ∀ m, rcN n w pen b (j + m) = rcN n w pen b j := by
  intro m
  induction m with
  | zero => rfl
  | succ m ih =>
    show rcS n w pen (rcN n w pen b (j + m)) = _
    rw [ih]
    exact h
theorem rc_grow {n : Int} {w : Int64} {pen : Int} {b : Nat} (hn : n ≤ 7) (hb : b < 67 ∧ b % 10 < 7) : ∀ k, (∃ j, j < k ∧ rcN n w pen b (j + 1) = rcN n w pen b j) ∨ (k : Int) + 1 ≤ cnt (rcN n w pen b k) 67 := by
  intro k
  induction k with
  | zero =>
    right
    have h := cnt_lt (P := fun _ => false) (Q := rcN n w pen b 0) 67 (fun e _ z => by cases z) ⟨b, hb.1, decide_eq_true rfl, rfl⟩
    have h2 := (cnt_r (fun _ => false) 67).1
    omega
  | succ k ih =>
    rcases ih with ⟨j, hj, e⟩ | h
    · exact .inl ⟨j, by omega, e⟩
    · by_cases q : rcN n w pen b (k + 1) = rcN n w pen b k
      · exact .inl ⟨k, by omega, q⟩
      · right
        have h2 : ∃ e, e < 67 ∧ rcN n w pen b (k + 1) e = true ∧ rcN n w pen b k e = false := by
          refine Classical.byContradiction (fun z => q (funext fun e => ?_))
          cases x : rcN n w pen b k e with
          | true => exact rc_up x
          | false =>
            cases y : rcN n w pen b (k + 1) e with
            | false => rfl
            | true => exact absurd ⟨e, (rcN_g hn hb (k + 1) e y).1, y, x⟩ z
        have h3 := cnt_lt (P := rcN n w pen b k) (Q := rcN n w pen b (k + 1)) 67 (fun e _ z => rc_up z) h2
        omega
theorem rc_end {n : Int} {w : Int64} {pen : Int} {b : Nat} (hn : n ≤ 7) (hb : b < 67 ∧ b % 10 < 7) {k : Nat} (hk : 49 ≤ k) : rcN n w pen b k = rcN n w pen b 49 := by
  rcases rc_grow (w := w) (pen := pen) hn hb 49 with ⟨j, hj, e⟩ | h
  · have h1 := rc_stay e (k - j)
    have h2 := rc_stay e (49 - j)
    rw [show j + (k - j) = k by omega] at h1
    rw [show j + (49 - j) = 49 by omega] at h2
    rw [h1, h2]
  · have := rc_lim (w := w) (pen := pen) hn hb 49
    omega
theorem far_rc {n : Int} {w : Int64} {pen : Int} {b : Nat} {F : Nat → Int} (hn : n ≤ 7) (hb : b < 67 ∧ b % 10 < 7) {c : Nat} (hc : c < 67) (k : Nat) : rcN n w pen b k c = true ↔ 1 ≤ wkS n w pen (wk0 F (b : Int)) 49 c ∧ wkS n w pen (wk0 F (b : Int)) 49 c ≤ (k : Int) + 1 := by
  have h := wkV_all (w := w) (pen := pen) (F := F) hn hb 49 c hc
  by_cases q : k ≤ 49
  · exact h.2 k q
  · rw [rc_end hn hb (by omega), h.2 49 (Nat.le_refl _)]
    have := h.1
    omega
theorem far_n {n : Int} {w : Int64} {pen : Int} {b : Nat} {F : Nat → Int} (hn : n ≤ 7) (hb : b < 67 ∧ b % 10 < 7) {c : Nat} (hc : c < 67) : 0 ≤ wkS n w pen (wk0 F (b : Int)) 49 c ∧ wkS n w pen (wk0 F (b : Int)) 49 c ≤ 50 := by
  have h := (wkV_all (w := w) (pen := pen) (F := F) hn hb 49 c hc).1
  omega
theorem path_eq0 {n : Int} {w : Int64} {pen : Int} {b : Nat} {F : Nat → Int} (hn : n ≤ 7) (hb : b < 67 ∧ b % 10 < 7) {c : Nat} (hc : c < 67) (h7 : c % 10 < 7) : pathN (groundB n w pen 67) (bitL (b : Int)) (bitL (c : Int)) = wkS n w pen (wk0 F (b : Int)) 49 c - 1 := by
  have hP : ∀ k, pathP (groundB n w pen 67) (bitL (b : Int)) (bitL (c : Int)) k = rcN n w pen b k c := fun k => by
    unfold pathP
    rw [spr_eq hn hb k]
    have h := wallM (f := fun c => bI (rcN n w pen b k c)) hc h7
    unfold wallL at h
    rw [h]
    exact bI_1 _
  have hr := far_n (w := w) (pen := pen) (F := F) hn hb hc
  have hk := far_rc (w := w) (pen := pen) (F := F) hn hb hc
  obtain ⟨v, hv⟩ : ∃ v, v = wkS n w pen (wk0 F (b : Int)) 49 c := ⟨_, rfl⟩
  rw [← hv] at hr hk ⊢
  unfold pathN
  by_cases z : v = 0
  · have h1 : firstN (pathP (groundB n w pen 67) (bitL (b : Int)) (bitL (c : Int))) 67 = none := firstN_none.mpr (fun e _ => by
      rw [hP]
      cases q : rcN n w pen b e c with
      | false => rfl
      | true => have := (hk e).mp q; omega)
    rw [h1]
    show (-1 : Int) = v - 1
    omega
  · have h1 : firstN (pathP (groundB n w pen 67) (bitL (b : Int)) (bitL (c : Int))) 67 = some (v - 1).toNat := by
      refine firstN_some (by omega) (firstN_none.mpr (fun e he => ?_)) ?_
      · rw [hP]
        cases q : rcN n w pen b e c with
        | false => rfl
        | true => have := (hk e).mp q; omega
      · rw [hP]
        exact (hk _).mpr (by omega)
    rw [h1]
    show (((v - 1).toNat : Nat) : Int) = v - 1
    omega
theorem dog_b {I : Nat → Nat → Int} (hs : gRS (spR I)) : ((I 58 3).toNat < 67 ∧ (I 58 3).toNat % 10 < 7) ∧ (((I 58 3).toNat : Nat) : Int) = I 58 3 := by
  have h : gC7 (I 58 3) := hs.1
  unfold gC7 at h
  omega
theorem path_eq {I : Nat → Nat → Int} (hg : gR I) (hs : gRS (spR I)) {c : Int} (hc : gC7 c) : pathN (groundB (I 58 0) (maskW (I 59)) (I 58 2) 67) (bitL (I 58 3)) (bitL c) = farR I c.toNat - 1 := by
  have hb := dog_b hs
  have h := path_eq0 (n := I 58 0) (w := maskW (I 59)) (pen := I 58 2) (F := I 73) hg.1.2 hb.1 (c := c.toNat) (by unfold gC7 at hc; omega) (by unfold gC7 at hc; omega)
  rw [hb.2, show ((c.toNat : Nat) : Int) = c by unfold gC7 at hc; omega] at h
  exact h
theorem reach_eq {I : Nat → Nat → Int} (hg : gR I) (hs : gRS (spR I)) {n : Int} (hn : 0 ≤ n) : bcL (sprN (groundB (I 58 0) (maskW (I 59)) (I 58 2) 67) (bitL (I 58 3)) n.toNat) = cnt (fun c => decide (0 < farR I c) && decide (farR I c - 1 ≤ n)) 67 := by
  have hb := dog_b hs
  have h1 := spr_eq (n := I 58 0) (w := maskW (I 59)) (pen := I 58 2) hg.1.2 hb.1 n.toNat
  rw [hb.2] at h1
  rw [h1, wc_eq (fun c _ z => (rcN_g hg.1.2 hb.1 n.toNat c (by have z : bI _ = 1 := z; have := bI_1 (rcN (I 58 0) (maskW (I 59)) (I 58 2) (I 58 3).toNat n.toNat c); rw [z] at this; exact this.symm)).2)]
  refine cnt_cg (fun c hc => ?_)
  rw [bI_1]
  have h2 := far_rc (n := I 58 0) (w := maskW (I 59)) (pen := I 58 2) (F := I 73) hg.1.2 hb.1 hc n.toNat
  rw [hb.2] at h2
  have h2 : rcN (I 58 0) (maskW (I 59)) (I 58 2) (I 58 3).toNat n.toNat c = true ↔ 1 ≤ farR I c ∧ farR I c ≤ (n.toNat : Int) + 1 := h2
  refine Bool.eq_iff_iff.mpr ?_
  rw [h2, Bool.and_eq_true, decide_eq_true_eq, decide_eq_true_eq]
  omega
