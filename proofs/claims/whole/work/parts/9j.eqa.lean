/-! bare rows and columns: class = reference -/
theorem and_0 (x m : Int64) : x &&& m = 0 ↔ ∀ i, i < 64 → m.toBitVec.getLsbD i = true → x.toBitVec.getLsbD i = false := by
  constructor
  · intro h i hi hm
    have h2 : (x &&& m).toBitVec.getLsbD i = false := by
      rw [h]
      show (0#64).getLsbD i = false
      simp
    rw [Int64.toBitVec_and, BitVec.getLsbD_and, hm, Bool.and_true] at h2
    exact h2
  · intro h
    refine i64_ext (fun i hi => ?_)
    rw [Int64.toBitVec_and, BitVec.getLsbD_and]
    show _ = (0#64).getLsbD i
    rw [show (0#64).getLsbD i = false by simp]
    cases hm : m.toBitVec.getLsbD i with
    | false => rw [Bool.and_false]
    | true => rw [h i hi hm]; rfl
theorem row_m : ∀ k, k < 7 → ∀ i, i < 64 → (lsh 255 (8 * ((k : Nat) : Int))).toBitVec.getLsbD i = decide (i / 8 = k) := by decide +kernel
theorem col_m : ∀ k, k < 7 → ∀ i, i < 64 → (lsh 72340172838076673 ((k : Nat) : Int)).toBitVec.getLsbD i = decide (i % 8 = k) := by decide +kernel
theorem ewe_b {C : Nat → Int} : ∀ m, (∀ e, e < m → gC7 (C e)) → ∀ i, (eweB C m).toBitVec.getLsbD i = true ↔ ∃ e, e < m ∧ bp (C e).toNat = i := by
  intro m
  induction m with
  | zero =>
    intro _ i
    constructor
    · intro h
      have h : (0#64).getLsbD i = true := h
      simp at h
    · rintro ⟨e, he, _⟩; omega
  | succ m ih =>
    intro h i
    have h1 := h m (by omega)
    have h2 := bitL_b (C m).toNat (by have := h1.1; omega)
    rw [show (((C m).toNat : Nat) : Int) = C m by have := h1.1; omega] at h2
    rw [eweB, Int64.toBitVec_or, BitVec.getLsbD_or, Bool.or_eq_true, ih (fun e he => h e (by omega)) i, h2.1, BitVec.getLsbD_twoPow, decide_eq_true h2.2, Bool.true_and, decide_eq_true_eq]
    constructor
    · rintro (⟨e, he, hb⟩ | hb)
      · exact ⟨e, by omega, hb⟩
      · exact ⟨m, by omega, hb⟩
    · rintro ⟨e, he, hb⟩
      by_cases q : e = m
      · subst q; exact .inr hb
      · exact .inl ⟨e, by omega, hb⟩
/-- walls and EWES stand on CELLS of the hill -/
def gHW (I : Nat → Nat → Int) : Prop := (∀ c, c < 67 → I 59 c = 1 → isCellN (I 58 0) (c : Int) = true) ∧ ∀ e, e < (I 58 5).toNat → isCellN (I 58 0) (I 62 e) = true
theorem occ_c {I : Nat → Nat → Int} (hw : gHW I) {c : Nat} (hc : c < 67) (h : occ I c = true) : isCellN (I 58 0) (c : Int) = true := by
  unfold occ at h
  rw [Bool.or_eq_true, decide_eq_true_eq] at h
  rcases h with h | h
  · exact hw.1 c hc h
  · obtain ⟨e, he, q⟩ := (eweAtN_iff _ _ _).mp h
    rw [← q]
    exact hw.2 e he
theorem occ_b {I : Nat → Nat → Int} (hg : gR I) (hs : gRS (spR I)) (i : Nat) : (maskW (I 59) ||| eweB (I 62) (I 58 5).toNat).toBitVec.getLsbD i = true ↔ ∃ c, (c < 67 ∧ c % 10 < 7) ∧ bp c = i ∧ occ I c = true := by
  have hn : (I 58 5).toNat ≤ 5 := by have := hg.2.2.2.1; omega
  rw [Int64.toBitVec_or, BitVec.getLsbD_or, Bool.or_eq_true, maskW_b, ewe_b (C := I 62) _ (fun e he => hs.2.2 e (by omega)) i, Bool.and_eq_true, decide_eq_true_eq]
  constructor
  · rintro (⟨h1, h2⟩ | ⟨e, he, hb⟩)
    · have h3 := bp_vc h1
      exact ⟨vc i, h3.2, h3.1, occ_w h2⟩
    · have h7 : gC7 (I 62 e) := hs.2.2 e (by omega)
      have h8 := h7.1
      have h9 := h7.2
      refine ⟨(I 62 e).toNat, ⟨by omega, by omega⟩, hb, ?_⟩
      unfold occ
      rw [show (((I 62 e).toNat : Nat) : Int) = I 62 e by omega, (eweAtN_iff _ _ _).mpr ⟨e, he, rfl⟩, Bool.or_true]
  · rintro ⟨c, hc, hb, ho⟩
    unfold occ at ho
    rw [Bool.or_eq_true, decide_eq_true_eq] at ho
    rcases ho with ho | ho
    · subst hb
      exact .inl ⟨vb_bp hc.1 hc.2, by rw [vc_bp hc.2]; exact ho⟩
    · obtain ⟨e, he, q⟩ := (eweAtN_iff _ _ _).mp ho
      exact .inr ⟨e, he, by rw [q, Int.toNat_natCast]; exact hb⟩
theorem row_eq {I : Nat → Nat → Int} (hg : gR I) (hs : gRS (spR I)) (hw : gHW I) {k : Nat} (hk : k < (I 58 0).toNat) : (maskW (I 59) ||| eweB (I 62) (I 58 5).toNat) &&& lsh 255 (8 * (k : Int)) = 0 ↔ rwB (occ I) (I 58 0).toNat k = true := by
  have hn := hg.1
  rw [and_0]
  unfold rwB
  rw [decide_eq_true_eq, firstN_none]
  constructor
  · intro h j hj
    cases ho : occ I (10 * k + j) with
    | false => rfl
    | true =>
      exfalso
      have h1 := h (bp (10 * k + j)) (by unfold bp; omega) (by rw [row_m k (by omega) _ (by unfold bp; omega)]; exact decide_eq_true (by unfold bp; omega))
      rw [(occ_b hg hs _).mpr ⟨10 * k + j, by omega, rfl, ho⟩] at h1
      cases h1
  · intro h i hi hm
    rw [row_m k (by omega) i hi, decide_eq_true_eq] at hm
    cases ht : (maskW (I 59) ||| eweB (I 62) (I 58 5).toNat).toBitVec.getLsbD i with
    | false => rfl
    | true =>
      exfalso
      obtain ⟨c, hc, hb, ho⟩ := (occ_b hg hs i).mp ht
      have h1 := occ_c hw hc.1 ho
      simp only [isCellN, decide_eq_true_eq] at h1
      unfold bp at hb
      have h2 := h (c % 10) (by omega)
      rw [show 10 * k + c % 10 = c by omega, ho] at h2
      cases h2
theorem col_eq {I : Nat → Nat → Int} (hg : gR I) (hs : gRS (spR I)) (hw : gHW I) {k : Nat} (hk : k < (I 58 0).toNat) : (maskW (I 59) ||| eweB (I 62) (I 58 5).toNat) &&& lsh 72340172838076673 (k : Int) = 0 ↔ clB (occ I) (I 58 0).toNat k = true := by
  have hn := hg.1
  rw [and_0]
  unfold clB
  rw [decide_eq_true_eq, firstN_none]
  constructor
  · intro h j hj
    cases ho : occ I (10 * j + k) with
    | false => rfl
    | true =>
      exfalso
      have h1 := h (bp (10 * j + k)) (by unfold bp; omega) (by rw [col_m k (by omega) _ (by unfold bp; omega)]; exact decide_eq_true (by unfold bp; omega))
      rw [(occ_b hg hs _).mpr ⟨10 * j + k, by omega, rfl, ho⟩] at h1
      cases h1
  · intro h i hi hm
    rw [col_m k (by omega) i hi, decide_eq_true_eq] at hm
    cases ht : (maskW (I 59) ||| eweB (I 62) (I 58 5).toNat).toBitVec.getLsbD i with
    | false => rfl
    | true =>
      exfalso
      obtain ⟨c, hc, hb, ho⟩ := (occ_b hg hs i).mp ht
      have h1 := occ_c hw hc.1 ho
      simp only [isCellN, decide_eq_true_eq] at h1
      unfold bp at hb
      have h2 := h (c / 10) (by omega)
      rw [show 10 * (c / 10) + k = c by omega, ho] at h2
      cases h2
theorem bare_eq {I : Nat → Nat → Int} (hg : gR I) (hs : gRS (spR I)) (hw : gHW I) : bareF (maskW (I 59) ||| eweB (I 62) (I 58 5).toNat) (I 58 0).toNat = bareG (occ I) (I 58 0).toNat (I 58 0).toNat := by
  have key : ∀ k, k ≤ (I 58 0).toNat → bareF (maskW (I 59) ||| eweB (I 62) (I 58 5).toNat) k = bareG (occ I) (I 58 0).toNat k := by
    intro k
    induction k with
    | zero => intro _; rfl
    | succ k ih =>
      intro hk
      have h1 := row_eq hg hs hw (k := k) (by omega)
      have h2 := col_eq hg hs hw (k := k) (by omega)
      have h3 : bareR (maskW (I 59) ||| eweB (I 62) (I 58 5).toNat) k (bareG (occ I) (I 58 0).toNat k) = if rwB (occ I) (I 58 0).toNat k = true then orN (bareG (occ I) (I 58 0).toNat k) ((2 ^ k : Nat) : Int) else bareG (occ I) (I 58 0).toNat k := by
        unfold bareR
        by_cases q : rwB (occ I) (I 58 0).toNat k = true
        · rw [if_pos q, if_pos (h1.mpr q)]
        · rw [if_neg q, if_neg (fun z => q (h1.mp z))]
      simp only [bareF, bareG]
      rw [ih (by omega), h3]
      by_cases q : clB (occ I) (I 58 0).toNat k = true
      · rw [if_pos q, if_pos (h2.mpr q)]
      · rw [if_neg q, if_neg (fun z => q (h2.mp z))]
  exact key _ (Nat.le_refl _)
