/-! walls as bits: which places of a long are which CELLS -/
def bp (c : Nat) : Nat := c / 10 * 8 + c % 10
theorem bitL_b : ∀ c, c < 67 → (bitL ((c : Nat) : Int)).toBitVec = BitVec.twoPow 64 (bp c) ∧ bp c < 64 := by decide +kernel
theorem and_bit (w : Int64) {c : Nat} (h : c < 67) : (w &&& bitL (c : Int)).toBitVec = if w.toBitVec.getLsbD (bp c) then BitVec.twoPow 64 (bp c) else 0#64 := by
  rw [Int64.toBitVec_and, (bitL_b c h).1, BitVec.and_twoPow]
theorem two_ne {k : Nat} (h : k < 64) : ¬ BitVec.twoPow 64 k = 0#64 := by
  intro q
  have := BitVec.getLsbD_twoPow (w := 64) k k
  rw [q] at this
  simp [h] at this
theorem wallL_b (w : Int64) {c : Nat} (h : c < 67) : wallL w (c : Int) = w.toBitVec.getLsbD (bp c) := by
  unfold wallL
  have h1 := and_bit w h
  have h2 : (w &&& bitL (c : Int) = 0) ↔ ((w &&& bitL (c : Int)).toBitVec = 0#64) := Int64.toBitVec_inj.symm
  cases hb : w.toBitVec.getLsbD (bp c) with
  | true =>
    rw [hb, if_pos rfl] at h1
    have : ¬ (w &&& bitL (c : Int) = 0) := by rw [h2, h1]; exact two_ne (bitL_b c h).2
    simp [this]
  | false =>
    rw [hb, if_neg (by decide)] at h1
    have : (w &&& bitL (c : Int) = 0) := by rw [h2, h1]
    simp [this]
/-- the bits of a row of CELLS: those that hold 1, and are of a hill of seven -/
def maskK (f : Nat → Int) : Nat → Int64
  | 0 => 0
  | k + 1 => if f k = 1 ∧ k % 10 < 7 then maskK f k ||| bitL (k : Int) else maskK f k
def maskW (f : Nat → Int) : Int64 := maskK f 67
def vb (i : Nat) : Bool := decide (i / 8 < 7) && decide (i % 8 < 7)
def vc (i : Nat) : Nat := i / 8 * 10 + i % 8
theorem vc_bp {c : Nat} (h : c % 10 < 7) : vc (bp c) = c := by unfold vc bp; omega
theorem bp_vc {i : Nat} (h : vb i = true) : bp (vc i) = i ∧ vc i < 67 ∧ vc i % 10 < 7 := by
  simp only [vb, Bool.and_eq_true, decide_eq_true_eq] at h
  unfold vc bp
  omega
theorem vb_bp {c : Nat} (h : c < 67) (h2 : c % 10 < 7) : vb (bp c) = true := by
  simp only [vb, Bool.and_eq_true, decide_eq_true_eq]
  unfold bp
  omega
theorem maskK_b (f : Nat → Int) (k : Nat) (hk : k ≤ 67) (i : Nat) : (maskK f k).toBitVec.getLsbD i = (vb i && decide (vc i < k ∧ f (vc i) = 1)) := by
  induction k with
  | zero =>
    show (0#64).getLsbD i = _
    simp
  | succ k ih =>
    have h1 := ih (by omega)
    simp only [maskK]
    split
    · next h =>
      rw [Int64.toBitVec_or, BitVec.getLsbD_or, h1, (bitL_b k (by omega)).1, BitVec.getLsbD_twoPow]
      have hb := (bitL_b k (by omega)).2
      have hv := vb_bp (c := k) (by omega) h.2
      by_cases e : bp k = i
      · subst e
        rw [vc_bp h.2, hv]
        simp [hb, h.1]
      · by_cases hvi : vb i = true
        · have h3 := bp_vc hvi
          have h4 : vc i ≠ k := fun q => e (by rw [← q]; exact h3.1)
          rw [hvi]
          simp only [Bool.true_and, e, decide_false, Bool.and_false, Bool.or_false]
          refine decide_eq_decide.mpr ?_
          constructor
          · rintro ⟨a, b⟩; exact ⟨by omega, b⟩
          · rintro ⟨a, b⟩; exact ⟨by omega, b⟩
        · have hvi := Bool.eq_false_iff.mpr hvi
          rw [hvi]
          simp [e]
    · next h =>
      rw [h1]
      by_cases hvi : vb i = true
      · have h3 := bp_vc hvi
        rw [hvi]
        simp only [Bool.true_and]
        refine decide_eq_decide.mpr ?_
        constructor
        · rintro ⟨a, b⟩; exact ⟨by omega, b⟩
        · rintro ⟨a, b⟩
          refine ⟨?_, b⟩
          by_cases q : vc i = k
          · rw [q] at h3 b
            exact absurd ⟨b, h3.2.2⟩ h
          · omega
      · have hvi := Bool.eq_false_iff.mpr hvi
        rw [hvi]
        rfl
theorem maskW_b (f : Nat → Int) (i : Nat) : (maskW f).toBitVec.getLsbD i = (vb i && decide (f (vc i) = 1)) := by
  unfold maskW
  rw [maskK_b f 67 (Nat.le_refl _)]
  cases h : vb i with
  | false => rfl
  | true =>
    have := (bp_vc h).2.1
    simp [this]
theorem wallM {f : Nat → Int} {c : Nat} (h : c < 67) (h2 : c % 10 < 7) : wallL (maskW f) (c : Int) = decide (f c = 1) := by
  rw [wallL_b _ h, maskW_b, vb_bp h h2, vc_bp h2, Bool.true_and]
theorem i64_ext {a b : Int64} (h : ∀ i, i < 64 → a.toBitVec.getLsbD i = b.toBitVec.getLsbD i) : a = b :=
  Int64.toBitVec_inj.mp (BitVec.eq_of_getLsbD_eq (fun i hi => h i hi))
theorem maskW_set {f : Nat → Int} {c : Nat} (h : c < 67) (h2 : c % 10 < 7) : maskW (up1 f c 1) = maskW f ||| bitL (c : Int) := by
  refine i64_ext (fun i hi => ?_)
  rw [maskW_b, Int64.toBitVec_or, BitVec.getLsbD_or, maskW_b, (bitL_b c h).1, BitVec.getLsbD_twoPow]
  have hb := (bitL_b c h).2
  have hv := vb_bp h h2
  by_cases e : bp c = i
  · subst e
    rw [vc_bp h2, hv]
    simp [up1, hb]
  · cases hvi : vb i with
    | false => simp [e]
    | true =>
      have h4 : vc i ≠ c := fun q => e (by rw [← q]; exact (bp_vc hvi).1)
      simp [up1, h4, e]
theorem maskW_clr {f : Nat → Int} {c : Nat} {v : Int} (hv1 : v ≠ 1) (h : c < 67) (h2 : c % 10 < 7) : maskW (up1 f c v) = maskW f &&& (bitL (c : Int) ^^^ (-1)) := by
  refine i64_ext (fun i hi => ?_)
  rw [maskW_b, Int64.toBitVec_and, BitVec.getLsbD_and, maskW_b, Int64.toBitVec_xor, BitVec.getLsbD_xor, (bitL_b c h).1, BitVec.getLsbD_twoPow]
  have hb := (bitL_b c h).2
  have hv := vb_bp h h2
  have hm : (-1 : Int64).toBitVec.getLsbD i = true := by
    rw [show (-1 : Int64).toBitVec = BitVec.allOnes 64 from by decide +kernel, BitVec.getLsbD_allOnes]
    simp [hi]
  rw [hm]
  by_cases e : bp c = i
  · subst e
    rw [vc_bp h2, hv]
    simp [up1, hb, hv1]
  · cases hvi : vb i with
    | false => simp
    | true =>
      have h4 : vc i ≠ c := fun q => e (by rw [← q]; exact (bp_vc hvi).1)
      simp [up1, h4, e]
theorem maskW_cong {f f' : Nat → Int} (h : ∀ c, c < 67 → c % 10 < 7 → (f c = 1 ↔ f' c = 1)) : maskW f = maskW f' := by
  refine i64_ext (fun i hi => ?_)
  rw [maskW_b, maskW_b]
  cases hvi : vb i with
  | false => rfl
  | true =>
    have h3 := bp_vc hvi
    rw [decide_eq_decide.mpr (h _ h3.2.1 h3.2.2)]
/-! the reference's state, as the class's is told -/
def gC7 (c : Int) : Prop := (0 ≤ c ∧ c ≤ 66) ∧ c % 10 ≤ 6
theorem gC7_of {n c : Int} (hn : n ≤ 7) (h : isCellN n c = true) : gC7 c := by
  simp only [isCellN, decide_eq_true_eq] at h
  unfold gC7
  omega
theorem gC7_o {n : Int} {w : Int64} {c : Int} (hn : n ≤ 7) (h : openN n w c = true) : gC7 c := by
  simp only [openN, Bool.and_eq_true] at h
  exact gC7_of hn h.1
def gR (I : Nat → Nat → Int) : Prop := (3 ≤ I 58 0 ∧ I 58 0 ≤ 7) ∧ gC7 (I 58 2) ∧ (0 ≤ I 58 9 ∧ I 58 9 ≤ 12) ∧ (0 ≤ I 58 5 ∧ I 58 5 ≤ 5) ∧ (∀ e, e < 5 → 0 ≤ I 60 e ∧ I 60 e ≤ 5) ∧ (∀ e, e < 5 → 0 ≤ I 61 e ∧ I 61 e ≤ 9) ∧ (∀ c, c < 67 → I 59 c = 0 ∨ I 59 c = 1)
def gRS (p : SP) : Prop := gC7 p.1 ∧ (0 ≤ p.2.1 ∧ p.2.1 ≤ 4) ∧ ∀ e, e < 5 → gC7 (p.2.2 e)
def spR (I : Nat → Nat → Int) : SP := (I 58 3, I 58 4, I 62)
def hvR (I : Nat → Nat → Int) : HV := (I 58 0, maskW (I 59), I 58 2, I 58 5, I 60, I 61)
/-- the reference's dog, what it did, its cells -/
def zRq (I : Nat → Nat → Int) (p : SP) : Nat → Nat → Int := fun i k => if i = 58 then (if k = 3 then p.1 else if k = 4 then p.2.1 else I 58 k) else if i = 62 then p.2.2 k else I i k
theorem zRq_n {I : Nat → Nat → Int} {p : SP} {i : Nat} (h1 : i ≠ 58) (h2 : i ≠ 62) : zRq I p i = I i := by funext k; simp [zRq, h1, h2]
theorem zRq_k {I : Nat → Nat → Int} {p : SP} {k : Nat} (h1 : k ≠ 3) (h2 : k ≠ 4) : zRq I p 58 k = I 58 k := by simp [zRq, h1, h2]
theorem zRq_sp {I : Nat → Nat → Int} {p : SP} : spR (zRq I p) = p := rfl
theorem zRq_62 {I : Nat → Nat → Int} {p : SP} : zRq I p 62 = p.2.2 := rfl
theorem zRq_3 {I : Nat → Nat → Int} {p : SP} : zRq I p 58 3 = p.1 := rfl
theorem zRq_4 {I : Nat → Nat → Int} {p : SP} : zRq I p 58 4 = p.2.1 := rfl
theorem zRq_self {I : Nat → Nat → Int} : zRq I (spR I) = I := by
  funext i k
  simp only [zRq, spR]
  split
  · next h => subst h; (repeat' split) <;> simp_all
  · split
    · next h => subst h; rfl
    · rfl
theorem zRq_zRq {I : Nat → Nat → Int} {p p' : SP} : zRq (zRq I p) p' = zRq I p' := by
  funext i k
  simp only [zRq]
  split
  · (repeat' split) <;> simp_all
  · split <;> rfl
theorem zRq_p3 {I : Nat → Nat → Int} {p : SP} {v : Int} : zu (zRq I p) 58 3 v = zRq I (v, p.2) := by
  funext i k
  simp only [zRq, zu]
  by_cases h : i = 58
  · by_cases h3 : k = 3 <;> simp [h, h3]
  · simp [h]
theorem zRq_p4 {I : Nat → Nat → Int} {p : SP} {v : Int} : zu (zRq I p) 58 4 v = zRq I (p.1, v, p.2.2) := by
  funext i k
  simp only [zRq, zu]
  by_cases h : i = 58
  · by_cases h3 : k = 4
    · simp [h, h3]
    · simp [h, h3]
  · simp [h]
theorem zRq_pc {I : Nat → Nat → Int} {p : SP} {e : Nat} {v : Int} : zu (zRq I p) 62 e v = zRq I (p.1, p.2.1, up1 p.2.2 e v) := by
  funext i k
  simp only [zRq, zu, up1]
  by_cases h : i = 62
  · by_cases h3 : k = e <;> simp [h, h3]
  · simp [h]
theorem hvR_q {I : Nat → Nat → Int} {p : SP} : hvR (zRq I p) = hvR I := by
  unfold hvR
  rw [zRq_k (by decide) (by decide), zRq_k (by decide) (by decide), zRq_k (by decide) (by decide), zRq_n (by decide) (by decide), zRq_n (by decide) (by decide), zRq_n (by decide) (by decide)]
theorem gR_q {I : Nat → Nat → Int} {p : SP} (h : gR I) : gR (zRq I p) := by
  unfold gR
  rw [zRq_k (by decide) (by decide), zRq_k (by decide) (by decide), zRq_k (by decide) (by decide), zRq_k (by decide) (by decide), zRq_n (by decide) (by decide), zRq_n (by decide) (by decide), zRq_n (by decide) (by decide)]
  exact h
/-- the Hill of the reference, at the class's own places -/
def hR (I : Nat → Nat → Int) : Nat → Nat → Int := fun i k => if i = 1 then (if k = 0 then I 58 0 else if k = 1 then I 58 2 else if k = 2 then I 58 9 else if k = 6 then I 58 5 else 0) else if i = 2 then I 60 k else if i = 3 then I 61 k else 0
theorem hR_g {I : Nat → Nat → Int} (h : gR I) : gH (hR I) 1 := by
  obtain ⟨h1, h2, h3, h4, h5, h6, h7⟩ := h
  exact ⟨h1, h2.1, h3, h4, h5, h6⟩
theorem hR_v {I : Nat → Nat → Int} : hv (hR I) (fun _ _ => maskW (I 59)) 1 = hvR I := rfl
theorem nextN_7 {n : Int} {w : Int64} {cell dog mark : Int} (hn : n ≤ 7) (h : gC7 cell) : gC7 (nextN n w cell dog mark) := by
  unfold nextN
  have : ∀ k, gC7 (nfold n w dog mark cell k).1 := by
    intro k
    induction k with
    | zero => exact h
    | succ k ih =>
      simp only [nfold, nstp]
      split
      · next h1 => exact gC7_o hn h1.1
      · exact ih
  exact this 4
theorem git_7 {n : Int} {w : Int64} {pen dog fears stares mark c : Int} (hn : n ≤ 7) (h : gC7 c) (t : Nat) : gC7 (git n w pen dog fears stares mark c t) := by
  induction t with
  | zero => exact h
  | succ t ih =>
    simp only [git, gstp]
    split
    · exact ih
    · split
      · exact nextN_7 hn ih
      · exact ih
theorem goalN_7 {H : HV} {dog : Int} {C : Nat → Int} {w : Nat} {kd : Int} (hn : H.1 ≤ 7) (h : gC7 (C w)) : gC7 (goalN H dog C w kd) := git_7 hn h _
theorem turnC_7 {H : HV} {dog : Int} {C : Nat → Int} (hn : H.1 ≤ 7) (h : ∀ e, e < 5 → gC7 (C e)) : ∀ k, k ≤ 5 → ∀ e, e < 5 → gC7 (turnC H dog C k e) := by
  intro k
  induction k with
  | zero => intro _; exact h
  | succ k ih =>
    intro hk e he
    simp only [turnC, up1]
    split
    · exact goalN_7 hn (ih (by omega) k (by omega))
    · exact ih (by omega) e he
theorem dogN_7 {H : HV} {dog c : Int} (hn : H.1 ≤ 7) (h : gC7 dog) : gC7 (dogN H dog c) := by
  unfold dogN
  split
  · next h1 =>
    simp only [canN, Bool.or_eq_true, decide_eq_true_eq] at h1
    rcases h1 with h1 | h1
    · subst h1
      show gC7 (dog + shN 0)
      rw [show shN 0 = 0 from rfl, Int.add_zero]
      exact h
    · simp only [dogsN, Bool.and_eq_true] at h1
      exact gC7_o hn h1.2
  · exact h
theorem gRS_turn {I : Nat → Nat → Int} {p : SP} {c : Int} (hg : gR I) (hp : gRS p) (hc : 0 ≤ c ∧ c ≤ 4) : gRS (turnS (hvR I) p c) :=
  ⟨dogN_7 (H := hvR I) hg.1.2 hp.1, hc, turnC_7 (H := hvR I) hg.1.2 hp.2.2 _ (by have := hg.2.2.2.1; show (I 58 5).toNat ≤ 5; omega)⟩
theorem gRS_gP {p : SP} (h : gRS p) : gP p := ⟨h.1.1, h.2.1, fun e he => (h.2.2 e he).1⟩
/-- the CELL beside one, -1 if none or a WALL -/
def bsN (n : Int) (w : Int64) (c : Int) (k : Nat) : Int := if openN n w (c + shN k) = true then c + shN k else -1
theorem beside_eq {n : Int} {f : Nat → Int} {c rw cl : Int} {k : Nat} (hn : 3 ≤ n ∧ n ≤ 7) (hc : gC7 c) (hk : k < 5) (hr : rw = c / 10 + (if k = 1 then -1 else if k = 2 then 1 else 0)) (hl : cl = c % 10 + (if k = 3 then -1 else if k = 4 then 1 else 0)) :
    (((0 ≤ rw ∧ rw ≤ n - 1) ∧ 0 ≤ cl ∧ cl ≤ n - 1) → (c + shN k = 10 * rw + cl ∧ isCellN n (c + shN k) = true)) ∧ (¬ ((0 ≤ rw ∧ rw ≤ n - 1) ∧ 0 ≤ cl ∧ cl ≤ n - 1) → isCellN n (c + shN k) = false) := by
  obtain ⟨⟨c1, c2⟩, c3⟩ := hc
  unfold isCellN
  match k, hk with
  | 0, _ => simp only [shN]; simp at hr hl; simp; omega
  | 1, _ => simp only [shN]; simp at hr hl; simp; omega
  | 2, _ => simp only [shN]; simp at hr hl; simp; omega
  | 3, _ => simp only [shN]; simp at hr hl; simp; omega
  | 4, _ => simp only [shN]; simp at hr hl; simp; omega
