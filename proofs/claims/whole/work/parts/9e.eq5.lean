/-! class and reference: rows of COMMANDS, evenings -/
theorem row_ok {I : Nat → Nat → Int} {s n l : Int} (h : frowN I s n l = 0) : (0 ≤ s ∧ s < 8) ∧ 0 ≤ n ∧ n ≤ l := by
  unfold frowN at h
  by_cases q : ¬ (0 ≤ s ∧ s < 8) ∨ n < 0 ∨ l < n
  · rw [if_pos q] at h; cases h
  · omega
theorem com_ok {I : Nat → Nat → Int} {J : Nat → Nat → Int64} {s n l : Int} (h : fcomN I J s n l = 0) : (0 ≤ s ∧ s < 8) ∧ 0 ≤ n ∧ n ≤ l := by
  unfold fcomN at h
  by_cases q : frowN I s n l = 0
  · exact row_ok q
  · rw [if_pos q] at h; exact absurd h q
theorem td_V {I : Nat → Nat → Int} {J : Nat → Nat → Int64} {s : Int} (hs : 0 ≤ s ∧ s < 8) : (fun k => (VJ I J (19 + 2 * s.toNat + 1) k).toInt) = tdF J s.toNat := by
  rw [VJ_row (by omega)]
  rfl
theorem run_late {H : HV} {p : SP} {J : Nat → Nat → Int64} {s l : Nat} : ∀ k, runS H p (latF J s l) (k + l) = runS H (runS H p (fun _ => 0) l) (tdF J s) k := by
  have h0 : ∀ m, m ≤ l → runS H p (latF J s l) m = runS H p (fun _ => 0) m := by
    intro m
    induction m with
    | zero => intro _; rfl
    | succ m ih =>
      intro hm
      simp only [runS]
      rw [ih (by omega), show latF J s l m = 0 from if_pos (by omega)]
  intro k
  induction k with
  | zero => rw [Nat.zero_add, h0 l (Nat.le_refl l)]; rfl
  | succ k ih =>
    rw [show k + 1 + l = (k + l) + 1 by omega]
    simp only [runS]
    rw [ih, show latF J s l (k + l) = tdF J s k from by unfold latF; rw [if_neg (by omega), show k + l - l = k by omega]]
theorem late_eq {I : Nat → Nat → Int} {J : Nat → Nat → Int64} {s n l : Int} (h : fLate (VI I) (VJ I J) s n l = 0) : inN (hv (VI I) (VJ I J) 1) (runS (hv (VI I) (VJ I J) 1) (runS (hv (VI I) (VJ I J) 1) (spOf (VI I) 4) (fun _ => 0) l.toNat) (fun k => (VJ I J (19 + 2 * s.toNat + 1) k).toInt) n.toNat).2.2 = inN (hvR I) (runS (hvR I) (spR I) (latF J s.toNat l.toNat) (n.toNat + l.toNat)).2.2 := by
  unfold fLate at h
  split at h
  · rw [run_late, td_V (com_ok h).1]
    rfl
  · cases h
theorem done_ok {I : Nat → Nat → Int} {J : Nat → Nat → Int64} {s n : Int} (h : fDone (VI I) (VJ I J) s n = 0) : (0 ≤ s ∧ s < 8) ∧ firstN (dnP I J s.toNat) n.toNat = none := by
  unfold fDone at h
  by_cases q : frowN (VI I) s n 40 = 0
  · rw [if_neg (fun z => z q)] at h
    have hs := (row_ok q).1
    refine ⟨hs, ?_⟩
    rw [wrong_V hs] at h
    by_cases q2 : dnR I J s.toNat n.toNat = -1
    · unfold dnR at q2
      split at q2
      · omega
      · next h3 => exact h3
    · rw [if_neg q2] at h; cases h
  · rw [if_pos q] at h; exact absurd h q
theorem done_eq {I : Nat → Nat → Int} {J : Nat → Nat → Int64} {s n : Int} (h : fDone (VI I) (VJ I J) s n = 0) : runS (hv (VI I) (VJ I J) 1) (spOf (VI I) 4) (fun k => (VJ I J (19 + 2 * s.toNat + 1) k).toInt) n.toNat = runS (hvR I) (spR I) (tdF J s.toNat) n.toNat := by
  rw [td_V (done_ok h).1]
  rfl
theorem behind_eq {I : Nat → Nat → Int} {J : Nat → Nat → Int64} {s n w : Int} (h : fBehind (VI I) (VJ I J) s n w = 0) : behindN (VI I) (VJ I J) s n w = behindR I J s.toNat n.toNat w := by
  unfold fBehind at h
  split at h
  · have hd := done_eq h
    have hk : dnK I J s.toNat n.toNat = n.toNat := by
      unfold dnK
      rw [(done_ok h).2]
      rfl
    unfold behindN behindR
    rw [hd, hk, ap_eq]
    rfl
  · cases h
theorem judge_eq {I : Nat → Nat → Int} {J : Nat → Nat → Int64} {s n : Int} (h : fJudge (VI I) s n = 0) : wrongN (VI I 1 0) (VJ I J 1 5) (VI I 1 1) (VI I 4 0) (VJ I J (19 + 2 * s.toNat + 1)) n.toNat = dnR I J s.toNat n.toNat := wrong_V (row_ok h).1
theorem odds_eq {I : Nat → Nat → Int} {J : Nat → Nat → Int64} {s n : Int} (h : fOdds (VI I) (VJ I J) s n = 0) : oddsN (hv (VI I) (VJ I J) 1) (VI I 1 2) (spOf (VI I) 4) (VJ I J (19 + 2 * s.toNat + 1)) n.toNat = oddsR I J s.toNat n.toNat := by
  have h1 := com_ok h
  have hp := pow12_0 n.toNat (by omega)
  unfold oddsN
  rw [if_neg hp.2, VJ_row (by omega), Int64.mul_comm]
  rfl
theorem kinds_eq {I : Nat → Nat → Int} {J : Nat → Nat → Int64} {s t n w : Int} (hs : 0 ≤ s ∧ s < 8) (ht : 0 ≤ t ∧ t < 8) : kindsN (VI I) (VJ I J) s t n w = kindsR I J s.toNat t.toNat n.toNat w.toNat := by
  unfold kindsN
  rw [VJ_row (by omega), VJ_row (by omega)]
  rfl
/-- an evening's world, of the class -/
def evE (I : Nat → Nat → Int) (x : Int × Int × SP) : Nat → Nat → Int := zu (zu (zSq I 4 x.2.2) 1 4 x.1) 1 3 x.2.1
theorem evE_sp {I : Nat → Nat → Int} {x : Int × Int × SP} : spOf (evE I x) 4 = x.2.2 := by
  show spOf (zSq I 4 x.2.2) 4 = _
  exact spOf_sq
theorem eve_ev {I : Nat → Nat → Int} {J : Nat → Nat → Int64} : ∀ k, eveI I J k = evE I (evN (hv I J 1) (I 1 2) (I 1 4, I 1 3, spOf I 4) k) := by
  intro k
  induction k with
  | zero =>
    funext i j
    simp only [eveI, evN, evE, zu, zSq, zSp, spOf]
    by_cases h1 : i = 1 ∧ j = 3
    · rw [if_pos h1, h1.1, h1.2]
    · rw [if_neg h1]
      by_cases h2 : i = 1 ∧ j = 4
      · rw [if_pos h2, h2.1, h2.2]
      · rw [if_neg h2]
        (repeat' split) <;> simp_all
  | succ k ih =>
    rw [eveI, ih, evN]
    obtain ⟨x, hx⟩ : ∃ x, x = evN (hv I J 1) (I 1 2) (I 1 4, I 1 3, spOf I 4) k := ⟨_, rfl⟩
    rw [← hx, evE_sp, show evE I x 1 4 = x.1 from congrArg (fun x => x) rfl, show evE I x 1 3 = x.2.1 from congrArg (fun x => x) rfl, show hv (evE I x) J 1 = hv I J 1 from rfl, show eveC (evE I x) = (if ush16 (seedN (seedN x.1)) % 12 < I 1 2 then x.2.2.2.1 else ush16 (seedN x.1) % 5) from congrArg (fun x => x) rfl]
    funext i j
    simp only [evE, zu, zSq, zSp]
    by_cases h1 : i = 1
    · subst h1
      (repeat' split) <;> simp_all
    · by_cases h4 : i = 4
      · subst h4
        by_cases j0 : j = 0
        · subst j0; simp
        · by_cases j1 : j = 1
          · subst j1; simp
          · simp [j0, j1]
      · by_cases h5 : i = 5
        · subst h5; simp
        · simp [h1, h4, h5]
