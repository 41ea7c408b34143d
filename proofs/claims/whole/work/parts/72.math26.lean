/-! told rows, done by the reference -/
def tdF (J : Nat → Nat → Int64) (s : Nat) : Nat → Int := fun k => (J 66 (40 * s + k)).toInt
def dnP (I : Nat → Nat → Int) (J : Nat → Nat → Int64) (s k : Nat) : Bool := !(isCmd (J 66 (40 * s + k)) && canN (I 58 0) (maskW (I 59)) (I 58 2) (runS (hvR I) (spR I) (tdF J s) k).1 (tdF J s k))
def dnK (I : Nat → Nat → Int) (J : Nat → Nat → Int64) (s n : Nat) : Nat := (firstN (dnP I J s) n).getD n
def dnR (I : Nat → Nat → Int) (J : Nat → Nat → Int64) (s n : Nat) : Int := match firstN (dnP I J s) n with
  | some e => e
  | none => -1
theorem run_ok {I : Nat → Nat → Int} {f : Nat → Int} {p : SP} (hg : gR I) (hp : gRS p) (hd : gDO (hvR I) p.1) : ∀ k, (∀ e, e < k → 0 ≤ f e ∧ f e ≤ 4) → gRS (runS (hvR I) p f k) ∧ gDO (hvR I) (runS (hvR I) p f k).1
  | 0, _ => ⟨hp, hd⟩
  | k + 1, h => by
    have h1 := run_ok hg hp hd k (fun e he => h e (by omega))
    have h2 := h k (by omega)
    exact ⟨gRS_turn hg h1.1 h2, gDO_c h1.2 h2.1⟩
theorem dn_cmd {I : Nat → Nat → Int} {J : Nat → Nat → Int64} {s k : Nat} (h : firstN (dnP I J s) k = none) : ∀ e, e < k → 0 ≤ tdF J s e ∧ tdF J s e ≤ 4 := by
  intro e he
  have h1 := firstN_none.mp h e he
  simp only [dnP, Bool.not_eq_false', Bool.and_eq_true, isCmd, decide_eq_true_eq] at h1
  unfold tdF
  omega
theorem run_walk {H : HV} {p : SP} {f : Nat → Int64} (k : Nat) (h : ∀ j, j < k → canN H.1 H.2.1 H.2.2.1 (walkC p.1 f j) (f j).toInt = true) : (runS H p (fun i => (f i).toInt) k).1 = walkC p.1 f k := by
  induction k with
  | zero => rfl
  | succ k ih =>
    have h1 := ih (fun j hj => h j (by omega))
    have h2 := h k (by omega)
    show dogN H (runS H p (fun i => (f i).toInt) k).1 (f k).toInt = walkC p.1 f k + shN (f k).toInt.toNat
    unfold dogN
    rw [h1, if_pos h2]
theorem firstN_pre {P Q : Nat → Bool} (h : ∀ n, firstN Q n = none → P n = Q n) : ∀ n, firstN P n = firstN Q n := by
  intro n
  induction n with
  | zero => rfl
  | succ n ih =>
    simp only [firstN]
    rw [ih]
    cases hq : firstN Q n with
    | some x => rfl
    | none => rw [h n hq]
def dnG (H : HV) (p : SP) (f : Nat → Int64) (k : Nat) : Bool := !(isCmd (f k) && canN H.1 H.2.1 H.2.2.1 (runS H p (fun i => (f i).toInt) k).1 (f k).toInt)
theorem dn_gen {H : HV} {p : SP} {f : Nat → Int64} : ∀ n, firstN (dnG H p f) n = firstN (wrongP H.1 H.2.1 H.2.2.1 p.1 f) n := by
  refine firstN_pre (fun n hn => ?_)
  have h0 := firstN_none.mp hn
  have hw := run_walk (H := H) (p := p) (f := f) n (fun j hj => by
    have h1 := h0 j hj
    simp only [wrongP, Bool.not_eq_false', Bool.and_eq_true] at h1
    exact h1.2)
  unfold dnG wrongP
  rw [hw]
theorem dn_wrong {I : Nat → Nat → Int} {J : Nat → Nat → Int64} {s : Nat} (n : Nat) : firstN (dnP I J s) n = firstN (wrongP (I 58 0) (maskW (I 59)) (I 58 2) (I 58 3) (fun k => J 66 (40 * s + k))) n :=
  dn_gen (H := hvR I) (p := spR I) (f := fun k => J 66 (40 * s + k)) n
def optI (o : Option Nat) : Int := match o with
  | some e => e
  | none => -1
theorem dnR_o {I : Nat → Nat → Int} {J : Nat → Nat → Int64} {s n : Nat} : dnR I J s n = optI (firstN (dnP I J s) n) := rfl
theorem wrongN_o {n : Int} {w : Int64} {pen dog : Int} {f : Nat → Int64} {m : Nat} : wrongN n w pen dog f m = optI (firstN (wrongP n w pen dog f) m) := rfl
theorem dnR_w {I : Nat → Nat → Int} {J : Nat → Nat → Int64} {s n : Nat} : dnR I J s n = wrongN (I 58 0) (maskW (I 59)) (I 58 2) (I 58 3) (fun k => J 66 (40 * s + k)) n := by
  rw [dnR_o, wrongN_o, dn_wrong]
theorem VJ_row {I : Nat → Nat → Int} {J : Nat → Nat → Int64} {k : Nat} (h : k < 8) : VJ I J (19 + 2 * k + 1) = fun i => J 66 (40 * k + i) := by
  funext i
  exact VJ_s h
theorem wrong_V {I : Nat → Nat → Int} {J : Nat → Nat → Int64} {s n : Int} (hs : 0 ≤ s ∧ s < 8) : wrongN (VI I 1 0) (VJ I J 1 5) (VI I 1 1) (VI I 4 0) (VJ I J (19 + 2 * s.toNat + 1)) n.toNat = dnR I J s.toNat n.toNat := by
  rw [dnR_w, VJ_row (by omega)]
  rfl
theorem dnK_le {I : Nat → Nat → Int} {J : Nat → Nat → Int64} {s n : Nat} : dnK I J s n ≤ n ∧ firstN (dnP I J s) (dnK I J s n) = none := by
  unfold dnK
  cases h : firstN (dnP I J s) n with
  | none => exact ⟨Nat.le_refl _, h⟩
  | some e => exact ⟨Nat.le_of_lt (firstN_lt h).1, firstN_none.mpr (firstN_bef h)⟩
theorem dnR_r {I : Nat → Nat → Int} {J : Nat → Nat → Int64} {s n : Nat} (hn : n ≤ 40) : -1 ≤ dnR I J s n ∧ dnR I J s n ≤ 40 := by
  unfold dnR
  split
  · next e he => have := (firstN_lt he).1; omega
  · omega
theorem dnR_K {I : Nat → Nat → Int} {J : Nat → Nat → Int64} {s n : Nat} (h : dnR I J s n = -1) : dnK I J s n = n := by
  unfold dnR at h
  unfold dnK
  split at h
  · omega
  · next q => rw [q]; rfl
theorem dn_sv {I : Nat → Nat → Int} {J : Nat → Nat → Int64} {d s n : Nat} {p : SP} : dnR (svI I d p) J s n = dnR I J s n ∧ dnK (svI I d p) J s n = dnK I J s n := by
  have e : dnP (svI I d p) J s = dnP I J s := by
    funext k
    unfold dnP
    rw [hvR_sv, spR_sv, svI_n (by decide), svI_n (by decide)]
  unfold dnR dnK
  rw [e]
  exact ⟨rfl, rfl⟩
/-- evenings: seed, turns, what the turns change -/
def evN (H : HV) (wind : Int) (x : Int × Int × SP) : Nat → Int × Int × SP
  | 0 => x
  | k + 1 => (seedN (seedN (evN H wind x k).1), (evN H wind x k).2.1 + 1, turnS H (evN H wind x k).2.2 (if ush16 (seedN (seedN (evN H wind x k).1)) % 12 < wind then (evN H wind x k).2.2.2.1 else ush16 (seedN (evN H wind x k).1) % 5))
theorem evN_ok {I : Nat → Nat → Int} {x : Int × Int × SP} (hg : gR I) (hp : gRS x.2.2) (hd : gDO (hvR I) x.2.2.1) (k : Nat) : gRS (evN (hvR I) (I 58 9) x k).2.2 ∧ gDO (hvR I) (evN (hvR I) (I 58 9) x k).2.2.1 := by
  induction k with
  | zero => exact ⟨hp, hd⟩
  | succ k ih =>
    have h5 := ush5 (seedN (evN (hvR I) (I 58 9) x k).1)
    have hc : 0 ≤ (if ush16 (seedN (seedN (evN (hvR I) (I 58 9) x k).1)) % 12 < I 58 9 then (evN (hvR I) (I 58 9) x k).2.2.2.1 else ush16 (seedN (evN (hvR I) (I 58 9) x k).1) % 5) ∧ (if ush16 (seedN (seedN (evN (hvR I) (I 58 9) x k).1)) % 12 < I 58 9 then (evN (hvR I) (I 58 9) x k).2.2.2.1 else ush16 (seedN (evN (hvR I) (I 58 9) x k).1) % 5) ≤ 4 := by
      split
      · exact ih.1.2.1
      · exact h5
    exact ⟨gRS_turn hg ih.1 hc, gDO_c ih.2 hc.1⟩
/-- the reference's seed, turns, spots -/
def zEv (I : Nat → Nat → Int) (x : Int × Int × SP) : Nat → Nat → Int := fun i k => if i = 58 ∧ k = 11 then x.1 else if i = 58 ∧ k = 10 then x.2.1 else zRq I x.2.2 i k
theorem zEv_self {I : Nat → Nat → Int} : zEv I (I 58 11, I 58 10, spR I) = I := by
  funext i k
  simp only [zEv]
  rw [zRq_self]
  split
  · next h => obtain ⟨rfl, rfl⟩ := h; rfl
  · split
    · next h => obtain ⟨rfl, rfl⟩ := h; rfl
    · rfl
theorem zEv_11 {I : Nat → Nat → Int} {x : Int × Int × SP} {v : Int} : zu (zEv I x) 58 11 v = zEv I (v, x.2) := by
  funext i k
  simp only [zu, zEv]
  by_cases h : i = 58 ∧ k = 11
  · simp [h]
  · simp [h]
theorem zEv_10 {I : Nat → Nat → Int} {x : Int × Int × SP} {v : Int} : zu (zEv I x) 58 10 v = zEv I (x.1, v, x.2.2) := by
  funext i k
  simp only [zu, zEv]
  by_cases h : i = 58 ∧ k = 10
  · simp [h]
  · simp [h]
theorem zEv_q {I : Nat → Nat → Int} {x : Int × Int × SP} {p : SP} : zRq (zEv I x) p = zEv I (x.1, x.2.1, p) := by
  funext i k
  simp only [zRq, zEv]
  by_cases h : i = 58
  · subst h
    by_cases h3 : k = 3
    · subst h3; simp
    · by_cases h4 : k = 4
      · subst h4; simp
      · simp [h3, h4]
  · by_cases h2 : i = 62
    · subst h2; simp
    · simp [h, h2]
theorem zEv_hv {I : Nat → Nat → Int} {x : Int × Int × SP} : hvR (zEv I x) = hvR I := rfl
theorem zEv_g {I : Nat → Nat → Int} {x : Int × Int × SP} (h : gR I) : gR (zEv I x) := h
theorem zEv_sp {I : Nat → Nat → Int} {x : Int × Int × SP} : spR (zEv I x) = x.2.2 := rfl
def behindR (I : Nat → Nat → Int) (J : Nat → Nat → Int64) (s n : Nat) (w : Int) : Int :=
  if w = 0 then inN (hvR I) (runS (hvR I) (spR I) (tdF J s) (dnK I J s n)).2.2
  else if w = 1 then (runS (hvR I) (spR I) (tdF J s) (dnK I J s n)).1
  else if w = 2 then apO (runS (hvR I) (spR I) (tdF J s) (dnK I J s n)).2.2 (I 58 2) (I 58 5).toNat
  else (runS (hvR I) (spR I) (tdF J s) (dnK I J s n)).2.2 (w - 10).toNat
