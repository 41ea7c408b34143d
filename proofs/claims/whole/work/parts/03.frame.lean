/-! THE FRAME: one world of numbered cells, a judgement zZ over it, contracts zRuns. -/
abbrev vwCl : List vw_C := [(RX0, TX0, 10), (RX1, TX1, 6), (RX2, TX2, 3), (RX3, TX3, 3), (RX4, TX4, 6), (RX5, TX5, 8), (RX6, TX6, 30)]
/-- launch, where fields lie, the array classes, where the world begins, where the given cells lie -/
abbrev zG : Type := Launch × va_G × (Nat → ClassId) × Nat × (Nat → Nat)
/-- kinds and lengths of the cells; ints; longs; references -/
def iI (z : Int) : Int32 := Int32.ofInt z
theorem iI_toInt {z : Int} (h1 : -2147483648 ≤ z) (h2 : z ≤ 2147483647) : (iI z).toInt = z := Int32.toInt_ofInt_of_le h1 (by omega)
theorem iI_of (x : Int32) : x = iI x.toInt := (Int32.ofInt_toInt x).symm
theorem iI_add (a b : Int) : iI a + iI b = iI (a + b) := (Int32.ofInt_add a b).symm
theorem iI_sub (a b : Int) : iI a - iI b = iI (a - b) := (Int32.ofInt_sub a b).symm
theorem iI_mul (a b : Int) : iI a * iI b = iI (a * b) := (Int32.ofInt_mul a b).symm
theorem iI_neg (a : Int) : -iI a = iI (-a) := (Int32.ofInt_neg a).symm
theorem iI_lt {a b : Int} (ha : -2147483648 ≤ a ∧ a ≤ 2147483647) (hb : -2147483648 ≤ b ∧ b ≤ 2147483647) : iI a < iI b ↔ a < b := by rw [Int32.lt_iff_toInt_lt, iI_toInt ha.1 ha.2, iI_toInt hb.1 hb.2]
theorem iI_le {a b : Int} (ha : -2147483648 ≤ a ∧ a ≤ 2147483647) (hb : -2147483648 ≤ b ∧ b ≤ 2147483647) : iI a ≤ iI b ↔ a ≤ b := by rw [Int32.le_iff_toInt_le, iI_toInt ha.1 ha.2, iI_toInt hb.1 hb.2]
theorem iI_eq {a b : Int} (ha : -2147483648 ≤ a ∧ a ≤ 2147483647) (hb : -2147483648 ≤ b ∧ b ≤ 2147483647) : iI a = iI b ↔ a = b := by rw [← Int32.toInt_inj, iI_toInt ha.1 ha.2, iI_toInt hb.1 hb.2]
theorem iI_nI (n : Nat) : nI n = iI n := rfl
theorem iI_n {z : Int} (h : 0 ≤ z) : iI z = nI z.toNat := by rw [iI_nI, Int.toNat_of_nonneg h]
theorem iI_div {a d : Int} (ha : 0 ≤ a ∧ a ≤ 2147483647) (hd : 0 < d ∧ d ≤ 2147483647) : iI a / iI d = iI (a / d) := by
  obtain ⟨n, rfl⟩ : ∃ n : Nat, a = n := ⟨a.toNat, by omega⟩
  obtain ⟨m, rfl⟩ : ∃ m : Nat, d = m := ⟨d.toNat, by omega⟩
  exact pk_div (a := n) (d := m) (by omega) (by omega) (by omega)
theorem iI_rem {a d : Int} (ha : 0 ≤ a ∧ a ≤ 2147483647) (hd : 0 < d ∧ d ≤ 2147483647) : iI a - iI a / iI d * iI d = iI (a % d) := by
  obtain ⟨n, rfl⟩ : ∃ n : Nat, a = n := ⟨a.toNat, by omega⟩
  obtain ⟨m, rfl⟩ : ∃ m : Nat, d = m := ⟨d.toNat, by omega⟩
  exact pk_rem (a := n) (d := m) (by omega) (by omega) (by omega)
theorem iI_ne0 {d : Int} (hd : 0 < d ∧ d ≤ 2147483647) : ¬ iI d = 0 := by
  rw [show (0 : Int32) = iI 0 from rfl, iI_eq (by omega) (by omega)]
  omega
abbrev zSt : Type := List (Nat × Nat) × (Nat → Nat → Int) × (Nat → Nat → Int64) × (Nat → Nat → Option Nat)
abbrev zl (g : zG) : Launch := g.1
abbrev zD (g : zG) : va_G := g.2.1
abbrev zcy (g : zG) : Nat → ClassId := g.2.2.1
abbrev zbs (g : zG) : Nat := g.2.2.2.1
def za (g : zG) (i : Nat) : Nat := if i < 1000 then zbs g + i else g.2.2.2.2 i
def zv (g : zG) : Value → Value
  | .ref i => .ref (za g i)
  | v => v
def zA (g : zG) : Nat → Prop := fun q => zbs g ≤ q
/-- what the slots of an object of a class hold: 0 an int, 1 a long, 2 a reference -/
def zft : Nat → List Nat
  | 0 => [0, 0, 0, 0, 0, 1, 0, 2, 2, 2]
  | 1 => [2, 2, 2, 0, 2, 2]
  | 2 => [0, 0, 2]
  | 3 => [0, 0, 2]
  | 4 => [2, 0, 2, 0, 0, 0]
  | 5 => [2, 2, 0, 2, 2, 2, 2, 2]
  | 6 => [0, 2, 0, 0, 0, 0, 2, 2, 2, 0, 0, 0, 0, 2, 0, 0, 0, 0, 2, 2, 2, 2, 0, 2, 2, 2, 2, 2, 0, 2]
  | _ => []
def zfv (g : zG) (σ : zSt) (i k : Nat) : Nat → Value
  | 0 => .int (iI (σ.2.1 i k))
  | 1 => .long (σ.2.2.1 i k)
  | _ => va_rf ((σ.2.2.2 i k).map (za g))
def zfs (g : zG) (σ : zSt) (i : Nat) : List Nat → Nat → List Value
  | [], _ => []
  | t :: ts, k => zfv g σ i k t :: zfs g σ i ts (k + 1)
theorem zfs_at (g : zG) (σ : zSt) (i : Nat) : ∀ (ts : List Nat) (k j t : Nat), ts[j]? = some t → (zfs g σ i ts k)[j]? = some (zfv g σ i (k + j) t)
  | [], k, j, t, h => by simp at h
  | u :: ts, k, 0, t, h => by
    simp at h
    subst h
    rfl
  | u :: ts, k, j + 1, t, h => by
    simp only [List.getElem?_cons_succ] at h
    simp only [zfs, List.getElem?_cons_succ]
    rw [zfs_at g σ i ts (k + 1) j t h]
    congr 2
    omega
theorem zfs_len (g : zG) (σ : zSt) (i : Nat) : ∀ (ts : List Nat) (k : Nat), (zfs g σ i ts k).length = ts.length
  | [], _ => rfl
  | _ :: ts, k => by simp [zfs, zfs_len g σ i ts (k + 1)]
theorem zfs_eq {g : zG} {σ σ' : zSt} {i : Nat} : ∀ (ts : List Nat) (k : Nat), (∀ j t, ts[j]? = some t → zfv g σ i (k + j) t = zfv g σ' i (k + j) t) → zfs g σ i ts k = zfs g σ' i ts k
  | [], _, _ => rfl
  | t :: ts, k, h => by
    have h0 := h 0 t rfl
    simp only [Nat.add_zero] at h0
    simp only [zfs, h0]
    exact congrArg _ (zfs_eq ts (k + 1) (fun j u hu => by
      have h2 := h (j + 1) u (by simpa using hu)
      rw [show k + (j + 1) = k + 1 + j by omega] at h2
      exact h2))
/-- one slot is another: the list with that place set -/
theorem zfs_set {g : zG} {σ σ' : zSt} {i k : Nat} {v : Value} (ts : List Nat) (hk : k < ts.length) (hs : ∀ t, ts[k]? = some t → zfv g σ' i k t = v) (ho : ∀ j t, j ≠ k → ts[j]? = some t → zfv g σ' i j t = zfv g σ i j t) : (zfs g σ i ts 0).set k v = zfs g σ' i ts 0 := by
  apply List.ext_getElem?
  intro j
  by_cases hj : j < ts.length
  · have ht : ts[j]? = some ts[j] := List.getElem?_eq_getElem hj
    have h2 := zfs_at g σ' i ts 0 j _ ht
    rw [Nat.zero_add] at h2
    rw [h2]
    by_cases e : j = k
    · subst e
      rw [List.getElem?_set_self (by rw [zfs_len]; exact hk), hs _ ht]
    · rw [List.getElem?_set_ne (Ne.symm e)]
      have h1 := zfs_at g σ i ts 0 j _ ht
      rw [Nat.zero_add] at h1
      rw [h1, ho j _ e ht]
  · rw [List.getElem?_eq_none (by rw [List.length_set, zfs_len]; omega), List.getElem?_eq_none (by rw [zfs_len]; omega)]
/-- what a cell holds, by its kind -/
def zE (g : zG) (σ : zSt) (i : Nat) (kd : Nat × Nat) : va_E :=
  if kd.1 < 7 then .inr (kd.1, zfs g σ i (zft kd.1) 0)
  else if kd.1 = 8 then .inl (zcy g 1, kd.2, .inr (.inl (σ.2.2.1 i)))
  else if kd.1 = 7 then .inl (zcy g 0, kd.2, .inl (fun k => iI (σ.2.1 i k)))
  else if kd.1 = 9 then .inl (zcy g 2, kd.2, .inl (fun k => iI (σ.2.1 i k)))
  else .inl (zcy g (kd.1 - 7), kd.2, .inr (.inr (.inr (.inr (fun k => (σ.2.2.2 i k).map (za g))))))
def zTy (g : zG) : List (ClassId × FieldType) := [(zcy g 0, .int), (zcy g 1, .long), (zcy g 2, .boolean), (zcy g 3, .object RX2), (zcy g 4, .object RX3)]
/-- how many cells the whole world has: while it is built, nothing else is made -/
def zNA : Nat := 74
/-- the world on the heap -/
def zHp (g : zG) (σ : zSt) (H : Heap) : Prop := zbs g + σ.1.length ≤ H.size ∧ (σ.1.length < zNA → H.size = zbs g + σ.1.length) ∧ σ.1.length < 1000 ∧ ∀ i kd, σ.1[i]? = some kd → va_at (zD g) vwCl (za g i, zE g σ i kd) H
theorem za_lt {g : zG} {i : Nat} (h : i < 1000) : za g i = zbs g + i := if_pos h
theorem zHp.ad {g : zG} {σ : zSt} {H : Heap} (h : zHp g σ H) {i : Nat} {kd : Nat × Nat} (hi : σ.1[i]? = some kd) : za g i = zbs g + i ∧ i < 1000 := by
  have h1 := (List.getElem?_eq_some_iff.mp hi).1
  have h2 := h.2.2.1
  exact ⟨za_lt (by omega), by omega⟩
/-- one cell has changed -/
theorem zHp.put {g : zG} {σ σ' : zSt} {H H1 : Heap} (h : zHp g σ H) (h1 : σ'.1 = σ.1) {i : Nat} {kd : Nat × Nat} (hi : σ.1[i]? = some kd) (hz : H1.size = H.size) (ho : ∀ q, q ≠ za g i → H1[q]? = H[q]?) (hc : va_at (zD g) vwCl (za g i, zE g σ' i kd) H1) (hs : ∀ j kj, j ≠ i → zE g σ' j kj = zE g σ j kj) : zHp g σ' H1 := by
  refine ⟨by rw [h1, hz]; exact h.1, fun q => by rw [h1, hz]; exact h.2.1 (by rw [← h1]; exact q), by rw [h1]; exact h.2.2.1, fun j kj hj => ?_⟩
  rw [h1] at hj
  by_cases e : j = i
  · subst e
    cases hj.symm.trans hi
    exact hc
  · rw [hs j kj e]
    refine (h.2.2.2 j kj hj).kept (ho _ ?_)
    rw [(h.ad hj).1, (h.ad hi).1]
    omega
/-- words that say what a nest mate may reach -/
def zNw : List Cond := [.fieldLinkNest RX0 108 RX5 "FEARS" "[I" RX5, .fieldLinkNest RX0 88 RX5 "TIMES" "[I" RX5, .fieldLinkNest RX0 114 RX5 "STARES" "[I" RX5, .fieldLinkNest RX0 91 RX5 "SHIFTS" "[I" RX5, .fieldLinkNest RX1 95 RX5 "SHIFTS" "[I" RX5,
  .methodLinkNest RX0 84 yX5_stepsBetween RX5, .methodLinkNest RX0 58 yX5_bitOf RX5, .methodLinkNest RX4 121 yX5_isKind RX5, .methodLinkNest RX5 194 yX1_bringsAll RX5, .methodLinkNest RX5 204 yX1_seekMost RX5]
/-- static rows of ints: their names and what they hold -/
def zSN : List (String × List Int) := [("SHIFTS", [0, -10, 10, -1, 1]), ("UNDER", [-1, 0, 0, 1, 2, 0]), ("TIMES", [1, 2, 1, 3, 1, 1]), ("FEARS", [3, 3, 3, 5, 3, -1]), ("STARES", [-1, -1, 1, -1, 2, -1])]
/-- the words of a HILL: side 0, wall 1, gap 2, pen 3, dog 4, ewe 5, wind 6 -/
def zTx : List (List Int32) := [[115, 105, 100, 101], [119, 97, 108, 108], [103, 97, 112], [112, 101, 110], [100, 111, 103], [101, 119, 101], [119, 105, 110, 100]]
def zTn : List (String × Nat × String × Nat) := [(RX4, 46, "side", 0), (RX4, 55, "wall", 1), (RX4, 60, "gap", 2), (RX4, 65, "pen", 3), (RX4, 70, "dog", 4), (RX4, 75, "ewe", 5), (RX4, 80, "wind", 6), (RX6, 186, "side", 0), (RX6, 192, "ewe", 5), (RX6, 197, "wind", 6), (RX6, 198, "wall", 1), (RX6, 200, "gap", 2), (RX6, 202, "pen", 3), (RX6, 203, "dog", 4)]
def zLen (i : Nat) : Nat := (zTx.getD i []).length
def zSta (g : zG) (U : State) (H : Heap) : Prop := ∀ k q, zSN[k]? = some q → va_Z RX5 q.1 "[I" (.ref (za g (1000 + k))) (zA g) U H ∧ va_T .int (za g (1000 + k)) q.2.length (fun j => .int (iI (q.2.getD j 0))) (zA g) U H
def zStr (g : zG) (U : State) (H : Heap) : Prop := (∀ q ∈ zTn, vk_R q.1 q.2.1 q.2.2.1 (za g (1010 + q.2.2.2)) U) ∧ vk_S 7 (zTx.map List.length) zTx (fun i => za g (1010 + i)) (fun i => za g (1020 + i)) (zA g) U H ∧ va_Z "java/lang/String" "COMPACT_STRINGS" "Z" (.int 1) (zA g) U H ∧ ∃ o : Option Nat, va_Z "jdk/internal/util/Preconditions" "SIOOBE_FORMATTER" "Ljava/util/function/BiFunction;" (va_rf (o.map (za g))) (zA g) U H
/-- what is given and stays -/
def zF (g : zG) (U : State) (H : Heap) : Prop := va_K (zD g) vwCl (zTy g) U ∧ (∀ w ∈ zNw, va_Nw w U) ∧ zSta g U H ∧ zStr g U H
theorem zNw_warm {s U : State} (hW : s.WarmedH U.vm) (h : ∀ w ∈ zNw, va_Nw w s) : ∀ w ∈ zNw, va_Nw w U := by
  intro w hw
  have h1 := h w hw
  simp only [zNw, List.mem_cons, List.not_mem_nil, or_false] at hw
  rcases hw with rfl | rfl | rfl | rfl | rfl | rfl | rfl | rfl | rfl | rfl
  all_goals first | exact va_Nw.warmF hW h1 | exact va_Nw.warmM hW h1
theorem zF.moved {g : zG} {s U : State} {H : Heap} (hW : s.WarmedH U.vm) (h : zF g s H) : zF g U H :=
  ⟨va_K.moved hW.alike h.1, zNw_warm hW h.2.1, fun k q hq => ⟨va_Z.moved hW.alike (h.2.2.1 k q hq).1, va_T.moved hW.alike (h.2.2.1 k q hq).2⟩, fun q hq => vk_R.warm hW (h.2.2.2.1 q hq), vk_S.moved hW.alike h.2.2.2.2.1, va_Z.moved hW.alike h.2.2.2.2.2.1, h.2.2.2.2.2.2.imp fun _ z => va_Z.moved hW.alike z⟩
theorem zF.kept {g : zG} {U : State} {H H1 : Heap} (h : zF g U H) (hq : ∀ a : Nat, a < H.size → ¬ zA g a → H1[a]? = H[a]?) : zF g U H1 :=
  ⟨h.1, h.2.1, fun k q hk => ⟨va_Z.kept (h.2.2.1 k q hk).1 hq, va_T.kept (h.2.2.1 k q hk).2 hq⟩, h.2.2.2.1, vk_S.kept h.2.2.2.2.1 hq, va_Z.kept h.2.2.2.2.2.1 hq, h.2.2.2.2.2.2.imp fun _ z => va_Z.kept z hq⟩
/-- a frame blind state -/
theorem zF.calling {g : zG} {U : State} {H : Heap} (f : JFrame) (mk : MethodId) (a : Array Value) (h : zF g U H) : zF g (U.calling f mk a) H :=
  ⟨va_K.moved (u := U) (U := U.calling f mk a) (Vm.Alike.refl U.vm) h.1, fun w hw => by
    have h1 := h.2.1 w hw
    have ht : w.onTables = true := by
      simp only [zNw, List.mem_cons, List.not_mem_nil, or_false] at hw
      rcases hw with rfl | rfl | rfl | rfl | rfl | rfl | rfl | rfl | rfl | rfl <;> rfl
    exact va_Nw.same (u := U) (U := U.calling f mk a) ht rfl h1, fun k q hk => ⟨va_Z.moved (u := U) (U := U.calling f mk a) (Vm.Alike.refl U.vm) (h.2.2.1 k q hk).1, va_T.moved (u := U) (U := U.calling f mk a) (Vm.Alike.refl U.vm) (h.2.2.1 k q hk).2⟩, fun q hq => vk_R.same (u := U) (U := U.calling f mk a) rfl (h.2.2.2.1 q hq), vk_S.moved (u := U) (U := U.calling f mk a) (Vm.Alike.refl U.vm) h.2.2.2.2.1, va_Z.moved (u := U) (U := U.calling f mk a) (Vm.Alike.refl U.vm) h.2.2.2.2.2.1, h.2.2.2.2.2.2.imp fun _ z => va_Z.moved (u := U) (U := U.calling f mk a) (Vm.Alike.refl U.vm) z⟩
