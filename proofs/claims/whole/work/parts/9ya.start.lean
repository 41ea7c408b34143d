/-! the start: what the Statement gives is what stays -/
def fl0 : List Cond := flatC (Jvm.Cond.and given_1 narrow_1)
def tmS (k : Nat) : Term := .static RX5 (zSN.getD k ("", [])).1 "[I"
def tmW (i : Nat) : Term := .string RX4 ([46, 55, 60, 65, 70, 75, 80].getD i 0)
theorem st_K {s : State} {args : Array Value} (hts : ∀ w ∈ lw_tbl, w.before args s = true) : ∃ (dC : Nat → ClassId) (dI : Nat → Nat → Nat) (cy : Nat → ClassId), va_K (dC, dI) vwCl [(cy 0, .int), (cy 1, .long), (cy 2, .boolean), (cy 3, .object RX2), (cy 4, .object RX3)] s := by
  have hz : ∀ w ∈ zTb, w.before args s = true := fun w hw => hts w (List.mem_filter.mp hw).1
  obtain ⟨c0, i0, h0⟩ := u_known (C := RX0) (T := TX0) (N := 10) (n := 10) hz zCl0.2.2.1 (hts _ (tb_1 _ (List.mem_of_getElem? (i := 26) rfl)))
  obtain ⟨c1, i1, h1⟩ := u_known (C := RX1) (T := TX1) (N := 6) (n := 6) hz zCl1.2.2.1 (hts _ (tb_1 _ (List.mem_of_getElem? (i := 158) rfl)))
  obtain ⟨c2, i2, h2⟩ := u_known (C := RX2) (T := TX2) (N := 3) (n := 3) hz zCl2.2.2.1 (hts _ (tb_1 _ (List.mem_of_getElem? (i := 136) rfl)))
  obtain ⟨c3, i3, h3⟩ := u_known (C := RX3) (T := TX3) (N := 3) (n := 3) hz zCl3.2.2.1 (hts _ (tb_1 _ (List.mem_of_getElem? (i := 32) rfl)))
  obtain ⟨c4, i4, h4⟩ := u_known (C := RX4) (T := TX4) (N := 6) (n := 6) hz zCl4.2.2.1 (hts _ (tb_1 _ (List.mem_of_getElem? (i := 105) rfl)))
  obtain ⟨c5, i5, h5⟩ := u_known (C := RX5) (T := TX5) (N := 8) (n := 8) hz zCl5.2.2.1 (hts _ (tb_1 _ (List.mem_of_getElem? (i := 18) rfl)))
  obtain ⟨c6, i6, h6⟩ := u_known (C := RX6) (T := TX6) (N := 30) (n := 30) hz zCl6.2.2.1 (hts _ (tb_4 _ (List.mem_of_getElem? (i := 104) rfl)))
  have ha : ∀ ty : FieldType, (Cond.arrayClass ty).before args s = true → ∃ cA : ClassId, ArrOfT s cA ty ∧ s.vm.findClass ("[" ++ ty.toString) = some cA := fun ty h => by
    obtain ⟨cA, kA, comp, f1, f2, f3⟩ := Cond.arrayClass_spec (first := s) (o := none) (idx := []) h
    exact ⟨cA, fun N z => ⟨(fun k h => by cases h), kA, f2, comp, f3⟩, f1⟩
  have hb : ∀ C : String, (Cond.arrayOver (.object C)).before args s = true → ∃ cA : ClassId, ArrOfT s cA (.object C) ∧ va_RA s cA (.object C) := fun C h => by
    obtain ⟨comp, cA, kA, f1, -, f2, f3, f4⟩ := Cond.arrayOver_spec (first := s) (o := none) (idx := []) h
    exact ⟨cA, fun N z => ⟨(fun k h => by cases h), kA, f2, comp, f3⟩, kA, comp, f2, f3, f1, f4⟩
  obtain ⟨a0, b0, d0⟩ := ha .int (hts _ (tb_1 _ (List.mem_of_getElem? (i := 55) rfl)))
  obtain ⟨a1, b1, d1⟩ := ha .long (hts _ (tb_1 _ (List.mem_of_getElem? (i := 154) rfl)))
  obtain ⟨a2, b2, d2⟩ := ha .boolean (hts _ (tb_4 _ (List.mem_of_getElem? (i := 200) rfl)))
  obtain ⟨a3, b3, d3⟩ := hb RX2 (hts _ (tb_1 _ (List.mem_of_getElem? (i := 135) rfl)))
  obtain ⟨a4, b4, d4⟩ := hb RX3 (hts _ (tb_1 _ (List.mem_of_getElem? (i := 164) rfl)))
  refine ⟨fun k => [c0, c1, c2, c3, c4, c5, c6].getD k c0, fun k => [i0, i1, i2, i3, i4, i5, i6].getD k i0, fun k => [a0, a1, a2, a3, a4].getD k a0, fun k q hq => ?_, fun k q hq => ?_⟩
  · match k, hq with
    | 0, hq => cases hq; exact h0
    | 1, hq => cases hq; exact h1
    | 2, hq => cases hq; exact h2
    | 3, hq => cases hq; exact h3
    | 4, hq => cases hq; exact h4
    | 5, hq => cases hq; exact h5
    | 6, hq => cases hq; exact h6
    | k + 7, hq => simp [vwCl] at hq
  · match k, hq with
    | 0, hq => cases hq; exact ⟨b0, d0⟩
    | 1, hq => cases hq; exact ⟨b1, d1⟩
    | 2, hq => cases hq; exact ⟨b2, d2⟩
    | 3, hq => cases hq; exact ⟨b3, d3⟩
    | 4, hq => cases hq; exact ⟨b4, d4⟩
    | k + 5, hq => simp at hq
theorem m_sta1 : ∀ k, k < 5 → Cond.arrayOf (tmS k) .int ∈ fl0 := by decide +kernel
theorem m_sta2 : ∀ k, k < 5 → Cond.eq (.length (tmS k)) (.int (Int32.ofNat (zSN.getD k ("", [])).2.length)) ∈ fl0 := by decide +kernel
theorem m_sta3 : ∀ k, k < 5 → ∀ j, j < (zSN.getD k ("", [])).2.length → Cond.eq (.elem (tmS k) (.int (Int32.ofNat j))) (.int (iI ((zSN.getD k ("", [])).2.getD j 0))) ∈ fl0 := by decide +kernel
theorem m_sta4 : ∀ k, k < 5 → Cond.laysStatic RX5 (zSN.getD k ("", [])).1 "[I" ∈ lw_tbl := by decide +kernel
theorem m_s1 : ∀ i, i < 7 → Cond.exactly (tmW i) "java/lang/String" ∈ fl0 := by decide +kernel
theorem m_s2 : ∀ i, i < 7 → Cond.eq (.field (tmW i) "java/lang/String" "code\x72" "B") (.int 0) ∈ fl0 := by decide +kernel
theorem m_s3 : ∀ i, i < 7 → Cond.arrayOf (.field (tmW i) "java/lang/String" "value" "[B") .byte ∈ fl0 := by decide +kernel
theorem m_s4 : ∀ i, i < 7 → Cond.eq (.length (.field (tmW i) "java/lang/String" "value" "[B")) (.int (Int32.ofNat ((zTx.map List.length).getD i 0))) ∈ fl0 := by decide +kernel
theorem m_s5 : ∀ i, i < 7 → ∀ j, j < (zTx.map List.length).getD i 0 → Cond.eq (.elem (.field (tmW i) "java/lang/String" "value" "[B") (.int (Int32.ofNat j))) (.int ((zTx.getD i []).getD j 0)) ∈ fl0 := by decide +kernel
theorem m_s6 : ∀ i, i < 7 → ∀ j, j < 7 → i ≠ j → Cond.not (Cond.eq (tmW i) (tmW j)) ∈ fl0 ∨ Cond.not (Cond.eq (tmW j) (tmW i)) ∈ fl0 := by decide +kernel
theorem m_s7 : ∀ q ∈ zTn, q.2.2.2 < 7 ∧ (Term.string q.1 q.2.1 = tmW q.2.2.2 ∨ Cond.eq (tmW q.2.2.2) (Term.string q.1 q.2.1) ∈ fl0) := by decide +kernel
theorem m_s8 : ∀ q ∈ zTn, Cond.stringRef q.1 q.2.1 q.2.2.1 ∈ lw_tbl := by decide +kernel
theorem m_c1 : Cond.eq (.static "java/lang/String" "COMPACT_STRINGS" "Z") (.int 1) ∈ fl0 := by decide +kernel
theorem m_c2 : Cond.isRef (.static "jdk/internal/util/Preconditions" "SIOOBE_FORMATTER" "Ljava/util/function/BiFunction;") ∈ fl0 := by decide +kernel
theorem m_nw : ∀ w ∈ zNw, w ∈ lw_tbl ∧ w.onTables = true := by decide +kernel
theorem zz_eqR {args : Array Value} {s : State} {t u : Term} {a : Nat} (h : (Cond.eq t u).before args s = true) (ht : t.eval args s none [] s = some (.ref a)) : u.eval args s none [] s = some (.ref a) := by
  cases hv : u.eval args s none [] s with
  | none => simp [Cond.before, Cond.holds, Cond.value, hv, ht] at h
  | some w =>
    simp only [Cond.before, Cond.holds, Cond.value, hv, ht] at h
    cases w <;> simp_all
theorem st_zF {s : State} {args : Array Value} (l : Launch) (b : Nat) (hts : ∀ w ∈ lw_tbl, w.before args s = true) (hg : (Jvm.Cond.and given_1 narrow_1).before args s = true) : ∃ (D : va_G) (cy ad : Nat → Nat), ad 2000 = b ∧ zF (l, D, cy, s.heap.size, ad) s s.heap := by
  have hs : ∀ w ∈ fl0, w.before args s = true := flat_of_before _ hg
  obtain ⟨dC, dI, cy, hK⟩ := st_K hts
  have hA : ∀ a : Nat, a < s.heap.size → ¬ (fun q : Nat => s.heap.size ≤ q) a := fun a h => Nat.not_le.mpr h
  have hst : ∀ k, ∃ t : Nat, k < 5 → (tmS k).eval args s none [] s = some (.ref t) ∧ va_T .int t (zSN.getD k ("", [])).2.length (fun j => .int (iI ((zSN.getD k ("", [])).2.getD j 0))) (fun q : Nat => s.heap.size ≤ q) s s.heap := fun k => by
    by_cases hk : k < 5
    · have hlen : ∀ k, k < 5 → (zSN.getD k ("", [])).2.length < 2 ^ 31 := by decide +kernel
      obtain ⟨t, h1, h2⟩ := va_Tof (f := fun j => .int (iI ((zSN.getD k ("", [])).2.getD j 0))) (A := fun q : Nat => s.heap.size ≤ q) (hlen k hk) (hs _ (m_sta1 k hk)) (va_eqt (hs _ (m_sta2 k hk))) (fun j hj => va_eqt (hs _ (m_sta3 k hk j hj))) hA
      exact ⟨t, fun _ => ⟨h1, h2⟩⟩
    · exact ⟨0, fun h => absurd h hk⟩
  obtain ⟨st, hst⟩ : ∃ st : Nat → Nat, ∀ k, k < 5 → (tmS k).eval args s none [] s = some (.ref (st k)) ∧ va_T .int (st k) (zSN.getD k ("", [])).2.length (fun j => .int (iI ((zSN.getD k ("", [])).2.getD j 0))) (fun q : Nat => s.heap.size ≤ q) s s.heap := ⟨fun k => Classical.choose (hst k), fun k => Classical.choose_spec (hst k)⟩
  have hl7 : ∀ i, i < 7 → (zTx.map List.length).getD i 0 < 2 ^ 31 := by decide +kernel
  obtain ⟨adK, adV, hS, hW⟩ := vk_Sof (args := args) (s := s) (N := 7) (tm := tmW) (len := zTx.map List.length) (byt := zTx) (A := fun q : Nat => s.heap.size ≤ q) hl7 (fun i hi => hs _ (m_s1 i hi)) (fun i hi => hs _ (m_s2 i hi)) (fun i hi => hs _ (m_s3 i hi)) (fun i hi => hs _ (m_s4 i hi)) (fun i hi j hj => hs _ (m_s5 i hi j hj)) (fun i j hi hj hne => (m_s6 i hi j hj hne).imp (hs _) (hs _)) hA
  have hcs := va_Zof (v := .int 1) (A := fun q : Nat => s.heap.size ≤ q) (hts _ (tb_2 _ (List.mem_of_getElem? (i := 201) rfl))) (hts _ (tb_1 _ (List.mem_of_getElem? (i := 11) rfl))) (va_eqt (hs _ m_c1)) hA
  have hfm := va_Zqof (A := fun q : Nat => s.heap.size ≤ q) (hts _ (tb_2 _ (List.mem_of_getElem? (i := 217) rfl))) (hts _ (tb_1 _ (List.mem_of_getElem? (i := 13) rfl))) (hs _ m_c2) hA
  obtain ⟨fo, o, ho, hfm⟩ : ∃ (fo : Nat) (o : Option Nat), (o = none ∨ o = some 3000) ∧ ∀ (A' : Nat → Nat), A' 3000 = fo → va_Z "jdk/internal/util/Preconditions" "SIOOBE_FORMATTER" "Ljava/util/function/BiFunction;" (va_rf (o.map A')) (fun q : Nat => s.heap.size ≤ q) s s.heap := by
    rcases hfm with h | ⟨t, h⟩
    · exact ⟨0, none, .inl rfl, fun _ _ => h⟩
    · exact ⟨t, some 3000, .inr rfl, fun A' hA' => by
        show va_Z _ _ _ (.ref (A' 3000)) _ _ _
        rw [hA']
        exact h⟩
  obtain ⟨ad, had⟩ : ∃ ad : Nat → Nat, ad = fun i => if i = 2000 then b else if i = 3000 then fo else if 1020 ≤ i then adV (i - 1020) else if 1010 ≤ i then adK (i - 1010) else st (i - 1000) := ⟨_, rfl⟩
  have e1 : ad 2000 = b := by rw [had]; exact if_pos rfl
  have e2 : ad 3000 = fo := by rw [had]; rfl
  have e3 : ∀ k, k < 5 → ad (1000 + k) = st k := fun k hk => by
    rw [had]
    show (if 1000 + k = 2000 then b else if 1000 + k = 3000 then fo else if 1020 ≤ 1000 + k then adV (1000 + k - 1020) else if 1010 ≤ 1000 + k then adK (1000 + k - 1010) else st (1000 + k - 1000)) = st k
    rw [if_neg (by omega), if_neg (by omega), if_neg (by omega), if_neg (by omega), show 1000 + k - 1000 = k by omega]
  have e4 : ∀ k, k < 7 → ad (1010 + k) = adK k := fun k hk => by
    rw [had]
    show (if 1010 + k = 2000 then b else if 1010 + k = 3000 then fo else if 1020 ≤ 1010 + k then adV (1010 + k - 1020) else if 1010 ≤ 1010 + k then adK (1010 + k - 1010) else st (1010 + k - 1000)) = adK k
    rw [if_neg (by omega), if_neg (by omega), if_neg (by omega), if_pos (by omega), show 1010 + k - 1010 = k by omega]
  have e5 : ∀ k, k < 7 → ad (1020 + k) = adV k := fun k hk => by
    rw [had]
    show (if 1020 + k = 2000 then b else if 1020 + k = 3000 then fo else if 1020 ≤ 1020 + k then adV (1020 + k - 1020) else if 1010 ≤ 1020 + k then adK (1020 + k - 1010) else st (1020 + k - 1000)) = adV k
    rw [if_neg (by omega), if_neg (by omega), if_pos (by omega), show 1020 + k - 1020 = k by omega]
  obtain ⟨g, hgd⟩ : ∃ g : zG, g = (l, (dC, dI), cy, s.heap.size, ad) := ⟨_, rfl⟩
  have z : ∀ i, 1000 ≤ i → za g i = ad i := fun i hi => by
    rw [hgd]
    exact if_neg (by omega)
  refine ⟨(dC, dI), cy, ad, e1, ?_⟩
  rw [← hgd]
  have zAe : zA g = fun q : Nat => s.heap.size ≤ q := by rw [hgd]; rfl
  refine ⟨by rw [hgd]; exact hK, fun w hw => va_Nw.of (m_nw w hw).2 (hts w (m_nw w hw).1), fun k q hq => ?_, fun q hq => ?_, ?_, ?_, o, ?_⟩
  · have hk : k < 5 := (List.getElem?_eq_some_iff.mp hq).1
    have hq2 : zSN.getD k ("", []) = q := by rw [List.getD_eq_getElem?_getD, hq]; rfl
    have h1 := hst k hk
    have h4 := m_sta4 k hk
    unfold tmS at h1
    rw [hq2] at h1 h4
    rw [z _ (by omega), e3 k hk, zAe]
    exact ⟨va_Zref (hts _ h4) (hts _ (tb_1 _ (List.mem_of_getElem? (i := 1) rfl))) h1.1 hA, h1.2⟩
  · obtain ⟨h7, h8⟩ := m_s7 q hq
    rw [z _ (by omega), e4 _ h7]
    refine vk_R.of (hts _ (m_s8 q hq)) ?_
    rcases h8 with h8 | h8
    · rw [h8]; exact hW _ h7
    · exact zz_eqR (hs _ h8) (hW _ h7)
  · rw [zAe]
    refine ⟨fun i hi => ?_, fun i j hi hj hij => ?_⟩
    · show va_O _ (za g (1010 + i)) _ _ _ ∧ va_OF _ _ _ _ (za g (1010 + i)) _ _ _ ∧ va_OF _ _ _ (.ref (za g (1020 + i))) (za g (1010 + i)) _ _ _ ∧ va_T _ (za g (1020 + i)) _ _ _ _ _
      rw [z _ (by omega), z _ (by omega), e4 i hi, e5 i hi]
      exact hS.1 i hi
    · have hij : za g (1010 + i) = za g (1010 + j) := hij
      rw [z _ (by omega), z _ (by omega), e4 i hi, e4 j hj] at hij
      exact hS.2 i j hi hj hij
  · rw [zAe]
    exact hcs
  · rw [zAe]
    have h1 := hfm (za g) (by rw [z _ (by omega)]; exact e2)
    exact h1
