/-! the words of a HILL: constant Strings, and the methods on them -/
def txN (k e : Nat) : Int := ((zTx.getD k []).getD e 0).toInt
theorem iI_txN (k e : Nat) : iI (txN k e) = (zTx.getD k []).getD e 0 := (iI_of _).symm
theorem txN_r : ∀ k, k < 7 → ∀ e, e < 4 → 0 ≤ txN k e ∧ txN k e ≤ 122 := by decide +kernel
theorem zLen_r : ∀ k, k < 7 → 3 ≤ zLen k ∧ zLen k ≤ 4 := by decide +kernel
section ZSTR
variable {g : zG} {X : zX} {M : zM} {d mc ms nc ns : Nat} {σ : zSt} {pc : Nat} {L : List (Nat × Value)} {S : List Value} {idx : Nat}
theorem zs_one (C : zC g X M d mc ms) {k : Nat} (hk : k < 7) : va_O "java/lang/String" (za g (1010 + k)) (zA g) (xs X) (xs X).heap ∧ va_OF "java/lang/String" "coder" "B" (.int 0) (za g (1010 + k)) (zA g) (xs X) (xs X).heap ∧ va_OF "java/lang/String" "value" "[B" (.ref (za g (1020 + k))) (za g (1010 + k)) (zA g) (xs X) (xs X).heap ∧ va_T .byte (za g (1020 + k)) ((zTx.map List.length).getD k 0) (fun j => .int ((zTx.getD k []).getD j 0)) (zA g) (xs X) (xs X).heap :=
  C.2.2.2.2.2.2.2.2.2.1.2.2.2.2.1.1 k hk
theorem zs_len7 : ∀ k, k < 7 → (zTx.map List.length).getD k 0 = zLen k := by decide +kernel
theorem zs_value (C : zC g X M d mc ms) {k : Nat} (hk : k < 7) (hlk : Cond.fieldLink M.1.cls idx RJ0 "value" "[B" ∈ zTb) (hd : decode M.2.1 pc = .ok (.getfield idx, 3)) (kk : zZ g X nc ns σ (pc + 3) L (.ref (1020 + k) :: S)) : zZ g X nc ns σ pc L (.ref (1010 + k) :: S) :=
  fun H locs ls hH hS hl => vk_getf C.1 C.2.1 (zs_one C hk).2.2.1 hS C.2.2.2.1 (C.2.2.2.2.1 _ hlk) (fun _ h => h) hd (kk H locs ls hH hS hl)
theorem zs_coder (C : zC g X M d mc ms) {k : Nat} (hk : k < 7) (hlk : Cond.fieldLink M.1.cls idx RJ0 "coder" "B" ∈ zTb) (hd : decode M.2.1 pc = .ok (.getfield idx, 3)) (kk : zZ g X nc ns σ (pc + 3) L (.int (iI 0) :: S)) : zZ g X nc ns σ pc L (.ref (1010 + k) :: S) :=
  fun H locs ls hH hS hl => vk_getf C.1 C.2.1 (zs_one C hk).2.1 hS C.2.2.2.1 (C.2.2.2.2.1 _ hlk) (fun _ h => h) hd (kk H locs ls hH hS hl)
theorem zs_compact (C : zC g X M d mc ms) (hlk : Cond.fieldLink M.1.cls idx RJ0 "COMPACT_STRINGS" "Z" ∈ zTb) (hd : decode M.2.1 pc = .ok (.getstatic idx, 3)) (kk : zZ g X nc ns σ (pc + 3) L (.int (iI 1) :: S)) : zZ g X nc ns σ pc L S :=
  fun H locs ls hH hS hl => va_gets C.1 C.2.1 C.2.2.2.2.2.2.2.2.2.1.2.2.2.2.2.1 hS C.2.2.2.1 (C.2.2.2.2.1 _ hlk) (fun _ h => h) hd (kk H locs ls hH hS hl)
theorem zs_fmt (C : zC g X M d mc ms) (hlk : Cond.fieldLink M.1.cls idx RJ3 "SIOOBE_FORMATTER" "Ljava/util/function/BiFunction;" ∈ zTb) (hd : decode M.2.1 pc = .ok (.getstatic idx, 3)) (kk : ∀ o : Option Nat, zZ g X nc ns σ (pc + 3) L (va_rf o :: S)) : zZ g X nc ns σ pc L S := by
  obtain ⟨o, ho⟩ := C.2.2.2.2.2.2.2.2.2.1.2.2.2.2.2.2
  intro H locs ls hH hS hl
  have h := kk o H locs ls hH hS hl
  have e : zv g (va_rf o) = va_rf (o.map (za g)) := by cases o <;> rfl
  rw [List.map_cons, e] at h
  exact va_gets C.1 C.2.1 ho hS C.2.2.2.1 (C.2.2.2.2.1 _ hlk) (fun _ h => h) hd h
theorem zs_len (C : zC g X M d mc ms) {k : Nat} (hk : k < 7) (hd : decode M.2.1 pc = .ok (.arraylength, 1)) (kk : zZ g X nc ns σ (pc + 1) L (.int (iI (zLen k : Nat)) :: S)) : zZ g X nc ns σ pc L (.ref (1020 + k) :: S) :=
  fun H locs ls hH hS hl => va_tlen C.1 C.2.1 (zs_one C hk).2.2.2 hS (v := iI (zLen k : Nat)) (by rw [zs_len7 k hk]; rfl) hd (kk H locs ls hH hS hl)
theorem zs_bald (C : zC g X M d mc ms) {k : Nat} (hk : k < 7) {j : Int} (e : Nat) (hj : j = e) (he : e < zLen k) (hd : decode M.2.1 pc = .ok (.baload, 1)) (kk : zZ g X nc ns σ (pc + 1) L (.int (iI (txN k e)) :: S)) : zZ g X nc ns σ pc L (.int (iI j) :: .ref (1020 + k) :: S) := by
  subst hj
  rw [← iI_nI]
  rw [iI_txN] at kk
  have hl4 := (zLen_r k hk).2
  exact fun H locs ls hH hS hl => va_tb C.1 C.2.1 (zs_one C hk).2.2.2 hS (vp_in_nI (by rw [zs_len7 k hk]; exact he) (by rw [zs_len7 k hk]; omega)) (v := .int ((zTx.getD k []).getD e 0)) (by rw [nI_clamp (show e < 2 ^ 31 by omega)]) hd (kk H locs ls hH hS hl)
/-- a method of a constant String -/
theorem zs_call {M' : zM} {d' mc' ms' n k : Nat} {as : List Value} {post' : Option Value → zSt → Prop} (C : zC g X M d mc ms) (hk : k < 7) (ok : zOk M' n) (hst : Cond.instanceMethod M'.1 ∈ zTb) (hse : Cond.selects M'.1.cls M'.1 M'.1 ∈ zTb) (hlk : Cond.methodLink M.1.cls idx M'.1 ∈ zTb) (hcl : "java/lang/String" = M'.1.cls) (hR : zRuns g M' d' mc' ms' (.ref (1010 + k) :: as) σ post') (hn : as.length = n) (hd' : d' + 1 ≤ d) (hc : nc + mc' ≤ mc) (hs : ns + ms' ≤ ms) (hw : (S.map fun v => v.category).sum ≤ 8)
    (hd : decode M.2.1 pc = .ok (.invokevirtual idx, 3)) (kk : ∀ r σ', post' r σ' → zZ g X (nc + mc') (ns + ms') σ' (pc + 3) L (r.toList ++ S)) : zZ g X nc ns σ pc L (as.reverse ++ .ref (1010 + k) :: S) := by
  intro H locs ls hH hS hl
  obtain ⟨o1, o2, o3, o4⟩ := ok
  have hts := C.2.2.2.2.1
  have cw := callB_of (R := xR X) (own := M.1.cls) (index := idx) (mc := mc') (ms := ms') n hts (zGood M M' o1) rfl rfl rfl (hts _ o2) (hts _ hlk) o3 (zroom C hd' o4)
  have hrun := va_runV (C := M'.1.cls) (b := za g (1010 + k)) (As := as.map (zv g)) (rest := S.map (zv g)) (g := F0 (xm X) pc ls ((as.map (zv g)).reverse ++ .ref (za g (1010 + k)) :: S.map (zv g))) (cells := nc) (slots := ns) (below := xb X) (meth := xh X) (e := xe X) (H := H) (locs := locs) ⟨C.1, C.2.1, C.2.2.1, C.2.2.2.1, hts⟩ hR ⟨cw, hts _ hst, hts _ hse⟩ ⟨zFB, by rw [← hcl]; exact vk_recv (i := k) C.2.2.2.2.2.2.2.2.2.1.2.2.2.2.1 hk hS, fun U hU hW => ⟨rfl, by rw [hU]; exact hH, zF.at C hS hU hW⟩⟩ rfl ((List.length_map _).trans hn) (hl.1.trans C.2.2.1) rfl (by show 2 * 0 + _ ≤ 8; rw [zcat]; omega) hd ⟨Nat.le_trans hc C.2.2.2.2.2.2.2.2.1.1, Nat.le_trans hs C.2.2.2.2.2.2.2.2.1.2⟩
  rw [List.map_append, List.map_reverse]
  exact zcall hrun hS hl kk
end ZSTR
section ZSC
variable {g : zG} {σ : zSt}
theorem c_J0_coder {k : Nat} (hk : k < 7) : zRun g mJ0_coder_7d493 0 [.ref (1010 + k)] σ (some (.int (iI 0))) σ := by
  refine zRuns_intro rfl (Nat.le_of_ble_eq_true rfl) (fun X C hR => ?_)
  show zZ g X 0 0 _ 0 [(0, .ref (1010 + k))] []
  refine zs_compact C flJ0_38 dJ0_coder_7d493_0 ?_
  refine z_if_eq C 13 dJ0_coder_7d493_3 (by decide) (by omega) (fun h => absurd h (by decide)) (fun _ => ?_)
  refine z_aload_n C 0 rfl dJ0_coder_7d493_6 rfl ?_
  refine zs_coder C hk flJ0_15 dJ0_coder_7d493_7 ?_
  refine z_goto C 14 dJ0_coder_7d493_10 (by decide) ?_
  exact zZ_nret C hR (Nat.le_refl _) (Nat.le_refl _) dJ0_coder_7d493_14 rfl (by decide) ⟨rfl, rfl⟩
theorem zLen_sh : ∀ k, k < 7 → iI (zLen k : Nat) >>> (iI 0 &&& 31) = iI (zLen k : Nat) := by decide +kernel
theorem c_J0_length {k : Nat} (hk : k < 7) : zRun g mJ0_length_8abf5 1 [.ref (1010 + k)] σ (some (.int (iI (zLen k : Nat)))) σ := by
  refine zRuns_intro rfl (Nat.le_of_ble_eq_true rfl) (fun X C hR => ?_)
  show zZ g X 0 0 _ 0 [(0, .ref (1010 + k))] []
  refine z_aload_n C 0 rfl dJ0_length_8abf5_0 rfl ?_
  refine zs_value C hk flJ0_9 dJ0_length_8abf5_1 ?_
  refine zs_len C hk dJ0_length_8abf5_4 ?_
  refine z_aload_n C 0 rfl dJ0_length_8abf5_5 rfl ?_
  refine zs_call (as := []) C hk oJ0_coder_7d493 iJ0_coder_7d493 eJ0_coder_7d493 lkJ0_335 rfl (c_J0_coder hk) rfl (by decide) (Nat.le_refl _) (Nat.le_refl _) (Nat.le_of_ble_eq_true rfl) dJ0_length_8abf5_6 (fun r1 σ1 h => ?_)
  obtain ⟨rfl, rfl⟩ := h
  refine z_ishr C _ dJ0_length_8abf5_9 (zLen_sh k hk) ?_
  exact zZ_iret C hR (Nat.le_refl _) (Nat.le_refl _) dJ0_length_8abf5_10 rfl ⟨rfl, rfl⟩
theorem c_J0_isLatin1 {k : Nat} (hk : k < 7) : zRun g mJ0_isLatin1_aae02 0 [.ref (1010 + k)] σ (some (.int (iI 1))) σ := by
  refine zRuns_intro rfl (Nat.le_of_ble_eq_true rfl) (fun X C hR => ?_)
  show zZ g X 0 0 _ 0 [(0, .ref (1010 + k))] []
  refine zs_compact C flJ0_38 dJ0_isLatin1_aae02_0 ?_
  refine z_if_eq C 17 dJ0_isLatin1_aae02_3 (by decide) (by omega) (fun h => absurd h (by decide)) (fun _ => ?_)
  refine z_aload_n C 0 rfl dJ0_isLatin1_aae02_6 rfl ?_
  refine zs_coder C hk flJ0_15 dJ0_isLatin1_aae02_7 ?_
  refine z_if_ne C 17 dJ0_isLatin1_aae02_10 (by decide) (by omega) (fun h => absurd rfl h) (fun _ => ?_)
  refine z_iconst C dJ0_isLatin1_aae02_13 ?_
  refine z_goto C 18 dJ0_isLatin1_aae02_14 (by decide) ?_
  exact zZ_zret C hR (Nat.le_refl _) (Nat.le_refl _) dJ0_isLatin1_aae02_18 rfl (Or.inr rfl) ⟨rfl, rfl⟩
theorem c_J3_check {i n : Int} (hi : 0 ≤ i ∧ i < n) (hn : n ≤ 1000) (o : Option Nat) : zRun g mJ3_checkIndex_8e157 0 [.int (iI i), .int (iI n), va_rf o] σ (some (.int (iI i))) σ := by
  have key : ∀ v : Value, (∃ o, v = va_rf o) → lv_args 0 [.int (iI i), .int (iI n), v] = [(0, .int (iI i)), (1, .int (iI n)), (2, v)] ∧ (lg_sl [.int (iI i), .int (iI n), v]).length ≤ 3 := by
    rintro v ⟨o, rfl⟩
    cases o <;> exact ⟨rfl, Nat.le_of_ble_eq_true rfl⟩
  obtain ⟨k1, k2⟩ := key _ ⟨o, rfl⟩
  refine zRuns_intro rfl k2 (fun X C hR => ?_)
  rw [k1]
  refine z_iload_n C 0 rfl dJ3_checkIndex_8e157_0 rfl ?_
  refine z_if_lt C 9 dJ3_checkIndex_8e157_1 (by decide) (by omega) (fun h => absurd h (by omega)) (fun _ => ?_)
  refine z_iload_n C 0 rfl dJ3_checkIndex_8e157_4 rfl ?_
  refine z_iload_n C 1 rfl dJ3_checkIndex_8e157_5 rfl ?_
  refine z_icmp_lt C 16 dJ3_checkIndex_8e157_6 (by decide) (by omega) (by omega) (fun _ => ?_) (fun h => absurd hi.2 h)
  refine z_iload_n C 0 rfl dJ3_checkIndex_8e157_16 rfl ?_
  exact zZ_iret C hR (Nat.le_refl _) (Nat.le_refl _) dJ3_checkIndex_8e157_17 rfl ⟨rfl, rfl⟩
theorem c_J0_check {i n : Int} (hi : 0 ≤ i ∧ i < n) (hn : n ≤ 1000) : zRun g mJ0_checkIndex_df160 1 [.int (iI i), .int (iI n)] σ none σ := by
  refine zRuns_intro rfl (Nat.le_of_ble_eq_true rfl) (fun X C hR => ?_)
  show zZ g X 0 0 _ 0 [(0, .int (iI i)), (1, .int (iI n))] []
  refine z_iload_n C 0 rfl dJ0_checkIndex_df160_0 rfl ?_
  refine z_iload_n C 1 rfl dJ0_checkIndex_df160_1 rfl ?_
  refine zs_fmt C flJ0_1053 dJ0_checkIndex_df160_2 (fun o => ?_)
  refine zZ_callS (as := [.int (iI i), .int (iI n), va_rf o]) C oJ3_checkIndex_8e157 sJ3_checkIndex_8e157 lkJ0_1059 (c_J3_check hi hn o) rfl (by decide) (Nat.le_refl _) (Nat.le_refl _) (Nat.le_of_ble_eq_true rfl) dJ0_checkIndex_df160_5 (fun r1 σ1 h => ?_)
  obtain ⟨rfl, rfl⟩ := h
  refine z_pop C dJ0_checkIndex_df160_8 rfl ?_
  exact zZ_vret C hR (Nat.le_refl _) (Nat.le_refl _) dJ0_checkIndex_df160_9 rfl ⟨rfl, rfl⟩
theorem tx_and : ∀ k, k < 7 → ∀ e, e < 4 → iI (txN k e) &&& iI 255 = iI (txN k e) ∧ ((iI (txN k e)).toUInt32 % 65536).toInt32 = iI (txN k e) ∧ narrow .char (.int (iI (txN k e))) = .int (iI (txN k e)) := by decide +kernel
theorem c_J1_charAt {k e : Nat} {j : Int} (hk : k < 7) (hj : j = e) (he : e < zLen k) : zRun g mJ1_charAt_3b067 2 [.ref (1020 + k), .int (iI j)] σ (some (.int (iI (txN k e)))) σ := by
  subst hj
  have h4 := zLen_r k hk
  have ht := tx_and k hk e (by omega)
  refine zRuns_intro rfl (Nat.le_of_ble_eq_true rfl) (fun X C hR => ?_)
  show zZ g X 0 0 _ 0 [(0, .ref (1020 + k)), (1, .int (iI e))] []
  refine z_iload_n C 1 rfl dJ1_charAt_3b067_0 rfl ?_
  refine z_aload_n C 0 rfl dJ1_charAt_3b067_1 rfl ?_
  refine zs_len C hk dJ1_charAt_3b067_2 ?_
  refine zZ_callS (as := [.int (iI e), .int (iI (zLen k : Nat))]) C oJ0_checkIndex_df160 sJ0_checkIndex_df160 lkJ1_9 (c_J0_check (by omega) (by omega)) rfl (by decide) (Nat.le_refl _) (Nat.le_refl _) (Nat.le_of_ble_eq_true rfl) dJ1_charAt_3b067_3 (fun r1 σ1 h => ?_)
  obtain ⟨rfl, rfl⟩ := h
  refine z_aload_n C 0 rfl dJ1_charAt_3b067_6 rfl ?_
  refine z_iload_n C 1 rfl dJ1_charAt_3b067_7 rfl ?_
  refine zs_bald C hk e rfl he dJ1_charAt_3b067_8 ?_
  refine z_sipush C dJ1_charAt_3b067_9 (by decide) ?_
  refine z_iand C _ dJ1_charAt_3b067_12 ht.1 ?_
  refine z_i2c C _ dJ1_charAt_3b067_13 ht.2.1 ?_
  exact zZ_nret C hR (Nat.le_refl _) (Nat.le_refl _) dJ1_charAt_3b067_14 rfl ht.2.2 ⟨rfl, rfl⟩
theorem c_J0_charAt {k e : Nat} {j : Int} (hk : k < 7) (hj : j = e) (he : e < zLen k) : zRun g mJ0_charAt_5068e 3 [.ref (1010 + k), .int (iI j)] σ (some (.int (iI (txN k e)))) σ := by
  subst hj
  have h4 := zLen_r k hk
  have ht := tx_and k hk e (by omega)
  refine zRuns_intro rfl (Nat.le_of_ble_eq_true rfl) (fun X C hR => ?_)
  show zZ g X 0 0 _ 0 [(0, .ref (1010 + k)), (1, .int (iI e))] []
  refine z_aload_n C 0 rfl dJ0_charAt_5068e_0 rfl ?_
  refine zs_call (as := []) C hk oJ0_isLatin1_aae02 iJ0_isLatin1_aae02 eJ0_isLatin1_aae02 lkJ0_492 rfl (c_J0_isLatin1 hk) rfl (by decide) (Nat.le_refl _) (Nat.le_refl _) (Nat.le_of_ble_eq_true rfl) dJ0_charAt_5068e_1 (fun r1 σ1 h => ?_)
  obtain ⟨rfl, rfl⟩ := h
  refine z_if_eq C 16 dJ0_charAt_5068e_4 (by decide) (by omega) (fun h => absurd h (by decide)) (fun _ => ?_)
  refine z_aload_n C 0 rfl dJ0_charAt_5068e_7 rfl ?_
  refine zs_value C hk flJ0_9 dJ0_charAt_5068e_8 ?_
  refine z_iload_n C 1 rfl dJ0_charAt_5068e_11 rfl ?_
  refine zZ_callS (as := [.ref (1020 + k), .int (iI e)]) C oJ1_charAt_3b067 sJ1_charAt_3b067 lkJ0_495 (c_J1_charAt hk rfl he) rfl (by decide) (Nat.le_refl _) (Nat.le_refl _) (Nat.le_of_ble_eq_true rfl) dJ0_charAt_5068e_12 (fun r1 σ1 h => ?_)
  obtain ⟨rfl, rfl⟩ := h
  exact zZ_nret C hR (Nat.le_refl _) (Nat.le_refl _) dJ0_charAt_5068e_15 rfl ht.2.2 ⟨rfl, rfl⟩
end ZSC
