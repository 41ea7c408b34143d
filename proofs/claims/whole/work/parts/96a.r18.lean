set_option maxHeartbeats 4000000 in
set_option maxRecDepth 100000 in
theorem c_X6_statement {g : zG} {I : Nat → Nat → Int} {J : Nat → Nat → Int64} {q : Nat × Nat} {n p : Nat} {f : Nat → Int} (hgr : gR I) (hrs : gRS (spR I)) (hT : gTR I) (hk0 : pkR I I f n p) (hp : p ≤ n) : zRuns g mX6_statement 6 0 0 [.ref 58] (zst I J q) (stPost I J q f n (stF f n p (hrV I))) := by
  obtain ⟨b1, b2, b3, b4, b5, b6, b7⟩ := id hgr
  obtain ⟨k1, k2, k3⟩ := id hrs
  have k1 : gC7 (I 58 3) := k1
  have k2 : 0 ≤ I 58 4 ∧ I 58 4 ≤ 4 := k2
  have k3 : ∀ e, e < 5 → gC7 (I 62 e) := k3
  have k1' := k1.1
  have b2' := b2.1
  obtain ⟨t1, t2⟩ := id hT
  have e63 := hk0.2.2.1
  have hn := hk0.2.2.2
  obtain ⟨h14, h15, h16⟩ := id hk0.2.1
  have hf : ∀ k, k < n → 0 ≤ f k := fun k hk => by rw [← e63]; exact (t2 k (by omega)).1
  have htr := tok_r (p := p) hf hp
  have htr2 := tok_r (p := tokE f n p) hf htr.2.2
  have hrr := rtk_r (T := tokT f n p) (len := tokE f n p - skN f n p)
  have hm1 := nmN_r (p := tokE f n p) hf
  have hm2 := nmN_r (p := tokE f n (tokE f n p)) hf
  have hm3 := nmN_r (p := tokE f n (tokE f n (tokE f n p))) hf
  have hyr0 := num_r (p := tokE f n (tokE f n p)) (lo := 0) (hi := 9) hf
  have hwr0 := pl_r (p := tokE f n (tokE f n (tokE f n p))) (m := I 58 0) hf
  refine zRuns_intro rfl (Nat.le_of_ble_eq_true rfl) (fun X C hR => ?_)
  show zZ g X 0 0 _ 0 [(0, .ref 58)] []
  refine z_aload_n C 0 rfl dX6_statement_0 rfl ?_
  refine z_ldcS C (q := 0) "side" (by decide) dX6_statement_1 ?_
  refine y_callV1 C oX6_isWord iX6_isWord eX6_isWord lkX6_188 (c_X6_isWord (by first | assumption | omega) hT (by omega) (by omega)) rfl (by decide) rfl rfl (by decide) (Nat.le_refl _) (Nat.le_refl _) (Nat.le_of_ble_eq_true rfl) dX6_statement_3 ?_
  refine z_top C (bI (wdN f n p 0)) (by rw [wd_eq hk0]) ?_
  refine y_if_eqB C 34 dX6_statement_6 (by decide) (fun h6 => ?_) (fun h6 => ?_)
  · refine z_aload_n C 0 rfl dX6_statement_34 rfl ?_
    refine z_ldcS C (q := 5) "ewe" (by decide) dX6_statement_35 ?_
    refine y_callV1 C oX6_isWord iX6_isWord eX6_isWord lkX6_188 (c_X6_isWord (by first | assumption | omega) hT (by omega) (by omega)) rfl (by decide) rfl rfl (by decide) (Nat.le_refl _) (Nat.le_refl _) (Nat.le_of_ble_eq_true rfl) dX6_statement_37 ?_
    refine z_top C (bI (wdN f n p 5)) (by rw [wd_eq hk0]) ?_
    refine y_if_eqB C 117 dX6_statement_40 (by decide) (fun h40 => ?_) (fun h40 => ?_)
    · refine z_aload_n C 0 rfl dX6_statement_117 rfl ?_
      refine z_ldcS C (q := 6) "wind" (by decide) dX6_statement_118 ?_
      refine y_callV1 C oX6_isWord iX6_isWord eX6_isWord lkX6_188 (c_X6_isWord (by first | assumption | omega) hT (by omega) (by omega)) rfl (by decide) rfl rfl (by decide) (Nat.le_refl _) (Nat.le_refl _) (Nat.le_of_ble_eq_true rfl) dX6_statement_120 ?_
      refine z_top C (bI (wdN f n p 6)) (by rw [wd_eq hk0]) ?_
      refine y_if_eqB C 148 dX6_statement_123 (by decide) (fun h123 => ?_) (fun h123 => ?_)
      · refine z_aload_n C 0 rfl dX6_statement_148 rfl ?_
        refine z_ldcS C (q := 1) "wall" (by decide) dX6_statement_149 ?_
        refine y_callV1 C oX6_isWord iX6_isWord eX6_isWord lkX6_188 (c_X6_isWord (by first | assumption | omega) hT (by omega) (by omega)) rfl (by decide) rfl rfl (by decide) (Nat.le_refl _) (Nat.le_refl _) (Nat.le_of_ble_eq_true rfl) dX6_statement_151 ?_
        refine z_top C (bI (wdN f n p 1)) (by rw [wd_eq hk0]) ?_
        refine y_if_eqB C 161 dX6_statement_154 (by decide) (fun h154 => ?_) (fun h154 => ?_)
        · refine z_aload_n C 0 rfl dX6_statement_161 rfl ?_
          refine z_ldcS C (q := 2) "gap" (by decide) dX6_statement_162 ?_
          refine y_callV1 C oX6_isWord iX6_isWord eX6_isWord lkX6_188 (c_X6_isWord (by first | assumption | omega) hT (by omega) (by omega)) rfl (by decide) rfl rfl (by decide) (Nat.le_refl _) (Nat.le_refl _) (Nat.le_of_ble_eq_true rfl) dX6_statement_164 ?_
          refine z_top C (bI (wdN f n p 2)) (by rw [wd_eq hk0]) ?_
          refine y_if_eqB C 174 dX6_statement_167 (by decide) (fun h167 => ?_) (fun h167 => ?_)
          · refine z_aload_n C 0 rfl dX6_statement_174 rfl ?_
            refine z_ldcS C (q := 3) "pen" (by decide) dX6_statement_175 ?_
            refine y_callV1 C oX6_isWord iX6_isWord eX6_isWord lkX6_188 (c_X6_isWord (by first | assumption | omega) hT (by omega) (by omega)) rfl (by decide) rfl rfl (by decide) (Nat.le_refl _) (Nat.le_refl _) (Nat.le_of_ble_eq_true rfl) dX6_statement_177 ?_
            refine z_top C (bI (wdN f n p 3)) (by rw [wd_eq hk0]) ?_
            refine y_if_eqB C 187 dX6_statement_180 (by decide) (fun h180 => ?_) (fun h180 => ?_)
            · refine z_aload_n C 0 rfl dX6_statement_187 rfl ?_
              refine z_ldcS C (q := 4) "dog" (by decide) dX6_statement_188 ?_
              refine y_callV1 C oX6_isWord iX6_isWord eX6_isWord lkX6_188 (c_X6_isWord (by first | assumption | omega) hT (by omega) (by omega)) rfl (by decide) rfl rfl (by decide) (Nat.le_refl _) (Nat.le_refl _) (Nat.le_of_ble_eq_true rfl) dX6_statement_190 ?_
              refine z_top C (bI (wdN f n p 4)) (by rw [wd_eq hk0]) ?_
              refine y_if_eqB C 200 dX6_statement_193 (by decide) (fun h193 => ?_) (fun h193 => ?_)
              · refine z_iconst C dX6_statement_200 ?_
                refine z_istore_n C [(2, .int (iI ((-1)))), (0, .ref 58)] dX6_statement_201 rfl (by decide) rfl ?_
                refine z_iload_n C 0 rfl dX6_statement_202 rfl ?_
                refine z_iconst C dX6_statement_203 ?_
                refine z_icmp_ne C 209 dX6_statement_204 (by decide) (by omega) (by omega) (fun h204 => ?_) (fun h204 => ?_)
                · omega
                · refine z_iconst C dX6_statement_207 ?_
                  refine zZ_zret C hR (Nat.le_refl _) (Nat.le_refl _) dX6_statement_208 rfl (Or.inl rfl) ?_
                  have hres : stF f n p (hrV I) = (false, p, hrV I) := by exact stF_n (fun k hk => by rcases (show k = 0 ∨ k = 1 ∨ k = 2 ∨ k = 3 ∨ k = 4 ∨ k = 5 ∨ k = 6 by omega) with rfl | rfl | rfl | rfl | rfl | rfl | rfl <;> assumption)
                  rw [hres]
                  exact ⟨I, rfl, rfl, pk_h hk0, hk0.2.1, pst_0 hk0 hgr⟩
              · refine z_iconst C dX6_statement_196 ?_
                refine z_goto C 201 dX6_statement_197 (by decide) ?_
                refine z_istore_n C [(2, .int (iI 3)), (0, .ref 58)] dX6_statement_201 rfl (by decide) rfl ?_
                refine z_iload_n C 0 rfl dX6_statement_202 rfl ?_
                refine z_iconst C dX6_statement_203 ?_
                refine z_icmp_ne C 209 dX6_statement_204 (by decide) (by omega) (by omega) (fun h204 => ?_) (fun h204 => ?_)
                · refine z_aload_n C 1 rfl dX6_statement_209 rfl ?_
                  refine y_callV0 C oX6_place iX6_place eX6_place lkX6_194 (c_X6_place hgr (pk_t hk0 hT) (pk_p hk0 hf hp)) rfl (by decide) rfl rfl (by decide) (Nat.le_refl _) (Nat.le_refl _) (Nat.le_of_ble_eq_true rfl) dX6_statement_210 ?_
                  refine z_top C (plR f n (tokE f n p) (I 58 0)) (by rw [(pk_e hk0).1, (pk_e hk0).2.1, (pk_e hk0).2.2]) ?_
                  obtain ⟨I1, hI1⟩ : ∃ A, A = nxR I (I 63) (I 58 12).toNat (I 58 15).toNat := ⟨_, rfl⟩
                  rw [← hI1]
                  have hk1 := nx_pk hk0
                  rw [← hI1] at hk1
                  refine z_topI C (fun x ex => ?_)
                  have hxr := pl_r (f := f) (n := n) (p := (tokE f n p)) (m := I 58 0) hf
                  rw [← ex] at hxr
                  refine z_istore_n C [(1, .int (iI x)), (2, .int (iI 3)), (0, .ref 58)] dX6_statement_213 rfl (by decide) rfl ?_
                  refine z_iload_n C 0 rfl dX6_statement_214 rfl ?_
                  refine z_iconst C dX6_statement_215 ?_
                  refine z_icmp_ne C 221 dX6_statement_216 (by decide) (by omega) (by omega) (fun h216 => ?_) (fun h216 => ?_)
                  · have hx5 := pl_y (fun z => h216 (ex.trans z))
                    have hxn := ex.trans hx5.2
                    have hcx : isCellN (I 58 0) x = true := by rw [hxn]; exact hx5.1
                    have hc7 := gC7_of b1.2 hcx
                    have hcr := hc7.1
                    have hop : ((openN (I 58 0) (maskW (I 59)) x && (!decide (x = I 58 3) && (!eweAtN (I 62) x (I 58 5).toNat && !eweAtN (I 62) (I 58 2) (I 58 5).toNat)))) = (!wallL (maskW (I 59)) x && (!decide (x = I 58 3) && (!eweAtN (I 62) x (I 58 5).toNat && !eweAtN (I 62) (I 58 2) (I 58 5).toNat))) := by unfold openN; rw [hcx, Bool.true_and]
                    have hdo2 : dogsN (I 58 0) (maskW (I 59)) (I 58 2) x = (!wallL (maskW (I 59)) x && !decide (x = I 58 2)) := by unfold dogsN openN; rw [hcx, Bool.true_and, Bool.and_comm]
                    refine z_iload_n C 1 rfl dX6_statement_221 rfl ?_
                    refine z_if_ne C 236 dX6_statement_222 (by decide) (by omega) (fun h222 => ?_) (fun h222 => ?_)
                    · refine z_iload_n C 1 rfl dX6_statement_236 rfl ?_
                      refine z_iconst C dX6_statement_237 ?_
                      refine z_icmp_ne C 252 dX6_statement_238 (by decide) (by omega) (by omega) (fun h238 => ?_) (fun h238 => ?_)
                      · refine z_iload_n C 1 rfl dX6_statement_252 rfl ?_
                        refine z_iconst C dX6_statement_253 ?_
                        refine z_icmp_ne C 267 dX6_statement_254 (by decide) (by omega) (by omega) (fun h254 => ?_) (fun h254 => ?_)
                        · omega
                        · refine z_aload_n C 2 rfl dX6_statement_257 rfl ?_
                          refine z_iload_n C 0 rfl dX6_statement_258 rfl ?_
                          refine y_callV1 C oX6_mayDog iX6_mayDog eX6_mayDog lkX6_142 (c_X6_mayDog (pk_g hk1 hgr) (by rw [pk_s hk1]; exact hrs) hc7) rfl (by decide) rfl rfl (by decide) (Nat.le_refl _) (Nat.le_refl _) (Nat.le_of_ble_eq_true rfl) dX6_statement_259 ?_
                          refine z_top C (bI (!wallL (maskW (I 59)) x && !decide (x = I 58 2))) (by rw [hk1.1.1 59 (by decide), hk1.1.2 2 (by decide)]) ?_
                          refine y_if_neB C 267 dX6_statement_262 (by decide) (fun h262 => ?_) (fun h262 => ?_)
                          · refine z_iload_n C 1 rfl dX6_statement_267 rfl ?_
                            refine z_iconst C dX6_statement_268 ?_
                            refine z_icmp_ge C 290 dX6_statement_269 (by decide) (by omega) (by omega) (fun h269 => ?_) (fun h269 => ?_)
                            · refine z_iload_n C 1 rfl dX6_statement_290 rfl ?_
                              refine z_iconst C dX6_statement_291 ?_
                              refine z_icmp_ne C 303 dX6_statement_292 (by decide) (by omega) (by omega) (fun h292 => ?_) (fun h292 => ?_)
                              · refine z_aload_n C 2 rfl dX6_statement_303 rfl ?_
                                refine z_iload_n C 0 rfl dX6_statement_304 rfl ?_
                                refine y_putI C zCl6 3 flX6_61 rfl rfl rfl rfl dX6_statement_305 ?_
                                refine z_iconst C dX6_statement_308 ?_
                                refine zZ_zret C hR (Nat.le_refl _) (Nat.le_refl _) dX6_statement_309 rfl (Or.inr rfl) ?_
                                have hres : stF f n p (hrV I) = (true, (tokE f n p), dogR (hrV I) x) := by rw [stF_4 h193]; unfold stDog; rw [← hxn]; exact if_pos (by show dogsN (I 58 0) (maskW (I 59)) (I 58 2) x = true; rw [hdo2]; exact h262)
                                rw [hres]
                                exact ⟨zu I1 58 3 x, rfl, rfl, by rw [hr_dog, pk_h hk1], (pst_58 hk1 hgr (by decide)).1, (pst_58 hk1 hgr (by decide)).2⟩
                              · omega
                            · omega
                          · refine z_iconst C dX6_statement_265 ?_
                            refine zZ_zret C hR (Nat.le_refl _) (Nat.le_refl _) dX6_statement_266 rfl (Or.inl rfl) ?_
                            have hres : stF f n p (hrV I) = (false, (tokE f n p), hrV I) := by rw [stF_4 h193]; unfold stDog; rw [← hxn]; exact if_neg (fun z => by have z2 : (dogsN (I 58 0) (maskW (I 59)) (I 58 2) x) = true := z; rw [hdo2] at z2; exact absurd (z2.symm.trans h262) (by decide))
                            rw [hres]
                            exact ⟨I1, rfl, rfl, pk_h hk1, hk1.2.1, pst_0 hk1 hgr⟩
                      · omega
                    · omega
                  · have hnc : isCellN (I 58 0) (nmN f n (tokE f n p)) = false := pl_n (ex.symm.trans h216)
                    refine z_iconst C dX6_statement_219 ?_
                    refine zZ_zret C hR (Nat.le_refl _) (Nat.le_refl _) dX6_statement_220 rfl (Or.inl rfl) ?_
                    have hres : stF f n p (hrV I) = (false, (tokE f n p), hrV I) := by rw [stF_4 h193]; unfold stDog; exact if_neg (fun z => by have z2 : dogsN (I 58 0) (maskW (I 59)) (I 58 2) (nmN f n (tokE f n p)) = true := z; unfold dogsN openN at z2; rw [hnc, Bool.false_and, Bool.and_false] at z2; cases z2)
                    rw [hres]
                    exact ⟨I1, rfl, rfl, pk_h hk1, hk1.2.1, pst_0 hk1 hgr⟩
                · omega
            · refine z_iconst C dX6_statement_183 ?_
              refine z_goto C 201 dX6_statement_184 (by decide) ?_
              refine z_istore_n C [(2, .int (iI 2)), (0, .ref 58)] dX6_statement_201 rfl (by decide) rfl ?_
              refine z_iload_n C 0 rfl dX6_statement_202 rfl ?_
              refine z_iconst C dX6_statement_203 ?_
              refine z_icmp_ne C 209 dX6_statement_204 (by decide) (by omega) (by omega) (fun h204 => ?_) (fun h204 => ?_)
              · refine z_aload_n C 1 rfl dX6_statement_209 rfl ?_
                refine y_callV0 C oX6_place iX6_place eX6_place lkX6_194 (c_X6_place hgr (pk_t hk0 hT) (pk_p hk0 hf hp)) rfl (by decide) rfl rfl (by decide) (Nat.le_refl _) (Nat.le_refl _) (Nat.le_of_ble_eq_true rfl) dX6_statement_210 ?_
                refine z_top C (plR f n (tokE f n p) (I 58 0)) (by rw [(pk_e hk0).1, (pk_e hk0).2.1, (pk_e hk0).2.2]) ?_
                obtain ⟨I1, hI1⟩ : ∃ A, A = nxR I (I 63) (I 58 12).toNat (I 58 15).toNat := ⟨_, rfl⟩
                rw [← hI1]
                have hk1 := nx_pk hk0
                rw [← hI1] at hk1
                refine z_topI C (fun x ex => ?_)
                have hxr := pl_r (f := f) (n := n) (p := (tokE f n p)) (m := I 58 0) hf
                rw [← ex] at hxr
                refine z_istore_n C [(1, .int (iI x)), (2, .int (iI 2)), (0, .ref 58)] dX6_statement_213 rfl (by decide) rfl ?_
                refine z_iload_n C 0 rfl dX6_statement_214 rfl ?_
                refine z_iconst C dX6_statement_215 ?_
                refine z_icmp_ne C 221 dX6_statement_216 (by decide) (by omega) (by omega) (fun h216 => ?_) (fun h216 => ?_)
                · have hx5 := pl_y (fun z => h216 (ex.trans z))
                  have hxn := ex.trans hx5.2
                  have hcx : isCellN (I 58 0) x = true := by rw [hxn]; exact hx5.1
                  have hc7 := gC7_of b1.2 hcx
                  have hcr := hc7.1
                  have hop : ((openN (I 58 0) (maskW (I 59)) x && (!decide (x = I 58 3) && (!eweAtN (I 62) x (I 58 5).toNat && !eweAtN (I 62) (I 58 2) (I 58 5).toNat)))) = (!wallL (maskW (I 59)) x && (!decide (x = I 58 3) && (!eweAtN (I 62) x (I 58 5).toNat && !eweAtN (I 62) (I 58 2) (I 58 5).toNat))) := by unfold openN; rw [hcx, Bool.true_and]
                  have hdo2 : dogsN (I 58 0) (maskW (I 59)) (I 58 2) x = (!wallL (maskW (I 59)) x && !decide (x = I 58 2)) := by unfold dogsN openN; rw [hcx, Bool.true_and, Bool.and_comm]
                  refine z_iload_n C 1 rfl dX6_statement_221 rfl ?_
                  refine z_if_ne C 236 dX6_statement_222 (by decide) (by omega) (fun h222 => ?_) (fun h222 => ?_)
                  · refine z_iload_n C 1 rfl dX6_statement_236 rfl ?_
                    refine z_iconst C dX6_statement_237 ?_
                    refine z_icmp_ne C 252 dX6_statement_238 (by decide) (by omega) (by omega) (fun h238 => ?_) (fun h238 => ?_)
                    · omega
                    · refine z_aload_n C 2 rfl dX6_statement_241 rfl ?_
                      refine z_iload_n C 0 rfl dX6_statement_242 rfl ?_
                      refine y_callV1 C oX6_mayPen iX6_mayPen eX6_mayPen lkX6_139 (c_X6_mayPen (pk_g hk1 hgr) (by rw [pk_s hk1]; exact hrs) hc7) rfl (by decide) rfl rfl (by decide) (Nat.le_refl _) (Nat.le_refl _) (Nat.le_of_ble_eq_true rfl) dX6_statement_243 ?_
                      refine z_top C (bI (!wallL (maskW (I 59)) x && (!decide (x = I 58 3) && (!eweAtN (I 62) x (I 58 5).toNat && !eweAtN (I 62) (I 58 2) (I 58 5).toNat)))) (by rw [hk1.1.1 59 (by decide), hk1.1.2 2 (by decide), hk1.1.2 3 (by decide), hk1.1.1 62 (by decide), hk1.1.2 5 (by decide)]) ?_
                      refine y_if_neB C 267 dX6_statement_246 (by decide) (fun h246 => ?_) (fun h246 => ?_)
                      · refine z_iload_n C 1 rfl dX6_statement_267 rfl ?_
                        refine z_iconst C dX6_statement_268 ?_
                        refine z_icmp_ge C 290 dX6_statement_269 (by decide) (by omega) (by omega) (fun h269 => ?_) (fun h269 => ?_)
                        · refine z_iload_n C 1 rfl dX6_statement_290 rfl ?_
                          refine z_iconst C dX6_statement_291 ?_
                          refine z_icmp_ne C 303 dX6_statement_292 (by decide) (by omega) (by omega) (fun h292 => ?_) (fun h292 => ?_)
                          · omega
                          · refine z_aload_n C 2 rfl dX6_statement_295 rfl ?_
                            refine z_iload_n C 0 rfl dX6_statement_296 rfl ?_
                            refine y_putI C zCl6 2 flX6_119 rfl rfl rfl rfl dX6_statement_297 ?_
                            refine z_goto C 308 dX6_statement_300 (by decide) ?_
                            refine z_iconst C dX6_statement_308 ?_
                            refine zZ_zret C hR (Nat.le_refl _) (Nat.le_refl _) dX6_statement_309 rfl (Or.inr rfl) ?_
                            have hres : stF f n p (hrV I) = (true, (tokE f n p), setR (hrV I) 1 x) := by rw [stF_3 h180]; unfold stPen; rw [← hxn]; exact if_pos (by show ((openN (I 58 0) (maskW (I 59)) x && (!decide (x = I 58 3) && (!eweAtN (I 62) x (I 58 5).toNat && !eweAtN (I 62) (I 58 2) (I 58 5).toNat)))) = true; rw [hop]; exact h246)
                            rw [hres]
                            exact ⟨zu I1 58 2 x, rfl, rfl, by rw [hr_58 (.inr (.inl ⟨rfl, rfl⟩)), pk_h hk1], (pst_58 hk1 hgr (by decide)).1, (pst_58 hk1 hgr (by decide)).2⟩
                        · omega
                      · refine z_goto C 265 dX6_statement_249 (by decide) ?_
                        refine z_iconst C dX6_statement_265 ?_
                        refine zZ_zret C hR (Nat.le_refl _) (Nat.le_refl _) dX6_statement_266 rfl (Or.inl rfl) ?_
                        have hres : stF f n p (hrV I) = (false, (tokE f n p), hrV I) := by rw [stF_3 h180]; unfold stPen; rw [← hxn]; exact if_neg (fun z => by have z2 : ((openN (I 58 0) (maskW (I 59)) x && (!decide (x = I 58 3) && (!eweAtN (I 62) x (I 58 5).toNat && !eweAtN (I 62) (I 58 2) (I 58 5).toNat)))) = true := z; rw [hop] at z2; exact absurd (z2.symm.trans h246) (by decide))
                        rw [hres]
                        exact ⟨I1, rfl, rfl, pk_h hk1, hk1.2.1, pst_0 hk1 hgr⟩
                  · omega
                · have hnc : isCellN (I 58 0) (nmN f n (tokE f n p)) = false := pl_n (ex.symm.trans h216)
                  refine z_iconst C dX6_statement_219 ?_
                  refine zZ_zret C hR (Nat.le_refl _) (Nat.le_refl _) dX6_statement_220 rfl (Or.inl rfl) ?_
                  have hres : stF f n p (hrV I) = (false, (tokE f n p), hrV I) := by rw [stF_3 h180]; unfold stPen; exact if_neg (fun z => by have z2 : (openN (I 58 0) (maskW (I 59)) (nmN f n (tokE f n p)) && (!decide ((nmN f n (tokE f n p)) = I 58 3) && (!eweAtN (I 62) (nmN f n (tokE f n p)) (I 58 5).toNat && !eweAtN (I 62) (I 58 2) (I 58 5).toNat))) = true := z; unfold openN at z2; rw [hnc] at z2; cases z2)
                  rw [hres]
                  exact ⟨I1, rfl, rfl, pk_h hk1, hk1.2.1, pst_0 hk1 hgr⟩
              · omega
          · refine z_iconst C dX6_statement_170 ?_
            refine z_goto C 201 dX6_statement_171 (by decide) ?_
            refine z_istore_n C [(2, .int (iI 1)), (0, .ref 58)] dX6_statement_201 rfl (by decide) rfl ?_
            refine z_iload_n C 0 rfl dX6_statement_202 rfl ?_
            refine z_iconst C dX6_statement_203 ?_
            refine z_icmp_ne C 209 dX6_statement_204 (by decide) (by omega) (by omega) (fun h204 => ?_) (fun h204 => ?_)
            · refine z_aload_n C 1 rfl dX6_statement_209 rfl ?_
              refine y_callV0 C oX6_place iX6_place eX6_place lkX6_194 (c_X6_place hgr (pk_t hk0 hT) (pk_p hk0 hf hp)) rfl (by decide) rfl rfl (by decide) (Nat.le_refl _) (Nat.le_refl _) (Nat.le_of_ble_eq_true rfl) dX6_statement_210 ?_
              refine z_top C (plR f n (tokE f n p) (I 58 0)) (by rw [(pk_e hk0).1, (pk_e hk0).2.1, (pk_e hk0).2.2]) ?_
              obtain ⟨I1, hI1⟩ : ∃ A, A = nxR I (I 63) (I 58 12).toNat (I 58 15).toNat := ⟨_, rfl⟩
              rw [← hI1]
              have hk1 := nx_pk hk0
              rw [← hI1] at hk1
              refine z_topI C (fun x ex => ?_)
              have hxr := pl_r (f := f) (n := n) (p := (tokE f n p)) (m := I 58 0) hf
              rw [← ex] at hxr
              refine z_istore_n C [(1, .int (iI x)), (2, .int (iI 1)), (0, .ref 58)] dX6_statement_213 rfl (by decide) rfl ?_
              refine z_iload_n C 0 rfl dX6_statement_214 rfl ?_
              refine z_iconst C dX6_statement_215 ?_
              refine z_icmp_ne C 221 dX6_statement_216 (by decide) (by omega) (by omega) (fun h216 => ?_) (fun h216 => ?_)
              · have hx5 := pl_y (fun z => h216 (ex.trans z))
                have hxn := ex.trans hx5.2
                have hcx : isCellN (I 58 0) x = true := by rw [hxn]; exact hx5.1
                have hc7 := gC7_of b1.2 hcx
                have hcr := hc7.1
                have hop : ((openN (I 58 0) (maskW (I 59)) x && (!decide (x = I 58 3) && (!eweAtN (I 62) x (I 58 5).toNat && !eweAtN (I 62) (I 58 2) (I 58 5).toNat)))) = (!wallL (maskW (I 59)) x && (!decide (x = I 58 3) && (!eweAtN (I 62) x (I 58 5).toNat && !eweAtN (I 62) (I 58 2) (I 58 5).toNat))) := by unfold openN; rw [hcx, Bool.true_and]
                have hdo2 : dogsN (I 58 0) (maskW (I 59)) (I 58 2) x = (!wallL (maskW (I 59)) x && !decide (x = I 58 2)) := by unfold dogsN openN; rw [hcx, Bool.true_and, Bool.and_comm]
                refine z_iload_n C 1 rfl dX6_statement_221 rfl ?_
                refine z_if_ne C 236 dX6_statement_222 (by decide) (by omega) (fun h222 => ?_) (fun h222 => ?_)
                · refine z_iload_n C 1 rfl dX6_statement_236 rfl ?_
                  refine z_iconst C dX6_statement_237 ?_
                  refine z_icmp_ne C 252 dX6_statement_238 (by decide) (by omega) (by omega) (fun h238 => ?_) (fun h238 => ?_)
                  · refine z_iload_n C 1 rfl dX6_statement_252 rfl ?_
                    refine z_iconst C dX6_statement_253 ?_
                    refine z_icmp_ne C 267 dX6_statement_254 (by decide) (by omega) (by omega) (fun h254 => ?_) (fun h254 => ?_)
                    · refine z_iload_n C 1 rfl dX6_statement_267 rfl ?_
                      refine z_iconst C dX6_statement_268 ?_
                      refine z_icmp_ge C 290 dX6_statement_269 (by decide) (by omega) (by omega) (fun h269 => ?_) (fun h269 => ?_)
                      · omega
                      · refine z_aload_n C 2 rfl dX6_statement_272 rfl ?_
                        refine y_getR C zCl6 1 flX6_7 rfl rfl rfl dX6_statement_273 ?_
                        refine z_iload_n C 0 rfl dX6_statement_276 rfl ?_
                        refine z_iload_n C 1 rfl dX6_statement_277 rfl ?_
                        refine z_if_ne C 285 dX6_statement_278 (by decide) (by omega) (fun h278 => ?_) (fun h278 => ?_)
                        · refine z_iconst C dX6_statement_285 ?_
                          refine y_zast C x.toNat (by omega) rfl (by omega) (by decide) (by first | exact .inl rfl | exact .inr rfl) dX6_statement_286 ?_
                          refine z_goto C 308 dX6_statement_287 (by decide) ?_
                          refine z_iconst C dX6_statement_308 ?_
                          refine zZ_zret C hR (Nat.le_refl _) (Nat.le_refl _) dX6_statement_309 rfl (Or.inr rfl) ?_
                          have hres : stF f n p (hrV I) = (true, (tokE f n p), walR (hrV I) ((hrV I).2.1 &&& (bitL x ^^^ (-1)))) := by rw [stF_2 h167]; unfold stGap; rw [← hxn]; exact if_pos (by show isCellN (I 58 0) x = true; exact hcx)
                          rw [hres]
                          exact ⟨zu I1 59 x.toNat 0, rfl, rfl, by rw [hr_gap hc7, pk_h hk1], (pst_59 hk1 hgr (.inl rfl) (by have := hc7.2; omega)).1, (pst_59 hk1 hgr (.inl rfl) (by have := hc7.2; omega)).2⟩
                        · omega
                    · omega
                  · omega
                · omega
              · have hnc : isCellN (I 58 0) (nmN f n (tokE f n p)) = false := pl_n (ex.symm.trans h216)
                refine z_iconst C dX6_statement_219 ?_
                refine zZ_zret C hR (Nat.le_refl _) (Nat.le_refl _) dX6_statement_220 rfl (Or.inl rfl) ?_
                have hres : stF f n p (hrV I) = (false, (tokE f n p), hrV I) := by rw [stF_2 h167]; unfold stGap; exact if_neg (fun z => by have z2 : isCellN (I 58 0) (nmN f n (tokE f n p)) = true := z; rw [hnc] at z2; cases z2)
                rw [hres]
                exact ⟨I1, rfl, rfl, pk_h hk1, hk1.2.1, pst_0 hk1 hgr⟩
            · omega
        · refine z_iconst C dX6_statement_157 ?_
          refine z_goto C 201 dX6_statement_158 (by decide) ?_
          refine z_istore_n C [(2, .int (iI 0)), (0, .ref 58)] dX6_statement_201 rfl (by decide) rfl ?_
          refine z_iload_n C 0 rfl dX6_statement_202 rfl ?_
          refine z_iconst C dX6_statement_203 ?_
          refine z_icmp_ne C 209 dX6_statement_204 (by decide) (by omega) (by omega) (fun h204 => ?_) (fun h204 => ?_)
          · refine z_aload_n C 1 rfl dX6_statement_209 rfl ?_
            refine y_callV0 C oX6_place iX6_place eX6_place lkX6_194 (c_X6_place hgr (pk_t hk0 hT) (pk_p hk0 hf hp)) rfl (by decide) rfl rfl (by decide) (Nat.le_refl _) (Nat.le_refl _) (Nat.le_of_ble_eq_true rfl) dX6_statement_210 ?_
            refine z_top C (plR f n (tokE f n p) (I 58 0)) (by rw [(pk_e hk0).1, (pk_e hk0).2.1, (pk_e hk0).2.2]) ?_
            obtain ⟨I1, hI1⟩ : ∃ A, A = nxR I (I 63) (I 58 12).toNat (I 58 15).toNat := ⟨_, rfl⟩
            rw [← hI1]
            have hk1 := nx_pk hk0
            rw [← hI1] at hk1
            refine z_topI C (fun x ex => ?_)
            have hxr := pl_r (f := f) (n := n) (p := (tokE f n p)) (m := I 58 0) hf
            rw [← ex] at hxr
            refine z_istore_n C [(1, .int (iI x)), (2, .int (iI 0)), (0, .ref 58)] dX6_statement_213 rfl (by decide) rfl ?_
            refine z_iload_n C 0 rfl dX6_statement_214 rfl ?_
            refine z_iconst C dX6_statement_215 ?_
            refine z_icmp_ne C 221 dX6_statement_216 (by decide) (by omega) (by omega) (fun h216 => ?_) (fun h216 => ?_)
            · have hx5 := pl_y (fun z => h216 (ex.trans z))
              have hxn := ex.trans hx5.2
              have hcx : isCellN (I 58 0) x = true := by rw [hxn]; exact hx5.1
              have hc7 := gC7_of b1.2 hcx
              have hcr := hc7.1
              have hop : ((openN (I 58 0) (maskW (I 59)) x && (!decide (x = I 58 3) && (!eweAtN (I 62) x (I 58 5).toNat && !eweAtN (I 62) (I 58 2) (I 58 5).toNat)))) = (!wallL (maskW (I 59)) x && (!decide (x = I 58 3) && (!eweAtN (I 62) x (I 58 5).toNat && !eweAtN (I 62) (I 58 2) (I 58 5).toNat))) := by unfold openN; rw [hcx, Bool.true_and]
              have hdo2 : dogsN (I 58 0) (maskW (I 59)) (I 58 2) x = (!wallL (maskW (I 59)) x && !decide (x = I 58 2)) := by unfold dogsN openN; rw [hcx, Bool.true_and, Bool.and_comm]
              refine z_iload_n C 1 rfl dX6_statement_221 rfl ?_
              refine z_if_ne C 236 dX6_statement_222 (by decide) (by omega) (fun h222 => ?_) (fun h222 => ?_)
              · omega
              · refine z_aload_n C 2 rfl dX6_statement_225 rfl ?_
                refine z_iload_n C 0 rfl dX6_statement_226 rfl ?_
                refine y_callV1 C oX6_mayWall iX6_mayWall eX6_mayWall lkX6_132 (c_X6_mayWall (pk_g hk1 hgr) (by rw [pk_s hk1]; exact hrs) (by first | assumption | omega)) rfl (by decide) rfl rfl (by decide) (Nat.le_refl _) (Nat.le_refl _) (Nat.le_of_ble_eq_true rfl) dX6_statement_227 ?_
                refine z_top C (bI (!decide (x = I 58 2) && (!decide (x = I 58 3) && !eweAtN (I 62) x (I 58 5).toNat))) (by rw [hk1.1.2 2 (by decide), hk1.1.2 3 (by decide), hk1.1.1 62 (by decide), hk1.1.2 5 (by decide)]) ?_
                refine y_if_neB C 267 dX6_statement_230 (by decide) (fun h230 => ?_) (fun h230 => ?_)
                · refine z_iload_n C 1 rfl dX6_statement_267 rfl ?_
                  refine z_iconst C dX6_statement_268 ?_
                  refine z_icmp_ge C 290 dX6_statement_269 (by decide) (by omega) (by omega) (fun h269 => ?_) (fun h269 => ?_)
                  · omega
                  · refine z_aload_n C 2 rfl dX6_statement_272 rfl ?_
                    refine y_getR C zCl6 1 flX6_7 rfl rfl rfl dX6_statement_273 ?_
                    refine z_iload_n C 0 rfl dX6_statement_276 rfl ?_
                    refine z_iload_n C 1 rfl dX6_statement_277 rfl ?_
                    refine z_if_ne C 285 dX6_statement_278 (by decide) (by omega) (fun h278 => ?_) (fun h278 => ?_)
                    · omega
                    · refine z_iconst C dX6_statement_281 ?_
                      refine z_goto C 286 dX6_statement_282 (by decide) ?_
                      refine y_zast C x.toNat (by omega) rfl (by omega) (by decide) (by first | exact .inl rfl | exact .inr rfl) dX6_statement_286 ?_
                      refine z_goto C 308 dX6_statement_287 (by decide) ?_
                      refine z_iconst C dX6_statement_308 ?_
                      refine zZ_zret C hR (Nat.le_refl _) (Nat.le_refl _) dX6_statement_309 rfl (Or.inr rfl) ?_
                      have hres : stF f n p (hrV I) = (true, (tokE f n p), walR (hrV I) ((hrV I).2.1 ||| bitL x)) := by rw [stF_1 h154]; unfold stWall; rw [← hxn]; exact if_pos (by show ((isCellN (I 58 0) x && (!decide (x = I 58 2) && (!decide (x = I 58 3) && !eweAtN (I 62) x (I 58 5).toNat)))) = true; rw [hcx, Bool.true_and]; exact h230)
                      rw [hres]
                      exact ⟨zu I1 59 x.toNat 1, rfl, rfl, by rw [hr_wall hc7, pk_h hk1], (pst_59 hk1 hgr (.inr rfl) (by have := hc7.2; omega)).1, (pst_59 hk1 hgr (.inr rfl) (by have := hc7.2; omega)).2⟩
                · refine z_goto C 265 dX6_statement_233 (by decide) ?_
                  refine z_iconst C dX6_statement_265 ?_
                  refine zZ_zret C hR (Nat.le_refl _) (Nat.le_refl _) dX6_statement_266 rfl (Or.inl rfl) ?_
                  have hres : stF f n p (hrV I) = (false, (tokE f n p), hrV I) := by rw [stF_1 h154]; unfold stWall; rw [← hxn]; exact if_neg (fun z => by have z2 : ((isCellN (I 58 0) x && (!decide (x = I 58 2) && (!decide (x = I 58 3) && !eweAtN (I 62) x (I 58 5).toNat)))) = true := z; rw [hcx, Bool.true_and] at z2; exact absurd (z2.symm.trans h230) (by decide))
                  rw [hres]
                  exact ⟨I1, rfl, rfl, pk_h hk1, hk1.2.1, pst_0 hk1 hgr⟩
            · have hnc : isCellN (I 58 0) (nmN f n (tokE f n p)) = false := pl_n (ex.symm.trans h216)
              refine z_iconst C dX6_statement_219 ?_
              refine zZ_zret C hR (Nat.le_refl _) (Nat.le_refl _) dX6_statement_220 rfl (Or.inl rfl) ?_
              have hres : stF f n p (hrV I) = (false, (tokE f n p), hrV I) := by rw [stF_1 h154]; unfold stWall; exact if_neg (fun z => by have z2 : (isCellN (I 58 0) (nmN f n (tokE f n p)) && (!decide ((nmN f n (tokE f n p)) = I 58 2) && (!decide ((nmN f n (tokE f n p)) = I 58 3) && !eweAtN (I 62) (nmN f n (tokE f n p)) (I 58 5).toNat))) = true := z; rw [hnc] at z2; cases z2)
              rw [hres]
              exact ⟨I1, rfl, rfl, pk_h hk1, hk1.2.1, pst_0 hk1 hgr⟩
          · omega
      · refine z_aload_n C 0 rfl dX6_statement_126 rfl ?_
        refine z_iconst C dX6_statement_127 ?_
        refine z_bipush C dX6_statement_128 (by decide) ?_
        refine y_callV2 C oX6_number iX6_number eX6_number lkX6_182 (c_X6_number (pk_t hk0 hT) (pk_p hk0 hf hp) (by first | assumption | omega) (by first | assumption | omega)) rfl (by decide) rfl rfl (by decide) (Nat.le_refl _) (Nat.le_refl _) (Nat.le_of_ble_eq_true rfl) dX6_statement_130 ?_
        refine z_top C (numR f n (tokE f n p) 0 12) (by rw [(pk_e hk0).1, (pk_e hk0).2.1, (pk_e hk0).2.2]) ?_
        obtain ⟨I1, hI1⟩ : ∃ A, A = nxR I (I 63) (I 58 12).toNat (I 58 15).toNat := ⟨_, rfl⟩
        rw [← hI1]
        have hk1 := nx_pk hk0
        rw [← hI1] at hk1
        refine z_topI C (fun x ex => ?_)
        have hxr := num_r (f := f) (n := n) (p := (tokE f n p)) (lo := 0) (hi := 12) hf
        rw [← ex] at hxr
        refine z_istore_n C [(1, .int (iI x)), (0, .ref 58)] dX6_statement_133 rfl (by decide) rfl ?_
        refine z_iload_n C 0 rfl dX6_statement_134 rfl ?_
        refine z_iconst C dX6_statement_135 ?_
        refine z_icmp_ne C 141 dX6_statement_136 (by decide) (by omega) (by omega) (fun h136 => ?_) (fun h136 => ?_)
        · have hx7 := num_y (fun z => h136 (ex.trans z))
          have hxn := ex.trans hx7.2
          refine z_aload_n C 1 rfl dX6_statement_141 rfl ?_
          refine z_iload_n C 0 rfl dX6_statement_142 rfl ?_
          refine y_putI C zCl6 9 flX6_64 rfl rfl rfl rfl dX6_statement_143 ?_
          refine z_iconst C dX6_statement_146 ?_
          refine zZ_zret C hR (Nat.le_refl _) (Nat.le_refl _) dX6_statement_147 rfl (Or.inr rfl) ?_
          have hres : stF f n p (hrV I) = (true, (tokE f n p), setR (hrV I) 2 x) := by rw [stF_6 h123]; unfold stWind; rw [← hxn]; exact if_pos (by rw [← hxn] at hx7; exact hx7.1)
          rw [hres]
          exact ⟨zu I1 58 9 x, rfl, rfl, by rw [hr_58 (.inr (.inr ⟨rfl, rfl⟩)), pk_h hk1], (pst_58 hk1 hgr (by decide)).1, (pst_58 hk1 hgr (by decide)).2⟩
        · refine z_iconst C dX6_statement_139 ?_
          refine zZ_zret C hR (Nat.le_refl _) (Nat.le_refl _) dX6_statement_140 rfl (Or.inl rfl) ?_
          have hres : stF f n p (hrV I) = (false, (tokE f n p), hrV I) := by rw [stF_6 h123]; unfold stWind; exact if_neg (num_n (lo := 0) (hi := 12) (by decide) (ex.symm.trans h136))
          rw [hres]
          exact ⟨I1, rfl, rfl, pk_h hk1, hk1.2.1, pst_0 hk1 hgr⟩
    · refine z_aload_n C 0 rfl dX6_statement_43 rfl ?_
      refine y_getI C zCl6 5 flX6_72 rfl rfl dX6_statement_44 ?_
      refine z_iconst C dX6_statement_47 ?_
      refine z_icmp_ne C 53 dX6_statement_48 (by decide) (by omega) (by omega) (fun h48 => ?_) (fun h48 => ?_)
      · have hm5 : ¬ 5 ≤ I 58 5 := by omega
        refine z_aload_n C 0 rfl dX6_statement_53 rfl ?_
        refine z_iconst C dX6_statement_54 ?_
        refine z_iconst C dX6_statement_55 ?_
        refine y_callV2 C oX6_number iX6_number eX6_number lkX6_182 (c_X6_number (pk_t hk0 hT) (pk_p hk0 hf hp) (by first | assumption | omega) (by first | assumption | omega)) rfl (by decide) rfl rfl (by decide) (Nat.le_refl _) (Nat.le_refl _) (Nat.le_of_ble_eq_true rfl) dX6_statement_56 ?_
        refine z_top C (numR f n (tokE f n p) 0 5) (by rw [(pk_e hk0).1, (pk_e hk0).2.1, (pk_e hk0).2.2]) ?_
        obtain ⟨I1, hI1⟩ : ∃ A, A = nxR I (I 63) (I 58 12).toNat (I 58 15).toNat := ⟨_, rfl⟩
        rw [← hI1]
        have hk1 := nx_pk hk0
        rw [← hI1] at hk1
        refine z_topI C (fun x ex => ?_)
        have hxr := num_r (f := f) (n := n) (p := (tokE f n p)) (lo := 0) (hi := 5) hf
        rw [← ex] at hxr
        refine z_istore_n C [(1, .int (iI x)), (0, .ref 58)] dX6_statement_59 rfl (by decide) rfl ?_
        refine z_iload_n C 0 rfl dX6_statement_60 rfl ?_
        refine z_iconst C dX6_statement_61 ?_
        refine z_icmp_ne C 69 dX6_statement_62 (by decide) (by omega) (by omega) (fun h62 => ?_) (fun h62 => ?_)
        · have hx5 := num_y (fun z => h62 (ex.trans z))
          have hxn := ex.trans hx5.2
          have hx6 : 0 ≤ nmN f n (tokE f n p) ∧ nmN f n (tokE f n p) < 6 := ⟨hx5.1.1, Int.lt_add_one_iff.mpr hx5.1.2⟩
          refine z_aload_n C 1 rfl dX6_statement_69 rfl ?_
          refine z_iconst C dX6_statement_70 ?_
          refine z_bipush C dX6_statement_71 (by decide) ?_
          refine y_callV2 C oX6_number iX6_number eX6_number lkX6_182 (c_X6_number (pk_t hk1 hT) (pk_p hk1 hf htr.2.2) (by first | assumption | omega) (by first | assumption | omega)) rfl (by decide) rfl rfl (by decide) (Nat.le_refl _) (Nat.le_refl _) (Nat.le_of_ble_eq_true rfl) dX6_statement_73 ?_
          refine z_top C (numR f n (tokE f n (tokE f n p)) 0 9) (by rw [(pk_e hk1).1, (pk_e hk1).2.1, (pk_e hk1).2.2]) ?_
          obtain ⟨I2, hI2⟩ : ∃ A, A = nxR I1 (I1 63) (I1 58 12).toNat (I1 58 15).toNat := ⟨_, rfl⟩
          rw [← hI2]
          have hk2 := nx_pk hk1
          rw [← hI2] at hk2
          refine z_topI C (fun y ey => ?_)
          refine z_istore_n C [(2, .int (iI y)), (1, .int (iI x)), (0, .ref 58)] dX6_statement_76 rfl (by decide) rfl ?_
          refine z_iload_n C 0 rfl dX6_statement_77 rfl ?_
          refine z_iconst C dX6_statement_78 ?_
          refine z_icmp_ne C 86 dX6_statement_79 (by decide) (by omega) (by omega) (fun h79 => ?_) (fun h79 => ?_)
          · have hy5 := num_y (fun z => h79 (ey.trans z))
            have hyn := ey.trans hy5.2
            have hy9 := hy5.1
            refine z_aload_n C 2 rfl dX6_statement_86 rfl ?_
            refine y_callV0 C oX6_place iX6_place eX6_place lkX6_194 (c_X6_place (pk_g hk2 hgr) (pk_t hk2 hT) (pk_p hk2 hf htr2.2.2)) rfl (by decide) rfl rfl (by decide) (Nat.le_refl _) (Nat.le_refl _) (Nat.le_of_ble_eq_true rfl) dX6_statement_87 ?_
            refine z_top C (plR f n (tokE f n (tokE f n (tokE f n p))) (I 58 0)) (by rw [(pk_e hk2).1, (pk_e hk2).2.1, (pk_e hk2).2.2, hk2.1.2 0 (by decide)]) ?_
            obtain ⟨I3, hI3⟩ : ∃ A, A = nxR I2 (I2 63) (I2 58 12).toNat (I2 58 15).toNat := ⟨_, rfl⟩
            rw [← hI3]
            have hk3 := nx_pk hk2
            rw [← hI3] at hk3
            refine z_topI C (fun w ew => ?_)
            refine z_istore_n C [(3, .int (iI w)), (2, .int (iI y)), (1, .int (iI x)), (0, .ref 58)] dX6_statement_90 rfl (by decide) rfl ?_
            refine z_iload_n C 0 rfl dX6_statement_91 rfl ?_
            refine z_iconst C dX6_statement_92 ?_
            refine z_icmp_eq C 105 dX6_statement_93 (by decide) (by omega) (by omega) (fun h93 => ?_) (fun h93 => ?_)
            · have hnc : isCellN (I 58 0) (nmN f n (tokE f n (tokE f n (tokE f n p)))) = false := pl_n (ew.symm.trans h93)
              refine z_iconst C dX6_statement_105 ?_
              refine zZ_zret C hR (Nat.le_refl _) (Nat.le_refl _) dX6_statement_106 rfl (Or.inl rfl) ?_
              have hres : stF f n p (hrV I) = (false, (tokE f n (tokE f n (tokE f n p))), hrV I) := by rw [stF_5 h40]; unfold stEwe; rw [if_neg (show ¬ 5 ≤ (hrV I).1 6 from hm5), if_neg (fun z => z hx6), if_neg (fun z => z hy9)]; exact if_neg (fun z => by have z2 : openN (I 58 0) (maskW (I 59)) (nmN f n (tokE f n (tokE f n (tokE f n p)))) = true := z; unfold openN at z2; rw [hnc] at z2; cases z2)
              rw [hres]
              exact ⟨I3, rfl, rfl, pk_h hk3, hk3.2.1, pst_0 hk3 hgr⟩
            · have hw5 := pl_y (fun z => h93 (ew.trans z))
              have hwn := ew.trans hw5.2
              have hcx : isCellN (I 58 0) w = true := by rw [hwn]; exact hw5.1
              have hc7 := gC7_of b1.2 hcx
              have hcr := hc7.1
              have hwm := wallMi (f := I 59) hc7
              have hw7 := b7 w.toNat (by omega)
              refine z_aload_n C 3 rfl dX6_statement_96 rfl ?_
              refine y_getR C zCl6 1 flX6_7 rfl rfl rfl dX6_statement_97 ?_
              refine z_iload_n C 0 rfl dX6_statement_100 rfl ?_
              refine y_zald C w.toNat (by omega) rfl (by omega) (by decide) dX6_statement_101 ?_
              refine z_top C (I 59 w.toNat) (by rw [hk3.1.1 59 (by decide)]) ?_
              refine z_if_eq C 107 dX6_statement_102 (by decide) (by omega) (fun h102 => ?_) (fun h102 => ?_)
              · refine z_aload_n C 3 rfl dX6_statement_107 rfl ?_
                refine z_iload_n C 2 rfl dX6_statement_108 rfl ?_
                refine z_iload_n C 1 rfl dX6_statement_109 rfl ?_
                refine z_iload_n C 0 rfl dX6_statement_110 rfl ?_
                refine y_callV3 C oX6_newEwe iX6_newEwe eX6_newEwe lkX6_145 (c_X6_newEwe (by rw [hk3.1.2 5 (by decide)]; omega)) rfl (by decide) rfl rfl (by decide) (Nat.le_refl _) (Nat.le_refl _) (Nat.le_of_ble_eq_true rfl) dX6_statement_111 ?_
                refine z_pop C dX6_statement_114 rfl ?_
                refine z_iconst C dX6_statement_115 ?_
                refine zZ_zret C hR (Nat.le_refl _) (Nat.le_refl _) dX6_statement_116 rfl (Or.inr rfl) ?_
                have hres : stF f n p (hrV I) = (true, (tokE f n (tokE f n (tokE f n p))), eweR (hrV I) x y w) := by rw [stF_5 h40]; unfold stEwe; rw [if_neg (show ¬ 5 ≤ (hrV I).1 6 from hm5), if_neg (fun z => z hx6), if_neg (fun z => z hy9), ← hwn, ← hxn, ← hyn]; exact if_pos (by show openN (I 58 0) (maskW (I 59)) w = true; unfold openN; rw [hcx, show wallL (maskW (I 59)) w = false from hwm.trans (decide_eq_false (by omega))]; rfl)
                rw [hres]
                exact ⟨zu (zu (zu (zu I3 60 (I3 58 5).toNat x) 61 (I3 58 5).toNat y) 62 (I3 58 5).toNat w) 58 5 (I3 58 5 + 1), rfl, rfl, by rw [hr_ewe, pk_h hk3], (pst_ew hk3 hgr).1, (pst_ew hk3 hgr).2⟩
              · refine z_iconst C dX6_statement_105 ?_
                refine zZ_zret C hR (Nat.le_refl _) (Nat.le_refl _) dX6_statement_106 rfl (Or.inl rfl) ?_
                have hres : stF f n p (hrV I) = (false, (tokE f n (tokE f n (tokE f n p))), hrV I) := by rw [stF_5 h40]; unfold stEwe; rw [if_neg (show ¬ 5 ≤ (hrV I).1 6 from hm5), if_neg (fun z => z hx6), if_neg (fun z => z hy9)]; exact if_neg (fun z => by have z2 : openN (I 58 0) (maskW (I 59)) (nmN f n (tokE f n (tokE f n (tokE f n p)))) = true := z; unfold openN at z2; rw [← hwn, hcx, show wallL (maskW (I 59)) w = true from hwm.trans (decide_eq_true (by omega))] at z2; cases z2)
                rw [hres]
                exact ⟨I3, rfl, rfl, pk_h hk3, hk3.2.1, pst_0 hk3 hgr⟩
          · refine z_iconst C dX6_statement_82 ?_
            refine z_goto C 90 dX6_statement_83 (by decide) ?_
            refine z_istore_n C [(3, .int (iI ((-1)))), (2, .int (iI y)), (1, .int (iI x)), (0, .ref 58)] dX6_statement_90 rfl (by decide) rfl ?_
            refine z_iload_n C 0 rfl dX6_statement_91 rfl ?_
            refine z_iconst C dX6_statement_92 ?_
            refine z_icmp_eq C 105 dX6_statement_93 (by decide) (by omega) (by omega) (fun h93 => ?_) (fun h93 => ?_)
            · refine z_iconst C dX6_statement_105 ?_
              refine zZ_zret C hR (Nat.le_refl _) (Nat.le_refl _) dX6_statement_106 rfl (Or.inl rfl) ?_
              have hres : stF f n p (hrV I) = (false, (tokE f n (tokE f n p)), hrV I) := by rw [stF_5 h40]; unfold stEwe; rw [if_neg (show ¬ 5 ≤ (hrV I).1 6 from hm5), if_neg (fun z => z hx6)]; exact if_pos (fun z => num_n (lo := 0) (hi := 9) (by decide) (ey.symm.trans h79) z)
              rw [hres]
              exact ⟨I2, rfl, rfl, pk_h hk2, hk2.2.1, pst_0 hk2 hgr⟩
            · omega
        · refine z_iconst C dX6_statement_65 ?_
          refine z_goto C 76 dX6_statement_66 (by decide) ?_
          refine z_istore_n C [(2, .int (iI ((-1)))), (1, .int (iI x)), (0, .ref 58)] dX6_statement_76 rfl (by decide) rfl ?_
          refine z_iload_n C 0 rfl dX6_statement_77 rfl ?_
          refine z_iconst C dX6_statement_78 ?_
          refine z_icmp_ne C 86 dX6_statement_79 (by decide) (by omega) (by omega) (fun h79 => ?_) (fun h79 => ?_)
          · omega
          · refine z_iconst C dX6_statement_82 ?_
            refine z_goto C 90 dX6_statement_83 (by decide) ?_
            refine z_istore_n C [(3, .int (iI ((-1)))), (2, .int (iI ((-1)))), (1, .int (iI x)), (0, .ref 58)] dX6_statement_90 rfl (by decide) rfl ?_
            refine z_iload_n C 0 rfl dX6_statement_91 rfl ?_
            refine z_iconst C dX6_statement_92 ?_
            refine z_icmp_eq C 105 dX6_statement_93 (by decide) (by omega) (by omega) (fun h93 => ?_) (fun h93 => ?_)
            · refine z_iconst C dX6_statement_105 ?_
              refine zZ_zret C hR (Nat.le_refl _) (Nat.le_refl _) dX6_statement_106 rfl (Or.inl rfl) ?_
              have hres : stF f n p (hrV I) = (false, (tokE f n p), hrV I) := by rw [stF_5 h40]; unfold stEwe; rw [if_neg (show ¬ 5 ≤ (hrV I).1 6 from hm5)]; exact if_pos (fun z => num_n (lo := 0) (hi := 5) (by decide) (ex.symm.trans h62) ⟨z.1, Int.lt_add_one_iff.mp z.2⟩)
              rw [hres]
              exact ⟨I1, rfl, rfl, pk_h hk1, hk1.2.1, pst_0 hk1 hgr⟩
            · omega
      · refine z_iconst C dX6_statement_51 ?_
        refine zZ_zret C hR (Nat.le_refl _) (Nat.le_refl _) dX6_statement_52 rfl (Or.inl rfl) ?_
        have hres : stF f n p (hrV I) = (false, p, hrV I) := by rw [stF_5 h40]; unfold stEwe; exact if_pos (show 5 ≤ (hrV I).1 6 from (show 5 ≤ I 58 5 by omega))
        rw [hres]
        exact ⟨I, rfl, rfl, pk_h hk0, hk0.2.1, pst_0 hk0 hgr⟩
  · refine z_aload_n C 0 rfl dX6_statement_9 rfl ?_
    refine z_aload_n C 0 rfl dX6_statement_10 rfl ?_
    refine y_getI C zCl6 0 flX6_57 rfl rfl dX6_statement_11 ?_
    refine z_bipush C dX6_statement_14 (by decide) ?_
    refine y_callV2 C oX6_number iX6_number eX6_number lkX6_182 (c_X6_number (pk_t hk0 hT) (pk_p hk0 hf hp) (by first | assumption | omega) (by first | assumption | omega)) rfl (by decide) rfl rfl (by decide) (Nat.le_refl _) (Nat.le_refl _) (Nat.le_of_ble_eq_true rfl) dX6_statement_16 ?_
    refine z_top C (numR f n (tokE f n p) (I 58 0) 7) (by rw [(pk_e hk0).1, (pk_e hk0).2.1, (pk_e hk0).2.2]) ?_
    obtain ⟨I1, hI1⟩ : ∃ A, A = nxR I (I 63) (I 58 12).toNat (I 58 15).toNat := ⟨_, rfl⟩
    rw [← hI1]
    have hk1 := nx_pk hk0
    rw [← hI1] at hk1
    refine z_topI C (fun x ex => ?_)
    have hxr := num_r (f := f) (n := n) (p := (tokE f n p)) (lo := I 58 0) (hi := 7) hf
    rw [← ex] at hxr
    refine z_istore_n C [(1, .int (iI x)), (0, .ref 58)] dX6_statement_19 rfl (by decide) rfl ?_
    refine z_iload_n C 0 rfl dX6_statement_20 rfl ?_
    refine z_iconst C dX6_statement_21 ?_
    refine z_icmp_ne C 27 dX6_statement_22 (by decide) (by omega) (by omega) (fun h22 => ?_) (fun h22 => ?_)
    · have hx7 := num_y (fun z => h22 (ex.trans z))
      have hxn := ex.trans hx7.2
      refine z_aload_n C 1 rfl dX6_statement_27 rfl ?_
      refine z_iload_n C 0 rfl dX6_statement_28 rfl ?_
      refine y_putI C zCl6 0 flX6_57 rfl rfl rfl rfl dX6_statement_29 ?_
      refine z_iconst C dX6_statement_32 ?_
      refine zZ_zret C hR (Nat.le_refl _) (Nat.le_refl _) dX6_statement_33 rfl (Or.inr rfl) ?_
      have hres : stF f n p (hrV I) = (true, (tokE f n p), setR (hrV I) 0 x) := by rw [stF_0 h6]; unfold stSide; rw [← hxn]; exact if_pos (by rw [← hxn] at hx7; exact hx7.1)
      rw [hres]
      exact ⟨zu I1 58 0 x, rfl, rfl, by rw [hr_58 (.inl ⟨rfl, rfl⟩), pk_h hk1], (pst_58 hk1 hgr (by decide)).1, (pst_58 hk1 hgr (by decide)).2⟩
    · refine z_iconst C dX6_statement_25 ?_
      refine zZ_zret C hR (Nat.le_refl _) (Nat.le_refl _) dX6_statement_26 rfl (Or.inl rfl) ?_
      have hres : stF f n p (hrV I) = (false, (tokE f n p), hrV I) := by rw [stF_0 h6]; unfold stSide; exact if_neg (num_n (by omega) (ex.symm.trans h22))
      rw [hres]
      exact ⟨I1, rfl, rfl, pk_h hk1, hk1.2.1, pst_0 hk1 hgr⟩
