set_option maxHeartbeats 4000000 in
set_option maxRecDepth 100000 in
theorem c_X6_next {g : zG} {I : Nat → Nat → Int} {J : Nat → Nat → Int64} {q : Nat × Nat}  (hT : gTR I) (hp : 0 ≤ I 58 15 ∧ I 58 15 ≤ I 58 12) : zRun g mX6_next 1 [.ref 58] (zst I J q) (none) (zst (nxR I (I 63) (I 58 12).toNat (I 58 15).toNat) J q) := by
  obtain ⟨t1, t2⟩ := id hT
  obtain ⟨n, hn⟩ : ∃ n : Nat, I 58 12 = n := ⟨(I 58 12).toNat, by omega⟩
  have hn2 : (I 58 12).toNat = n := by omega
  obtain ⟨p, hp0⟩ : ∃ p : Nat, I 58 15 = p := ⟨(I 58 15).toNat, by omega⟩
  have hp2 : (I 58 15).toNat = p := by omega
  rw [hn2, hp2]
  have hf : ∀ k, k < n → 0 ≤ I 63 k := fun k hk => (t2 k (by omega)).1
  refine zRuns_intro rfl (Nat.le_of_ble_eq_true rfl) (fun X C hR => ?_)
  show zZ g X 0 0 _ 0 [(0, .ref 58)] []
  refine z_aload_n C 0 rfl dX6_next_0 rfl ?_
  refine z_aload_n C 0 rfl dX6_next_1 rfl ?_
  refine y_getI C zCl6 15 flX6_152 rfl rfl dX6_next_2 ?_
  refine y_putI C zCl6 14 flX6_155 rfl rfl rfl rfl dX6_next_5 ?_
  refine zZ_cast (σ' := zst (zTR I ((p + 0 : Nat) : Int) (p : Nat) (I 58 16) (I 58 17)) J q)  (by refine congrArg (fun I' => zst I' J q) ?_; rw [zTR_a, hp0]; rfl) rfl rfl ?_
  refine zZ_sub [0] rfl ?_
  refine zZ_cast (σ' := (fun e : Nat => zst (zTR I ((p + e : Nat) : Int) (p : Nat) (I 58 16) (I 58 17)) J q) 0) (L' := (fun e : Nat => [(0, .ref 58)]) 0) rfl rfl rfl ?_
  refine zfor ((n - p)) (fun e => firstN (fun i => !decide (I 63 (p + i) = 32)) e = none) (fun e : Nat => zst (zTR I ((p + e : Nat) : Int) (p : Nat) (I 58 16) (I 58 17)) J q) (fun e : Nat => [(0, .ref 58)]) rfl ?_ ?_
  · intro e hee hpe kke
    refine z_aload_n C 0 rfl dX6_next_8 rfl ?_
    refine y_getI C zCl6 14 flX6_155 rfl rfl dX6_next_9 ?_
    rw [zTR_14]
    refine z_aload_n C 0 rfl dX6_next_12 rfl ?_
    refine y_getI C zCl6 12 flX6_149 rfl rfl dX6_next_13 ?_
    refine z_top C (I 58 12) (rfl) ?_
    refine z_icmp_ge C 46 dX6_next_16 (by decide) (by omega) (by omega) (fun h16 => ?_) (fun h16 => ?_)
    · omega
    · refine z_aload_n C 0 rfl dX6_next_19 rfl ?_
      refine y_getR C zCl6 13 flX6_23 rfl rfl rfl dX6_next_20 ?_
      refine z_aload_n C 0 rfl dX6_next_23 rfl ?_
      refine y_getI C zCl6 14 flX6_155 rfl rfl dX6_next_24 ?_
      rw [zTR_14]
      refine y_iald C (p + e) (by omega) rfl (by omega) (by decide) dX6_next_27 ?_
      refine z_top C (I 63 (p + e)) (by rw [zTR_n (by decide)]) ?_
      refine z_bipush C dX6_next_28 (by decide) ?_
      refine z_icmp_ne C 46 dX6_next_30 (by decide) (by have := t2 (p + e) (by omega); omega) (by omega) (fun h30 => ?_) (fun h30 => ?_)
      · have hS : skN (I 63) n p = p + e := upTo_some (P := fun i => !decide (I 63 i = 32)) (by omega) hpe (by simpa using h30)
        rw [← hS]
        obtain ⟨s, hs⟩ : ∃ s, s = skN (I 63) n p := ⟨_, rfl⟩
        rw [← hs]
        have hsr : p ≤ s ∧ s ≤ n := by rw [hs]; exact upTo_r (by omega)
        have hTz : tokT (I 63) n p = 0 ↔ n ≤ s := by rw [hs]; exact tokT_0 hf
        refine z_aload_n C 0 rfl dX6_next_46 rfl ?_
        refine z_aload_n C 0 rfl dX6_next_47 rfl ?_
        refine y_getI C zCl6 14 flX6_155 rfl rfl dX6_next_48 ?_
        rw [zTR_14]
        refine y_putI C zCl6 15 flX6_152 rfl rfl rfl rfl dX6_next_51 ?_
        rw [zTR_p15]
        refine z_aload_n C 0 rfl dX6_next_54 rfl ?_
        refine y_getI C zCl6 14 flX6_155 rfl rfl dX6_next_55 ?_
        rw [zTR_14]
        refine z_aload_n C 0 rfl dX6_next_58 rfl ?_
        refine y_getI C zCl6 12 flX6_149 rfl rfl dX6_next_59 ?_
        refine z_top C (I 58 12) (rfl) ?_
        refine z_icmp_ne C 72 dX6_next_62 (by decide) (by omega) (by omega) (fun h62 => ?_) (fun h62 => ?_)
        · have hsn : s < n := by omega
          have hTc : tokT (I 63) n p = tkN (I 63 s) := by unfold tokT; rw [← hs, byN_in hsn]
          have ht3 := t2 s (by omega)
          refine z_aload_n C 0 rfl dX6_next_72 rfl ?_
          refine y_getR C zCl6 13 flX6_23 rfl rfl rfl dX6_next_73 ?_
          refine z_aload_n C 0 rfl dX6_next_76 rfl ?_
          refine z_dup C dX6_next_77 rfl ?_
          refine y_getI C zCl6 15 flX6_152 rfl rfl dX6_next_78 ?_
          rw [zTR_15]
          refine z_dup_x1 C dX6_next_81 rfl rfl ?_
          refine z_iconst C dX6_next_82 ?_
          refine z_iadd C dX6_next_83 ?_
          refine y_putI C zCl6 15 flX6_152 rfl rfl rfl rfl dX6_next_84 ?_
          rw [zTR_p15]
          rw [show (s : Int) + 1 = ((s + 1 : Nat) : Int) by omega]
          refine y_iald C s (by omega) rfl (by omega) (by decide) dX6_next_87 ?_
          refine z_top C (I 63 s) (by rw [zTR_n (by decide)]) ?_
          refine z_topI C (fun c0 ec0 => ?_)
          refine z_istore_n C [(1, .int (iI c0)), (0, .ref 58)] dX6_next_88 rfl (by decide) rfl ?_
          refine z_iload_n C 0 rfl dX6_next_89 rfl ?_
          refine y_callS1 C oX6_isLetter sX6_isLetter lkX6_161 (c_X6_isLetter (by first | assumption | omega)) (by decide) (Nat.le_refl _) (Nat.le_refl _) (Nat.le_of_ble_eq_true rfl) dX6_next_90 ?_
          refine y_if_eqB C 144 dX6_next_93 (by decide) (fun h93 => ?_) (fun h93 => ?_)
          · refine z_iload_n C 0 rfl dX6_next_144 rfl ?_
            refine y_callS1 C oX6_isDigit sX6_isDigit lkX6_164 (c_X6_isDigit (by first | assumption | omega)) (by decide) (Nat.le_refl _) (Nat.le_refl _) (Nat.le_of_ble_eq_true rfl) dX6_next_145 ?_
            refine y_if_eqB C 262 dX6_next_148 (by decide) (fun h148 => ?_) (fun h148 => ?_)
            · have hT3 := hTc.trans (tkN_o ht3.1 (by rw [← ec0]; exact of_decide_eq_false h93) (by rw [← ec0]; exact of_decide_eq_false h148))
              rw [← ec0] at hT3
              refine z_aload_n C 1 rfl dX6_next_262 rfl ?_
              refine z_iload_n C 0 rfl dX6_next_263 rfl ?_
              refine z_bipush C dX6_next_264 (by decide) ?_
              refine z_icmp_ne C 274 dX6_next_266 (by decide) (by omega) (by omega) (fun h266 => ?_) (fun h266 => ?_)
              · refine z_bipush C dX6_next_274 (by decide) ?_
                refine y_putI C zCl6 16 flX6_158 rfl rfl rfl rfl dX6_next_276 ?_
                rw [zTR_p16]
                exact zZ_vret C hR (Nat.le_refl _) (Nat.le_refl _) dX6_next_279 rfl (zIs_V (by refine congrArg (fun I' => zst I' J q) ?_; exact nxR_of (z := s + 1) hs.symm ((tokE_o hT3 (by split <;> decide) (by split <;> decide)).trans (by rw [← hs])) hT3 (by unfold rtkN; rw [if_neg h266]; rfl) (by unfold rvlN; rw [if_neg (by split <;> decide)])))
              · refine z_bipush C dX6_next_269 (by decide) ?_
                refine z_goto C 276 dX6_next_271 (by decide) ?_
                refine y_putI C zCl6 16 flX6_158 rfl rfl rfl rfl dX6_next_276 ?_
                rw [zTR_p16]
                exact zZ_vret C hR (Nat.le_refl _) (Nat.le_refl _) dX6_next_279 rfl (zIs_V (by refine congrArg (fun I' => zst I' J q) ?_; exact nxR_of (z := s + 1) hs.symm ((tokE_o hT3 (by split <;> decide) (by split <;> decide)).trans (by rw [← hs])) hT3 (by unfold rtkN; rw [if_pos h266]; rfl) (by unfold rvlN; rw [if_neg (by split <;> decide)])))
            · have hT2 : tokT (I 63) n p = 2 := hTc.trans (tkN_d.mpr (by rw [← ec0]; exact of_decide_eq_true h148))
              refine z_aload_n C 1 rfl dX6_next_151 rfl ?_
              refine z_iload_n C 0 rfl dX6_next_152 rfl ?_
              refine z_bipush C dX6_next_153 (by decide) ?_
              refine z_isub C dX6_next_155 ?_
              refine y_putI C zCl6 17 flX6_167 rfl rfl rfl rfl dX6_next_156 ?_
              rw [zTR_p17]
              refine zZ_sub [1, 0] rfl ?_
              refine zZ_cast (σ' := (fun e : Nat => zst (zTR I (s : Nat) ((s + 1 + e : Nat) : Int) (I 58 16) (dgN (I 63) s (min 2 (e + 1)))) J q) 0) (L' := (fun e : Nat => [(0, .ref 58), (1, .int (iI c0))]) 0) (by refine congrArg (fun I' => zst I' J q) ?_; rw [ec0, show min 2 (0 + 1) = 0 + 1 from rfl]; simp only [dgN, Nat.add_zero]; rw [show (0 : Int) * 10 + I 63 s - 48 = I 63 s - 48 by omega]) rfl rfl ?_
              refine zfor ((n - (s + 1))) (fun e => firstN (fun i => !decide (tkN (I 63 (s + 1 + i)) = 2)) e = none) (fun e : Nat => zst (zTR I (s : Nat) ((s + 1 + e : Nat) : Int) (I 58 16) (dgN (I 63) s (min 2 (e + 1)))) J q) (fun e : Nat => [(0, .ref 58), (1, .int (iI c0))]) rfl ?_ ?_
              · intro e hee hpe kke
                refine z_aload_n C 0 rfl dX6_next_159 rfl ?_
                refine y_getI C zCl6 15 flX6_152 rfl rfl dX6_next_160 ?_
                rw [zTR_15]
                refine z_aload_n C 0 rfl dX6_next_163 rfl ?_
                refine y_getI C zCl6 12 flX6_149 rfl rfl dX6_next_164 ?_
                refine z_top C (I 58 12) (rfl) ?_
                refine z_icmp_ge C 235 dX6_next_167 (by decide) (by omega) (by omega) (fun h167 => ?_) (fun h167 => ?_)
                · omega
                · refine z_aload_n C 0 rfl dX6_next_170 rfl ?_
                  refine y_getR C zCl6 13 flX6_23 rfl rfl rfl dX6_next_171 ?_
                  refine z_aload_n C 0 rfl dX6_next_174 rfl ?_
                  refine y_getI C zCl6 15 flX6_152 rfl rfl dX6_next_175 ?_
                  rw [zTR_15]
                  refine y_iald C (s + 1 + e) (by omega) rfl (by omega) (by decide) dX6_next_178 ?_
                  refine z_top C (I 63 (s + 1 + e)) (by rw [zTR_n (by decide)]) ?_
                  refine y_callS1 C oX6_isDigit sX6_isDigit lkX6_164 (c_X6_isDigit (by have := t2 (s + 1 + e) (by omega); omega)) (by decide) (Nat.le_refl _) (Nat.le_refl _) (Nat.le_of_ble_eq_true rfl) dX6_next_179 ?_
                  refine y_if_eqB C 235 dX6_next_182 (by decide) (fun h182 => ?_) (fun h182 => ?_)
                  · refine z_aload_n C 0 rfl dX6_next_235 rfl ?_
                    refine z_aload_n C 0 rfl dX6_next_236 rfl ?_
                    refine y_getI C zCl6 15 flX6_152 rfl rfl dX6_next_237 ?_
                    rw [zTR_15]
                    refine z_aload_n C 0 rfl dX6_next_240 rfl ?_
                    refine y_getI C zCl6 14 flX6_155 rfl rfl dX6_next_241 ?_
                    rw [zTR_14]
                    refine z_isub C dX6_next_244 ?_
                    refine z_iconst C dX6_next_245 ?_
                    refine z_icmp_le C 254 dX6_next_246 (by decide) (by omega) (by omega) (fun h246 => ?_) (fun h246 => ?_)
                    · refine z_bipush C dX6_next_254 (by decide) ?_
                      refine y_putI C zCl6 16 flX6_158 rfl rfl rfl rfl dX6_next_256 ?_
                      rw [zTR_p16]
                      refine z_goto C 279 dX6_next_259 (by decide) ?_
                      exact zZ_vret C hR (Nat.le_refl _) (Nat.le_refl _) dX6_next_279 rfl (zIs_V (by refine congrArg (fun I' => zst I' J q) ?_; exact nxR_of (z := s + 1 + e) hs.symm (tokE_1 hT2 (.inr rfl) (by rw [← hs]; exact upTo_some (P := fun i => !decide (tkN (I 63 i) = 2)) (by omega) hpe (by rw [decide_eq_false (fun z => absurd (tkN_d.mp z) (of_decide_eq_false h182))]; rfl))) hT2 (by unfold rtkN; rw [if_neg (by decide), if_neg (by decide), if_pos rfl, if_neg (by omega)]) (by unfold rvlN; rw [if_pos rfl, show s + 1 + e - s = e + 1 by omega])))
                    · refine z_bipush C dX6_next_249 (by decide) ?_
                      refine z_goto C 256 dX6_next_251 (by decide) ?_
                      refine y_putI C zCl6 16 flX6_158 rfl rfl rfl rfl dX6_next_256 ?_
                      rw [zTR_p16]
                      refine z_goto C 279 dX6_next_259 (by decide) ?_
                      exact zZ_vret C hR (Nat.le_refl _) (Nat.le_refl _) dX6_next_279 rfl (zIs_V (by refine congrArg (fun I' => zst I' J q) ?_; exact nxR_of (z := s + 1 + e) hs.symm (tokE_1 hT2 (.inr rfl) (by rw [← hs]; exact upTo_some (P := fun i => !decide (tkN (I 63 i) = 2)) (by omega) hpe (by rw [decide_eq_false (fun z => absurd (tkN_d.mp z) (of_decide_eq_false h182))]; rfl))) hT2 (by unfold rtkN; rw [if_neg (by decide), if_neg (by decide), if_pos rfl, if_pos (by omega)]) (by unfold rvlN; rw [if_pos rfl, show s + 1 + e - s = e + 1 by omega])))
                  · refine z_aload_n C 0 rfl dX6_next_185 rfl ?_
                    refine y_getI C zCl6 15 flX6_152 rfl rfl dX6_next_186 ?_
                    rw [zTR_15]
                    refine z_aload_n C 0 rfl dX6_next_189 rfl ?_
                    refine y_getI C zCl6 14 flX6_155 rfl rfl dX6_next_190 ?_
                    rw [zTR_14]
                    refine z_isub C dX6_next_193 ?_
                    refine z_iconst C dX6_next_194 ?_
                    refine z_icmp_ge C 222 dX6_next_195 (by decide) (by omega) (by omega) (fun h195 => ?_) (fun h195 => ?_)
                    · refine z_aload_n C 0 rfl dX6_next_222 rfl ?_
                      refine z_dup C dX6_next_223 rfl ?_
                      refine y_getI C zCl6 15 flX6_152 rfl rfl dX6_next_224 ?_
                      rw [zTR_15]
                      refine z_iconst C dX6_next_227 ?_
                      refine z_iadd C dX6_next_228 ?_
                      refine y_putI C zCl6 15 flX6_152 rfl rfl rfl rfl dX6_next_229 ?_
                      rw [zTR_p15]
                      refine z_goto C 159 dX6_next_232 (by decide) ?_
                      refine zZ_sub [0, 1] rfl ?_
                      refine zZ_cast (by refine congrArg (fun I' => zst I' J q) ?_; rw [show (((s + 1 + e : Nat) : Int) + 1) = ((s + 1 + (e + 1) : Nat) : Int) by omega]; refine congrArg (zTR I (s : Nat) ((s + 1 + (e + 1) : Nat) : Int) (I 58 16)) ?_; rw [show min 2 (e + 1) = 2 by omega, show min 2 (e + 1 + 1) = 2 by omega]) (zLk (zLk rfl)) rfl (kke (by simp only [firstN, hpe]; rw [if_neg (by rw [decide_eq_true (tkN_d.mpr (of_decide_eq_true h182))]; decide)]))
                    · refine z_aload_n C 0 rfl dX6_next_198 rfl ?_
                      refine z_bipush C dX6_next_199 (by decide) ?_
                      refine z_aload_n C 0 rfl dX6_next_201 rfl ?_
                      refine y_getI C zCl6 17 flX6_167 rfl rfl dX6_next_202 ?_
                      rw [zTR_17]
                      refine z_imul C dX6_next_205 ?_
                      refine z_aload_n C 0 rfl dX6_next_206 rfl ?_
                      refine y_getR C zCl6 13 flX6_23 rfl rfl rfl dX6_next_207 ?_
                      refine z_aload_n C 0 rfl dX6_next_210 rfl ?_
                      refine y_getI C zCl6 15 flX6_152 rfl rfl dX6_next_211 ?_
                      rw [zTR_15]
                      refine y_iald C (s + 1 + e) (by omega) rfl (by omega) (by decide) dX6_next_214 ?_
                      refine z_top C (I 63 (s + 1 + e)) (by rw [zTR_n (by decide)]) ?_
                      refine z_iadd C dX6_next_215 ?_
                      refine z_bipush C dX6_next_216 (by decide) ?_
                      refine z_isub C dX6_next_218 ?_
                      refine y_putI C zCl6 17 flX6_167 rfl rfl rfl rfl dX6_next_219 ?_
                      rw [zTR_p17]
                      refine z_aload_n C 0 rfl dX6_next_222 rfl ?_
                      refine z_dup C dX6_next_223 rfl ?_
                      refine y_getI C zCl6 15 flX6_152 rfl rfl dX6_next_224 ?_
                      rw [zTR_15]
                      refine z_iconst C dX6_next_227 ?_
                      refine z_iadd C dX6_next_228 ?_
                      refine y_putI C zCl6 15 flX6_152 rfl rfl rfl rfl dX6_next_229 ?_
                      rw [zTR_p15]
                      refine z_goto C 159 dX6_next_232 (by decide) ?_
                      refine zZ_sub [0, 1] rfl ?_
                      refine zZ_cast (by refine congrArg (fun I' => zst I' J q) ?_; rw [show (((s + 1 + e : Nat) : Int) + 1) = ((s + 1 + (e + 1) : Nat) : Int) by omega]; refine congrArg (zTR I (s : Nat) ((s + 1 + (e + 1) : Nat) : Int) (I 58 16)) ?_; obtain rfl : e = 0 := (by omega); show 10 * dgN (I 63) s 1 + I 63 (s + 1 + 0) - 48 = dgN (I 63) s (1 + 1); rw [show dgN (I 63) s (1 + 1) = dgN (I 63) s 1 * 10 + I 63 (s + 1) - 48 from rfl, Nat.add_zero]; omega) (zLk (zLk rfl)) rfl (kke (by simp only [firstN, hpe]; rw [if_neg (by rw [decide_eq_true (tkN_d.mpr (of_decide_eq_true h182))]; decide)]))
              · intro hpe
                refine z_aload_n C 0 rfl dX6_next_159 rfl ?_
                refine y_getI C zCl6 15 flX6_152 rfl rfl dX6_next_160 ?_
                rw [zTR_15]
                refine z_aload_n C 0 rfl dX6_next_163 rfl ?_
                refine y_getI C zCl6 12 flX6_149 rfl rfl dX6_next_164 ?_
                refine z_top C (I 58 12) (rfl) ?_
                refine z_icmp_ge C 235 dX6_next_167 (by decide) (by omega) (by omega) (fun h167 => ?_) (fun h167 => ?_)
                · refine z_aload_n C 0 rfl dX6_next_235 rfl ?_
                  refine z_aload_n C 0 rfl dX6_next_236 rfl ?_
                  refine y_getI C zCl6 15 flX6_152 rfl rfl dX6_next_237 ?_
                  rw [zTR_15]
                  refine z_aload_n C 0 rfl dX6_next_240 rfl ?_
                  refine y_getI C zCl6 14 flX6_155 rfl rfl dX6_next_241 ?_
                  rw [zTR_14]
                  refine z_isub C dX6_next_244 ?_
                  refine z_iconst C dX6_next_245 ?_
                  refine z_icmp_le C 254 dX6_next_246 (by decide) (by omega) (by omega) (fun h246 => ?_) (fun h246 => ?_)
                  · refine z_bipush C dX6_next_254 (by decide) ?_
                    refine y_putI C zCl6 16 flX6_158 rfl rfl rfl rfl dX6_next_256 ?_
                    rw [zTR_p16]
                    refine z_goto C 279 dX6_next_259 (by decide) ?_
                    exact zZ_vret C hR (Nat.le_refl _) (Nat.le_refl _) dX6_next_279 rfl (zIs_V (by refine congrArg (fun I' => zst I' J q) ?_; exact nxR_of (z := s + 1 + (n - (s + 1))) hs.symm (tokE_1 hT2 (.inr rfl) (by rw [← hs]; exact upTo_none (P := fun i => !decide (tkN (I 63 i) = 2)) hpe)) hT2 (by unfold rtkN; rw [if_neg (by decide), if_neg (by decide), if_pos rfl, if_neg (by omega)]) (by unfold rvlN; rw [if_pos rfl, show s + 1 + (n - (s + 1)) - s = (n - (s + 1)) + 1 by omega])))
                  · refine z_bipush C dX6_next_249 (by decide) ?_
                    refine z_goto C 256 dX6_next_251 (by decide) ?_
                    refine y_putI C zCl6 16 flX6_158 rfl rfl rfl rfl dX6_next_256 ?_
                    rw [zTR_p16]
                    refine z_goto C 279 dX6_next_259 (by decide) ?_
                    exact zZ_vret C hR (Nat.le_refl _) (Nat.le_refl _) dX6_next_279 rfl (zIs_V (by refine congrArg (fun I' => zst I' J q) ?_; exact nxR_of (z := s + 1 + (n - (s + 1))) hs.symm (tokE_1 hT2 (.inr rfl) (by rw [← hs]; exact upTo_none (P := fun i => !decide (tkN (I 63 i) = 2)) hpe)) hT2 (by unfold rtkN; rw [if_neg (by decide), if_neg (by decide), if_pos rfl, if_pos (by omega)]) (by unfold rvlN; rw [if_pos rfl, show s + 1 + (n - (s + 1)) - s = (n - (s + 1)) + 1 by omega])))
                · omega
          · have hT1 : tokT (I 63) n p = 1 := hTc.trans (tkN_l.mpr (by rw [← ec0]; exact of_decide_eq_true h93))
            refine zZ_sub [1, 0] rfl ?_
            refine zZ_cast (σ' := (fun e : Nat => zst (zTR I (s : Nat) ((s + 1 + e : Nat) : Int) (I 58 16) (I 58 17)) J q) 0) (L' := (fun e : Nat => [(0, .ref 58), (1, .int (iI c0))]) 0) rfl rfl rfl ?_
            refine zfor ((n - (s + 1))) (fun e => firstN (fun i => !decide (tkN (I 63 (s + 1 + i)) = 1)) e = none) (fun e : Nat => zst (zTR I (s : Nat) ((s + 1 + e : Nat) : Int) (I 58 16) (I 58 17)) J q) (fun e : Nat => [(0, .ref 58), (1, .int (iI c0))]) rfl ?_ ?_
            · intro e hee hpe kke
              refine z_aload_n C 0 rfl dX6_next_96 rfl ?_
              refine y_getI C zCl6 15 flX6_152 rfl rfl dX6_next_97 ?_
              rw [zTR_15]
              refine z_aload_n C 0 rfl dX6_next_100 rfl ?_
              refine y_getI C zCl6 12 flX6_149 rfl rfl dX6_next_101 ?_
              refine z_top C (I 58 12) (rfl) ?_
              refine z_icmp_ge C 135 dX6_next_104 (by decide) (by omega) (by omega) (fun h104 => ?_) (fun h104 => ?_)
              · omega
              · refine z_aload_n C 0 rfl dX6_next_107 rfl ?_
                refine y_getR C zCl6 13 flX6_23 rfl rfl rfl dX6_next_108 ?_
                refine z_aload_n C 0 rfl dX6_next_111 rfl ?_
                refine y_getI C zCl6 15 flX6_152 rfl rfl dX6_next_112 ?_
                rw [zTR_15]
                refine y_iald C (s + 1 + e) (by omega) rfl (by omega) (by decide) dX6_next_115 ?_
                refine z_top C (I 63 (s + 1 + e)) (by rw [zTR_n (by decide)]) ?_
                refine y_callS1 C oX6_isLetter sX6_isLetter lkX6_161 (c_X6_isLetter (by have := t2 (s + 1 + e) (by omega); omega)) (by decide) (Nat.le_refl _) (Nat.le_refl _) (Nat.le_of_ble_eq_true rfl) dX6_next_116 ?_
                refine y_if_eqB C 135 dX6_next_119 (by decide) (fun h119 => ?_) (fun h119 => ?_)
                · refine z_aload_n C 0 rfl dX6_next_135 rfl ?_
                  refine z_bipush C dX6_next_136 (by decide) ?_
                  refine y_putI C zCl6 16 flX6_158 rfl rfl rfl rfl dX6_next_138 ?_
                  rw [zTR_p16]
                  refine z_goto C 279 dX6_next_141 (by decide) ?_
                  exact zZ_vret C hR (Nat.le_refl _) (Nat.le_refl _) dX6_next_279 rfl (zIs_V (by refine congrArg (fun I' => zst I' J q) ?_; exact nxR_of (z := s + 1 + e) hs.symm (tokE_1 hT1 (.inl rfl) (by rw [← hs]; exact upTo_some (P := fun i => !decide (tkN (I 63 i) = 1)) (by omega) hpe (by rw [decide_eq_false (fun z => absurd (tkN_l.mp z) (of_decide_eq_false h119))]; rfl))) hT1 (by unfold rtkN; rw [if_neg (by decide), if_pos rfl]) (by unfold rvlN; rw [if_neg (by decide)])))
                · refine z_aload_n C 0 rfl dX6_next_122 rfl ?_
                  refine z_dup C dX6_next_123 rfl ?_
                  refine y_getI C zCl6 15 flX6_152 rfl rfl dX6_next_124 ?_
                  rw [zTR_15]
                  refine z_iconst C dX6_next_127 ?_
                  refine z_iadd C dX6_next_128 ?_
                  refine y_putI C zCl6 15 flX6_152 rfl rfl rfl rfl dX6_next_129 ?_
                  rw [zTR_p15]
                  refine z_goto C 96 dX6_next_132 (by decide) ?_
                  refine zZ_sub [0, 1] rfl ?_
                  refine zZ_cast (by rw [show (((s + 1 + e : Nat) : Int) + 1) = ((s + 1 + (e + 1) : Nat) : Int) by omega]) (zLk (zLk rfl)) rfl (kke (by simp only [firstN, hpe]; rw [if_neg (by rw [decide_eq_true (tkN_l.mpr (of_decide_eq_true h119))]; decide)]))
            · intro hpe
              refine z_aload_n C 0 rfl dX6_next_96 rfl ?_
              refine y_getI C zCl6 15 flX6_152 rfl rfl dX6_next_97 ?_
              rw [zTR_15]
              refine z_aload_n C 0 rfl dX6_next_100 rfl ?_
              refine y_getI C zCl6 12 flX6_149 rfl rfl dX6_next_101 ?_
              refine z_top C (I 58 12) (rfl) ?_
              refine z_icmp_ge C 135 dX6_next_104 (by decide) (by omega) (by omega) (fun h104 => ?_) (fun h104 => ?_)
              · refine z_aload_n C 0 rfl dX6_next_135 rfl ?_
                refine z_bipush C dX6_next_136 (by decide) ?_
                refine y_putI C zCl6 16 flX6_158 rfl rfl rfl rfl dX6_next_138 ?_
                rw [zTR_p16]
                refine z_goto C 279 dX6_next_141 (by decide) ?_
                exact zZ_vret C hR (Nat.le_refl _) (Nat.le_refl _) dX6_next_279 rfl (zIs_V (by refine congrArg (fun I' => zst I' J q) ?_; exact nxR_of (z := s + 1 + (n - (s + 1))) hs.symm (tokE_1 hT1 (.inl rfl) (by rw [← hs]; exact upTo_none (P := fun i => !decide (tkN (I 63 i) = 1)) hpe)) hT1 (by unfold rtkN; rw [if_neg (by decide), if_pos rfl]) (by unfold rvlN; rw [if_neg (by decide)])))
              · omega
        · have hT0 : tokT (I 63) n p = 0 := hTz.mpr (by omega)
          refine z_aload_n C 0 rfl dX6_next_65 rfl ?_
          refine z_bipush C dX6_next_66 (by decide) ?_
          refine y_putI C zCl6 16 flX6_158 rfl rfl rfl rfl dX6_next_68 ?_
          rw [zTR_p16]
          exact zZ_vret C hR (Nat.le_refl _) (Nat.le_refl _) dX6_next_71 rfl (zIs_V (by refine congrArg (fun I' => zst I' J q) ?_; exact nxR_of hs.symm ((tokE_0 hT0).trans hs.symm) hT0 (by unfold rtkN; rw [if_pos rfl]) (by unfold rvlN; rw [if_neg (by decide)])))
      · refine z_aload_n C 0 rfl dX6_next_33 rfl ?_
        refine z_dup C dX6_next_34 rfl ?_
        refine y_getI C zCl6 14 flX6_155 rfl rfl dX6_next_35 ?_
        rw [zTR_14]
        refine z_iconst C dX6_next_38 ?_
        refine z_iadd C dX6_next_39 ?_
        refine y_putI C zCl6 14 flX6_155 rfl rfl rfl rfl dX6_next_40 ?_
        rw [zTR_p14]
        refine z_goto C 8 dX6_next_43 (by decide) ?_
        refine zZ_sub [0] rfl ?_
        refine zZ_cast (by rw [show (((p + e : Nat) : Int) + 1) = ((p + (e + 1) : Nat) : Int) by omega]) (zLk rfl) rfl (kke (by simp only [firstN, hpe]; rw [if_neg (by simpa using h30)]))
  · intro hpe
    refine z_aload_n C 0 rfl dX6_next_8 rfl ?_
    refine y_getI C zCl6 14 flX6_155 rfl rfl dX6_next_9 ?_
    rw [zTR_14]
    refine z_aload_n C 0 rfl dX6_next_12 rfl ?_
    refine y_getI C zCl6 12 flX6_149 rfl rfl dX6_next_13 ?_
    refine z_top C (I 58 12) (rfl) ?_
    refine z_icmp_ge C 46 dX6_next_16 (by decide) (by omega) (by omega) (fun h16 => ?_) (fun h16 => ?_)
    · have hS : skN (I 63) n p = p + (n - p) := upTo_none (P := fun i => !decide (I 63 i = 32)) hpe
      rw [← hS]
      obtain ⟨s, hs⟩ : ∃ s, s = skN (I 63) n p := ⟨_, rfl⟩
      rw [← hs]
      have hsr : p ≤ s ∧ s ≤ n := by rw [hs]; exact upTo_r (by omega)
      have hTz : tokT (I 63) n p = 0 ↔ n ≤ s := by rw [hs]; exact tokT_0 hf
      refine z_aload_n C 0 rfl dX6_next_46 rfl ?_
      refine z_aload_n C 0 rfl dX6_next_47 rfl ?_
      refine y_getI C zCl6 14 flX6_155 rfl rfl dX6_next_48 ?_
      rw [zTR_14]
      refine y_putI C zCl6 15 flX6_152 rfl rfl rfl rfl dX6_next_51 ?_
      rw [zTR_p15]
      refine z_aload_n C 0 rfl dX6_next_54 rfl ?_
      refine y_getI C zCl6 14 flX6_155 rfl rfl dX6_next_55 ?_
      rw [zTR_14]
      refine z_aload_n C 0 rfl dX6_next_58 rfl ?_
      refine y_getI C zCl6 12 flX6_149 rfl rfl dX6_next_59 ?_
      refine z_top C (I 58 12) (rfl) ?_
      refine z_icmp_ne C 72 dX6_next_62 (by decide) (by omega) (by omega) (fun h62 => ?_) (fun h62 => ?_)
      · have hsn : s < n := by omega
        have hTc : tokT (I 63) n p = tkN (I 63 s) := by unfold tokT; rw [← hs, byN_in hsn]
        have ht3 := t2 s (by omega)
        refine z_aload_n C 0 rfl dX6_next_72 rfl ?_
        refine y_getR C zCl6 13 flX6_23 rfl rfl rfl dX6_next_73 ?_
        refine z_aload_n C 0 rfl dX6_next_76 rfl ?_
        refine z_dup C dX6_next_77 rfl ?_
        refine y_getI C zCl6 15 flX6_152 rfl rfl dX6_next_78 ?_
        rw [zTR_15]
        refine z_dup_x1 C dX6_next_81 rfl rfl ?_
        refine z_iconst C dX6_next_82 ?_
        refine z_iadd C dX6_next_83 ?_
        refine y_putI C zCl6 15 flX6_152 rfl rfl rfl rfl dX6_next_84 ?_
        rw [zTR_p15]
        rw [show (s : Int) + 1 = ((s + 1 : Nat) : Int) by omega]
        refine y_iald C s (by omega) rfl (by omega) (by decide) dX6_next_87 ?_
        refine z_top C (I 63 s) (by rw [zTR_n (by decide)]) ?_
        refine z_topI C (fun c0 ec0 => ?_)
        refine z_istore_n C [(1, .int (iI c0)), (0, .ref 58)] dX6_next_88 rfl (by decide) rfl ?_
        refine z_iload_n C 0 rfl dX6_next_89 rfl ?_
        refine y_callS1 C oX6_isLetter sX6_isLetter lkX6_161 (c_X6_isLetter (by first | assumption | omega)) (by decide) (Nat.le_refl _) (Nat.le_refl _) (Nat.le_of_ble_eq_true rfl) dX6_next_90 ?_
        refine y_if_eqB C 144 dX6_next_93 (by decide) (fun h93 => ?_) (fun h93 => ?_)
        · refine z_iload_n C 0 rfl dX6_next_144 rfl ?_
          refine y_callS1 C oX6_isDigit sX6_isDigit lkX6_164 (c_X6_isDigit (by first | assumption | omega)) (by decide) (Nat.le_refl _) (Nat.le_refl _) (Nat.le_of_ble_eq_true rfl) dX6_next_145 ?_
          refine y_if_eqB C 262 dX6_next_148 (by decide) (fun h148 => ?_) (fun h148 => ?_)
          · have hT3 := hTc.trans (tkN_o ht3.1 (by rw [← ec0]; exact of_decide_eq_false h93) (by rw [← ec0]; exact of_decide_eq_false h148))
            rw [← ec0] at hT3
            refine z_aload_n C 1 rfl dX6_next_262 rfl ?_
            refine z_iload_n C 0 rfl dX6_next_263 rfl ?_
            refine z_bipush C dX6_next_264 (by decide) ?_
            refine z_icmp_ne C 274 dX6_next_266 (by decide) (by omega) (by omega) (fun h266 => ?_) (fun h266 => ?_)
            · refine z_bipush C dX6_next_274 (by decide) ?_
              refine y_putI C zCl6 16 flX6_158 rfl rfl rfl rfl dX6_next_276 ?_
              rw [zTR_p16]
              exact zZ_vret C hR (Nat.le_refl _) (Nat.le_refl _) dX6_next_279 rfl (zIs_V (by refine congrArg (fun I' => zst I' J q) ?_; exact nxR_of (z := s + 1) hs.symm ((tokE_o hT3 (by split <;> decide) (by split <;> decide)).trans (by rw [← hs])) hT3 (by unfold rtkN; rw [if_neg h266]; rfl) (by unfold rvlN; rw [if_neg (by split <;> decide)])))
            · refine z_bipush C dX6_next_269 (by decide) ?_
              refine z_goto C 276 dX6_next_271 (by decide) ?_
              refine y_putI C zCl6 16 flX6_158 rfl rfl rfl rfl dX6_next_276 ?_
              rw [zTR_p16]
              exact zZ_vret C hR (Nat.le_refl _) (Nat.le_refl _) dX6_next_279 rfl (zIs_V (by refine congrArg (fun I' => zst I' J q) ?_; exact nxR_of (z := s + 1) hs.symm ((tokE_o hT3 (by split <;> decide) (by split <;> decide)).trans (by rw [← hs])) hT3 (by unfold rtkN; rw [if_pos h266]; rfl) (by unfold rvlN; rw [if_neg (by split <;> decide)])))
          · have hT2 : tokT (I 63) n p = 2 := hTc.trans (tkN_d.mpr (by rw [← ec0]; exact of_decide_eq_true h148))
            refine z_aload_n C 1 rfl dX6_next_151 rfl ?_
            refine z_iload_n C 0 rfl dX6_next_152 rfl ?_
            refine z_bipush C dX6_next_153 (by decide) ?_
            refine z_isub C dX6_next_155 ?_
            refine y_putI C zCl6 17 flX6_167 rfl rfl rfl rfl dX6_next_156 ?_
            rw [zTR_p17]
            refine zZ_sub [1, 0] rfl ?_
            refine zZ_cast (σ' := (fun e : Nat => zst (zTR I (s : Nat) ((s + 1 + e : Nat) : Int) (I 58 16) (dgN (I 63) s (min 2 (e + 1)))) J q) 0) (L' := (fun e : Nat => [(0, .ref 58), (1, .int (iI c0))]) 0) (by refine congrArg (fun I' => zst I' J q) ?_; rw [ec0, show min 2 (0 + 1) = 0 + 1 from rfl]; simp only [dgN, Nat.add_zero]; rw [show (0 : Int) * 10 + I 63 s - 48 = I 63 s - 48 by omega]) rfl rfl ?_
            refine zfor ((n - (s + 1))) (fun e => firstN (fun i => !decide (tkN (I 63 (s + 1 + i)) = 2)) e = none) (fun e : Nat => zst (zTR I (s : Nat) ((s + 1 + e : Nat) : Int) (I 58 16) (dgN (I 63) s (min 2 (e + 1)))) J q) (fun e : Nat => [(0, .ref 58), (1, .int (iI c0))]) rfl ?_ ?_
            · intro e hee hpe kke
              refine z_aload_n C 0 rfl dX6_next_159 rfl ?_
              refine y_getI C zCl6 15 flX6_152 rfl rfl dX6_next_160 ?_
              rw [zTR_15]
              refine z_aload_n C 0 rfl dX6_next_163 rfl ?_
              refine y_getI C zCl6 12 flX6_149 rfl rfl dX6_next_164 ?_
              refine z_top C (I 58 12) (rfl) ?_
              refine z_icmp_ge C 235 dX6_next_167 (by decide) (by omega) (by omega) (fun h167 => ?_) (fun h167 => ?_)
              · omega
              · refine z_aload_n C 0 rfl dX6_next_170 rfl ?_
                refine y_getR C zCl6 13 flX6_23 rfl rfl rfl dX6_next_171 ?_
                refine z_aload_n C 0 rfl dX6_next_174 rfl ?_
                refine y_getI C zCl6 15 flX6_152 rfl rfl dX6_next_175 ?_
                rw [zTR_15]
                refine y_iald C (s + 1 + e) (by omega) rfl (by omega) (by decide) dX6_next_178 ?_
                refine z_top C (I 63 (s + 1 + e)) (by rw [zTR_n (by decide)]) ?_
                refine y_callS1 C oX6_isDigit sX6_isDigit lkX6_164 (c_X6_isDigit (by have := t2 (s + 1 + e) (by omega); omega)) (by decide) (Nat.le_refl _) (Nat.le_refl _) (Nat.le_of_ble_eq_true rfl) dX6_next_179 ?_
                refine y_if_eqB C 235 dX6_next_182 (by decide) (fun h182 => ?_) (fun h182 => ?_)
                · refine z_aload_n C 0 rfl dX6_next_235 rfl ?_
                  refine z_aload_n C 0 rfl dX6_next_236 rfl ?_
                  refine y_getI C zCl6 15 flX6_152 rfl rfl dX6_next_237 ?_
                  rw [zTR_15]
                  refine z_aload_n C 0 rfl dX6_next_240 rfl ?_
                  refine y_getI C zCl6 14 flX6_155 rfl rfl dX6_next_241 ?_
                  rw [zTR_14]
                  refine z_isub C dX6_next_244 ?_
                  refine z_iconst C dX6_next_245 ?_
                  refine z_icmp_le C 254 dX6_next_246 (by decide) (by omega) (by omega) (fun h246 => ?_) (fun h246 => ?_)
                  · refine z_bipush C dX6_next_254 (by decide) ?_
                    refine y_putI C zCl6 16 flX6_158 rfl rfl rfl rfl dX6_next_256 ?_
                    rw [zTR_p16]
                    refine z_goto C 279 dX6_next_259 (by decide) ?_
                    exact zZ_vret C hR (Nat.le_refl _) (Nat.le_refl _) dX6_next_279 rfl (zIs_V (by refine congrArg (fun I' => zst I' J q) ?_; exact nxR_of (z := s + 1 + e) hs.symm (tokE_1 hT2 (.inr rfl) (by rw [← hs]; exact upTo_some (P := fun i => !decide (tkN (I 63 i) = 2)) (by omega) hpe (by rw [decide_eq_false (fun z => absurd (tkN_d.mp z) (of_decide_eq_false h182))]; rfl))) hT2 (by unfold rtkN; rw [if_neg (by decide), if_neg (by decide), if_pos rfl, if_neg (by omega)]) (by unfold rvlN; rw [if_pos rfl, show s + 1 + e - s = e + 1 by omega])))
                  · refine z_bipush C dX6_next_249 (by decide) ?_
                    refine z_goto C 256 dX6_next_251 (by decide) ?_
                    refine y_putI C zCl6 16 flX6_158 rfl rfl rfl rfl dX6_next_256 ?_
                    rw [zTR_p16]
                    refine z_goto C 279 dX6_next_259 (by decide) ?_
                    exact zZ_vret C hR (Nat.le_refl _) (Nat.le_refl _) dX6_next_279 rfl (zIs_V (by refine congrArg (fun I' => zst I' J q) ?_; exact nxR_of (z := s + 1 + e) hs.symm (tokE_1 hT2 (.inr rfl) (by rw [← hs]; exact upTo_some (P := fun i => !decide (tkN (I 63 i) = 2)) (by omega) hpe (by rw [decide_eq_false (fun z => absurd (tkN_d.mp z) (of_decide_eq_false h182))]; rfl))) hT2 (by unfold rtkN; rw [if_neg (by decide), if_neg (by decide), if_pos rfl, if_pos (by omega)]) (by unfold rvlN; rw [if_pos rfl, show s + 1 + e - s = e + 1 by omega])))
                · refine z_aload_n C 0 rfl dX6_next_185 rfl ?_
                  refine y_getI C zCl6 15 flX6_152 rfl rfl dX6_next_186 ?_
                  rw [zTR_15]
                  refine z_aload_n C 0 rfl dX6_next_189 rfl ?_
                  refine y_getI C zCl6 14 flX6_155 rfl rfl dX6_next_190 ?_
                  rw [zTR_14]
                  refine z_isub C dX6_next_193 ?_
                  refine z_iconst C dX6_next_194 ?_
                  refine z_icmp_ge C 222 dX6_next_195 (by decide) (by omega) (by omega) (fun h195 => ?_) (fun h195 => ?_)
                  · refine z_aload_n C 0 rfl dX6_next_222 rfl ?_
                    refine z_dup C dX6_next_223 rfl ?_
                    refine y_getI C zCl6 15 flX6_152 rfl rfl dX6_next_224 ?_
                    rw [zTR_15]
                    refine z_iconst C dX6_next_227 ?_
                    refine z_iadd C dX6_next_228 ?_
                    refine y_putI C zCl6 15 flX6_152 rfl rfl rfl rfl dX6_next_229 ?_
                    rw [zTR_p15]
                    refine z_goto C 159 dX6_next_232 (by decide) ?_
                    refine zZ_sub [0, 1] rfl ?_
                    refine zZ_cast (by refine congrArg (fun I' => zst I' J q) ?_; rw [show (((s + 1 + e : Nat) : Int) + 1) = ((s + 1 + (e + 1) : Nat) : Int) by omega]; refine congrArg (zTR I (s : Nat) ((s + 1 + (e + 1) : Nat) : Int) (I 58 16)) ?_; rw [show min 2 (e + 1) = 2 by omega, show min 2 (e + 1 + 1) = 2 by omega]) (zLk (zLk rfl)) rfl (kke (by simp only [firstN, hpe]; rw [if_neg (by rw [decide_eq_true (tkN_d.mpr (of_decide_eq_true h182))]; decide)]))
                  · refine z_aload_n C 0 rfl dX6_next_198 rfl ?_
                    refine z_bipush C dX6_next_199 (by decide) ?_
                    refine z_aload_n C 0 rfl dX6_next_201 rfl ?_
                    refine y_getI C zCl6 17 flX6_167 rfl rfl dX6_next_202 ?_
                    rw [zTR_17]
                    refine z_imul C dX6_next_205 ?_
                    refine z_aload_n C 0 rfl dX6_next_206 rfl ?_
                    refine y_getR C zCl6 13 flX6_23 rfl rfl rfl dX6_next_207 ?_
                    refine z_aload_n C 0 rfl dX6_next_210 rfl ?_
                    refine y_getI C zCl6 15 flX6_152 rfl rfl dX6_next_211 ?_
                    rw [zTR_15]
                    refine y_iald C (s + 1 + e) (by omega) rfl (by omega) (by decide) dX6_next_214 ?_
                    refine z_top C (I 63 (s + 1 + e)) (by rw [zTR_n (by decide)]) ?_
                    refine z_iadd C dX6_next_215 ?_
                    refine z_bipush C dX6_next_216 (by decide) ?_
                    refine z_isub C dX6_next_218 ?_
                    refine y_putI C zCl6 17 flX6_167 rfl rfl rfl rfl dX6_next_219 ?_
                    rw [zTR_p17]
                    refine z_aload_n C 0 rfl dX6_next_222 rfl ?_
                    refine z_dup C dX6_next_223 rfl ?_
                    refine y_getI C zCl6 15 flX6_152 rfl rfl dX6_next_224 ?_
                    rw [zTR_15]
                    refine z_iconst C dX6_next_227 ?_
                    refine z_iadd C dX6_next_228 ?_
                    refine y_putI C zCl6 15 flX6_152 rfl rfl rfl rfl dX6_next_229 ?_
                    rw [zTR_p15]
                    refine z_goto C 159 dX6_next_232 (by decide) ?_
                    refine zZ_sub [0, 1] rfl ?_
                    refine zZ_cast (by refine congrArg (fun I' => zst I' J q) ?_; rw [show (((s + 1 + e : Nat) : Int) + 1) = ((s + 1 + (e + 1) : Nat) : Int) by omega]; refine congrArg (zTR I (s : Nat) ((s + 1 + (e + 1) : Nat) : Int) (I 58 16)) ?_; obtain rfl : e = 0 := (by omega); show 10 * dgN (I 63) s 1 + I 63 (s + 1 + 0) - 48 = dgN (I 63) s (1 + 1); rw [show dgN (I 63) s (1 + 1) = dgN (I 63) s 1 * 10 + I 63 (s + 1) - 48 from rfl, Nat.add_zero]; omega) (zLk (zLk rfl)) rfl (kke (by simp only [firstN, hpe]; rw [if_neg (by rw [decide_eq_true (tkN_d.mpr (of_decide_eq_true h182))]; decide)]))
            · intro hpe
              refine z_aload_n C 0 rfl dX6_next_159 rfl ?_
              refine y_getI C zCl6 15 flX6_152 rfl rfl dX6_next_160 ?_
              rw [zTR_15]
              refine z_aload_n C 0 rfl dX6_next_163 rfl ?_
              refine y_getI C zCl6 12 flX6_149 rfl rfl dX6_next_164 ?_
              refine z_top C (I 58 12) (rfl) ?_
              refine z_icmp_ge C 235 dX6_next_167 (by decide) (by omega) (by omega) (fun h167 => ?_) (fun h167 => ?_)
              · refine z_aload_n C 0 rfl dX6_next_235 rfl ?_
                refine z_aload_n C 0 rfl dX6_next_236 rfl ?_
                refine y_getI C zCl6 15 flX6_152 rfl rfl dX6_next_237 ?_
                rw [zTR_15]
                refine z_aload_n C 0 rfl dX6_next_240 rfl ?_
                refine y_getI C zCl6 14 flX6_155 rfl rfl dX6_next_241 ?_
                rw [zTR_14]
                refine z_isub C dX6_next_244 ?_
                refine z_iconst C dX6_next_245 ?_
                refine z_icmp_le C 254 dX6_next_246 (by decide) (by omega) (by omega) (fun h246 => ?_) (fun h246 => ?_)
                · refine z_bipush C dX6_next_254 (by decide) ?_
                  refine y_putI C zCl6 16 flX6_158 rfl rfl rfl rfl dX6_next_256 ?_
                  rw [zTR_p16]
                  refine z_goto C 279 dX6_next_259 (by decide) ?_
                  exact zZ_vret C hR (Nat.le_refl _) (Nat.le_refl _) dX6_next_279 rfl (zIs_V (by refine congrArg (fun I' => zst I' J q) ?_; exact nxR_of (z := s + 1 + (n - (s + 1))) hs.symm (tokE_1 hT2 (.inr rfl) (by rw [← hs]; exact upTo_none (P := fun i => !decide (tkN (I 63 i) = 2)) hpe)) hT2 (by unfold rtkN; rw [if_neg (by decide), if_neg (by decide), if_pos rfl, if_neg (by omega)]) (by unfold rvlN; rw [if_pos rfl, show s + 1 + (n - (s + 1)) - s = (n - (s + 1)) + 1 by omega])))
                · refine z_bipush C dX6_next_249 (by decide) ?_
                  refine z_goto C 256 dX6_next_251 (by decide) ?_
                  refine y_putI C zCl6 16 flX6_158 rfl rfl rfl rfl dX6_next_256 ?_
                  rw [zTR_p16]
                  refine z_goto C 279 dX6_next_259 (by decide) ?_
                  exact zZ_vret C hR (Nat.le_refl _) (Nat.le_refl _) dX6_next_279 rfl (zIs_V (by refine congrArg (fun I' => zst I' J q) ?_; exact nxR_of (z := s + 1 + (n - (s + 1))) hs.symm (tokE_1 hT2 (.inr rfl) (by rw [← hs]; exact upTo_none (P := fun i => !decide (tkN (I 63 i) = 2)) hpe)) hT2 (by unfold rtkN; rw [if_neg (by decide), if_neg (by decide), if_pos rfl, if_pos (by omega)]) (by unfold rvlN; rw [if_pos rfl, show s + 1 + (n - (s + 1)) - s = (n - (s + 1)) + 1 by omega])))
              · omega
        · have hT1 : tokT (I 63) n p = 1 := hTc.trans (tkN_l.mpr (by rw [← ec0]; exact of_decide_eq_true h93))
          refine zZ_sub [1, 0] rfl ?_
          refine zZ_cast (σ' := (fun e : Nat => zst (zTR I (s : Nat) ((s + 1 + e : Nat) : Int) (I 58 16) (I 58 17)) J q) 0) (L' := (fun e : Nat => [(0, .ref 58), (1, .int (iI c0))]) 0) rfl rfl rfl ?_
          refine zfor ((n - (s + 1))) (fun e => firstN (fun i => !decide (tkN (I 63 (s + 1 + i)) = 1)) e = none) (fun e : Nat => zst (zTR I (s : Nat) ((s + 1 + e : Nat) : Int) (I 58 16) (I 58 17)) J q) (fun e : Nat => [(0, .ref 58), (1, .int (iI c0))]) rfl ?_ ?_
          · intro e hee hpe kke
            refine z_aload_n C 0 rfl dX6_next_96 rfl ?_
            refine y_getI C zCl6 15 flX6_152 rfl rfl dX6_next_97 ?_
            rw [zTR_15]
            refine z_aload_n C 0 rfl dX6_next_100 rfl ?_
            refine y_getI C zCl6 12 flX6_149 rfl rfl dX6_next_101 ?_
            refine z_top C (I 58 12) (rfl) ?_
            refine z_icmp_ge C 135 dX6_next_104 (by decide) (by omega) (by omega) (fun h104 => ?_) (fun h104 => ?_)
            · omega
            · refine z_aload_n C 0 rfl dX6_next_107 rfl ?_
              refine y_getR C zCl6 13 flX6_23 rfl rfl rfl dX6_next_108 ?_
              refine z_aload_n C 0 rfl dX6_next_111 rfl ?_
              refine y_getI C zCl6 15 flX6_152 rfl rfl dX6_next_112 ?_
              rw [zTR_15]
              refine y_iald C (s + 1 + e) (by omega) rfl (by omega) (by decide) dX6_next_115 ?_
              refine z_top C (I 63 (s + 1 + e)) (by rw [zTR_n (by decide)]) ?_
              refine y_callS1 C oX6_isLetter sX6_isLetter lkX6_161 (c_X6_isLetter (by have := t2 (s + 1 + e) (by omega); omega)) (by decide) (Nat.le_refl _) (Nat.le_refl _) (Nat.le_of_ble_eq_true rfl) dX6_next_116 ?_
              refine y_if_eqB C 135 dX6_next_119 (by decide) (fun h119 => ?_) (fun h119 => ?_)
              · refine z_aload_n C 0 rfl dX6_next_135 rfl ?_
                refine z_bipush C dX6_next_136 (by decide) ?_
                refine y_putI C zCl6 16 flX6_158 rfl rfl rfl rfl dX6_next_138 ?_
                rw [zTR_p16]
                refine z_goto C 279 dX6_next_141 (by decide) ?_
                exact zZ_vret C hR (Nat.le_refl _) (Nat.le_refl _) dX6_next_279 rfl (zIs_V (by refine congrArg (fun I' => zst I' J q) ?_; exact nxR_of (z := s + 1 + e) hs.symm (tokE_1 hT1 (.inl rfl) (by rw [← hs]; exact upTo_some (P := fun i => !decide (tkN (I 63 i) = 1)) (by omega) hpe (by rw [decide_eq_false (fun z => absurd (tkN_l.mp z) (of_decide_eq_false h119))]; rfl))) hT1 (by unfold rtkN; rw [if_neg (by decide), if_pos rfl]) (by unfold rvlN; rw [if_neg (by decide)])))
              · refine z_aload_n C 0 rfl dX6_next_122 rfl ?_
                refine z_dup C dX6_next_123 rfl ?_
                refine y_getI C zCl6 15 flX6_152 rfl rfl dX6_next_124 ?_
                rw [zTR_15]
                refine z_iconst C dX6_next_127 ?_
                refine z_iadd C dX6_next_128 ?_
                refine y_putI C zCl6 15 flX6_152 rfl rfl rfl rfl dX6_next_129 ?_
                rw [zTR_p15]
                refine z_goto C 96 dX6_next_132 (by decide) ?_
                refine zZ_sub [0, 1] rfl ?_
                refine zZ_cast (by rw [show (((s + 1 + e : Nat) : Int) + 1) = ((s + 1 + (e + 1) : Nat) : Int) by omega]) (zLk (zLk rfl)) rfl (kke (by simp only [firstN, hpe]; rw [if_neg (by rw [decide_eq_true (tkN_l.mpr (of_decide_eq_true h119))]; decide)]))
          · intro hpe
            refine z_aload_n C 0 rfl dX6_next_96 rfl ?_
            refine y_getI C zCl6 15 flX6_152 rfl rfl dX6_next_97 ?_
            rw [zTR_15]
            refine z_aload_n C 0 rfl dX6_next_100 rfl ?_
            refine y_getI C zCl6 12 flX6_149 rfl rfl dX6_next_101 ?_
            refine z_top C (I 58 12) (rfl) ?_
            refine z_icmp_ge C 135 dX6_next_104 (by decide) (by omega) (by omega) (fun h104 => ?_) (fun h104 => ?_)
            · refine z_aload_n C 0 rfl dX6_next_135 rfl ?_
              refine z_bipush C dX6_next_136 (by decide) ?_
              refine y_putI C zCl6 16 flX6_158 rfl rfl rfl rfl dX6_next_138 ?_
              rw [zTR_p16]
              refine z_goto C 279 dX6_next_141 (by decide) ?_
              exact zZ_vret C hR (Nat.le_refl _) (Nat.le_refl _) dX6_next_279 rfl (zIs_V (by refine congrArg (fun I' => zst I' J q) ?_; exact nxR_of (z := s + 1 + (n - (s + 1))) hs.symm (tokE_1 hT1 (.inl rfl) (by rw [← hs]; exact upTo_none (P := fun i => !decide (tkN (I 63 i) = 1)) hpe)) hT1 (by unfold rtkN; rw [if_neg (by decide), if_pos rfl]) (by unfold rvlN; rw [if_neg (by decide)])))
            · omega
      · have hT0 : tokT (I 63) n p = 0 := hTz.mpr (by omega)
        refine z_aload_n C 0 rfl dX6_next_65 rfl ?_
        refine z_bipush C dX6_next_66 (by decide) ?_
        refine y_putI C zCl6 16 flX6_158 rfl rfl rfl rfl dX6_next_68 ?_
        rw [zTR_p16]
        exact zZ_vret C hR (Nat.le_refl _) (Nat.le_refl _) dX6_next_71 rfl (zIs_V (by refine congrArg (fun I' => zst I' J q) ?_; exact nxR_of hs.symm ((tokE_0 hT0).trans hs.symm) hT0 (by unfold rtkN; rw [if_pos rfl]) (by unfold rvlN; rw [if_neg (by decide)])))
    · omega
