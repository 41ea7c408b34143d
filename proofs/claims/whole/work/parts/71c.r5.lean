set_option maxHeartbeats 4000000 in
set_option maxRecDepth 100000 in
theorem c_X6_flock {g : zG} {I : Nat → Nat → Int} {J : Nat → Nat → Int64} {q : Nat × Nat}  (hgr : gR I) (hrs : gRS (spR I)) : zRun g mX6_flock 2 [.ref 58] (zst I J q) (some (.int (iI ((bitsN (fkQ (I 62) (I 58 2) (I 58 5).toNat) (I 58 5).toNat : Nat))))) (zst I J q) := by
  obtain ⟨b1, b2, b3, b4, b5, b6, b7⟩ := id hgr
  obtain ⟨k1, k2, k3⟩ := id hrs
  have k1 : gC7 (I 58 3) := k1
  have k2 : 0 ≤ I 58 4 ∧ I 58 4 ≤ 4 := k2
  have k3 : ∀ e, e < 5 → gC7 (I 62 e) := k3
  have k1' := k1.1
  have b2' := b2.1
  obtain ⟨n, hn⟩ : ∃ n : Nat, I 58 5 = n := ⟨(I 58 5).toNat, by omega⟩
  have hn2 : (I 58 5).toNat = n := by omega
  rw [hn2]
  have hC := fun e (he : e < 5) => (k3 e he).1
  obtain ⟨P, hP⟩ : ∃ P, P = fkQ (I 62) (I 58 2) n := ⟨_, rfl⟩
  rw [← hP]
  refine zRuns_intro rfl (Nat.le_of_ble_eq_true rfl) (fun X C hR => ?_)
  show zZ g X 0 0 _ 0 [(0, .ref 58)] []
  refine z_iconst C dX6_flock_0 ?_
  refine z_istore_n C [(1, .int (iI 0)), (0, .ref 58)] dX6_flock_1 rfl (by decide) rfl ?_
  refine z_iconst C dX6_flock_2 ?_
  refine z_istore_n C [(2, .int (iI 0)), (1, .int (iI 0)), (0, .ref 58)] dX6_flock_3 rfl (by decide) rfl ?_
  refine zZ_sub [2, 1, 0] rfl ?_
  refine zZ_cast (σ' := (fun _ : Nat => zst I J q) 0) (L' := (fun e : Nat => [(0, .ref 58), (1, .int (iI (bitsN P e : Nat))), (2, .int (iI (e : Int)))]) 0) rfl rfl rfl ?_
  refine zfor (n) (fun _ => True) (fun _ : Nat => zst I J q) (fun e : Nat => [(0, .ref 58), (1, .int (iI (bitsN P e : Nat))), (2, .int (iI (e : Int)))]) trivial ?_ ?_
  · intro e hee hpe kke
    have hbl := bitsN_lt P e
    have qe := hC e (by omega)
    obtain ⟨b, hb⟩ : ∃ b, b = bitsN P e := ⟨_, rfl⟩
    rw [← hb] at hbl ⊢
    refine z_iload_n C 2 rfl dX6_flock_4 rfl ?_
    refine z_aload_n C 0 rfl dX6_flock_5 rfl ?_
    refine y_getI C zCl6 5 flX6_72 rfl rfl dX6_flock_6 ?_
    refine z_icmp_ge C 80 dX6_flock_9 (by decide) (by omega) (by omega) (fun h9 => ?_) (fun h9 => ?_)
    · omega
    · refine z_iconst C dX6_flock_12 ?_
      refine z_istore_n C [(3, .int (iI 0)), (0, .ref 58), (1, .int (iI ((b : Nat)))), (2, .int (iI ((e : Int))))] dX6_flock_13 rfl (by decide) rfl ?_
      refine zZ_sub [1, 2, 3, 0] rfl ?_
      refine zZ_cast (σ' := (fun _ : Nat => zst I J q) 0) (L' := (fun f : Nat => [(0, .ref 58), (1, .int (iI (fkV b e (firstN (fkP (I 62) (I 58 2) e) f) : Nat))), (2, .int (iI ((e : Int)))), (3, .int (iI (f : Int)))]) 0) rfl rfl rfl ?_
      refine zfor (n) (fun _ => True) (fun _ : Nat => zst I J q) (fun f : Nat => [(0, .ref 58), (1, .int (iI (fkV b e (firstN (fkP (I 62) (I 58 2) e) f) : Nat))), (2, .int (iI ((e : Int)))), (3, .int (iI (f : Int)))]) trivial ?_ ?_
      · intro f hef hpf kkf
        have qf := hC f (by omega)
        have hst := stp_r (c := I 62 e) (d := I 62 f) (by omega) (by omega)
        refine z_iload_n C 3 rfl dX6_flock_14 rfl ?_
        refine z_aload_n C 0 rfl dX6_flock_15 rfl ?_
        refine y_getI C zCl6 5 flX6_72 rfl rfl dX6_flock_16 ?_
        refine z_icmp_ge C 74 dX6_flock_19 (by decide) (by omega) (by omega) (fun h19 => ?_) (fun h19 => ?_)
        · omega
        · refine z_iload_n C 2 rfl dX6_flock_22 rfl ?_
          refine z_iload_n C 3 rfl dX6_flock_23 rfl ?_
          refine z_icmp_eq C 68 dX6_flock_24 (by decide) (by omega) (by omega) (fun h24 => ?_) (fun h24 => ?_)
          · obtain ⟨v1, ev1⟩ : ∃ y : Int, y = (f : Int) + 1 := ⟨_, rfl⟩
            refine z_iinc C 3 v1 [(3, .int (iI v1)), (0, .ref 58), (1, .int (iI ((fkV b e (firstN (fkP (I 62) (I 58 2) e) f) : Nat)))), (2, .int (iI ((e : Int))))] dX6_flock_68 rfl ev1.symm (by decide) rfl ?_
            refine z_goto C 14 dX6_flock_71 (by decide) ?_
            refine zZ_sub [1, 2, 3, 0] rfl ?_
            refine zZ_cast rfl (zLk (zLc (by rw [fkV_n (by unfold fkP; simp [show e = f by omega])]) (zLk (zLc (by omega) rfl)))) rfl (kkf trivial)
          · refine z_aload_n C 0 rfl dX6_flock_27 rfl ?_
            refine z_iload_n C 2 rfl dX6_flock_28 rfl ?_
            refine y_callV1 C oX6_isIn iX6_isIn eX6_isIn lkX6_122 (c_X6_isIn hgr hrs (by first | assumption | omega)) rfl (by decide) rfl rfl (by decide) (Nat.le_refl _) (Nat.le_refl _) (Nat.le_of_ble_eq_true rfl) dX6_flock_29 ?_
            refine y_if_neB C 68 dX6_flock_32 (by decide) (fun h32 => ?_) (fun h32 => ?_)
            · obtain ⟨v2, ev2⟩ : ∃ y : Int, y = (f : Int) + 1 := ⟨_, rfl⟩
              refine z_iinc C 3 v2 [(3, .int (iI v2)), (0, .ref 58), (1, .int (iI ((fkV b e (firstN (fkP (I 62) (I 58 2) e) f) : Nat)))), (2, .int (iI ((e : Int))))] dX6_flock_68 rfl ev2.symm (by decide) rfl ?_
              refine z_goto C 14 dX6_flock_71 (by decide) ?_
              refine zZ_sub [1, 2, 3, 0] rfl ?_
              refine zZ_cast rfl (zLk (zLc (by rw [fkV_n (by unfold fkP; simp [show I 62 e = I 58 2 by simpa using h32])]) (zLk (zLc (by omega) rfl)))) rfl (kkf trivial)
            · refine z_aload_n C 0 rfl dX6_flock_35 rfl ?_
              refine z_iload_n C 3 rfl dX6_flock_36 rfl ?_
              refine y_callV1 C oX6_isIn iX6_isIn eX6_isIn lkX6_122 (c_X6_isIn hgr hrs (by first | assumption | omega)) rfl (by decide) rfl rfl (by decide) (Nat.le_refl _) (Nat.le_refl _) (Nat.le_of_ble_eq_true rfl) dX6_flock_37 ?_
              refine y_if_neB C 68 dX6_flock_40 (by decide) (fun h40 => ?_) (fun h40 => ?_)
              · obtain ⟨v3, ev3⟩ : ∃ y : Int, y = (f : Int) + 1 := ⟨_, rfl⟩
                refine z_iinc C 3 v3 [(3, .int (iI v3)), (0, .ref 58), (1, .int (iI ((fkV b e (firstN (fkP (I 62) (I 58 2) e) f) : Nat)))), (2, .int (iI ((e : Int))))] dX6_flock_68 rfl ev3.symm (by decide) rfl ?_
                refine z_goto C 14 dX6_flock_71 (by decide) ?_
                refine zZ_sub [1, 2, 3, 0] rfl ?_
                refine zZ_cast rfl (zLk (zLc (by rw [fkV_n (by unfold fkP; simp [show I 62 f = I 58 2 by simpa using h40])]) (zLk (zLc (by omega) rfl)))) rfl (kkf trivial)
              · refine z_aload_n C 0 rfl dX6_flock_43 rfl ?_
                refine y_getR C zCl6 8 flX6_20 rfl rfl rfl dX6_flock_44 ?_
                refine z_iload_n C 2 rfl dX6_flock_47 rfl ?_
                refine y_iald C e (by omega) rfl (by omega) (by decide) dX6_flock_48 ?_
                refine z_aload_n C 0 rfl dX6_flock_49 rfl ?_
                refine y_getR C zCl6 8 flX6_20 rfl rfl rfl dX6_flock_50 ?_
                refine z_iload_n C 3 rfl dX6_flock_53 rfl ?_
                refine y_iald C f (by omega) rfl (by omega) (by decide) dX6_flock_54 ?_
                refine y_callS2 C oX6_steps sX6_steps lkX6_215 (c_X6_steps (by first | assumption | omega) (by first | assumption | omega)) (by decide) (Nat.le_refl _) (Nat.le_refl _) (Nat.le_of_ble_eq_true rfl) dX6_flock_55 ?_
                refine z_iconst C dX6_flock_58 ?_
                refine z_icmp_le C 68 dX6_flock_59 (by decide) (by omega) (by omega) (fun h59 => ?_) (fun h59 => ?_)
                · obtain ⟨v4, ev4⟩ : ∃ y : Int, y = (f : Int) + 1 := ⟨_, rfl⟩
                  refine z_iinc C 3 v4 [(3, .int (iI v4)), (0, .ref 58), (1, .int (iI ((fkV b e (firstN (fkP (I 62) (I 58 2) e) f) : Nat)))), (2, .int (iI ((e : Int))))] dX6_flock_68 rfl ev4.symm (by decide) rfl ?_
                  refine z_goto C 14 dX6_flock_71 (by decide) ?_
                  refine zZ_sub [1, 2, 3, 0] rfl ?_
                  refine zZ_cast rfl (zLk (zLc (by rw [fkV_n (by unfold fkP; rw [decide_eq_false (show ¬ 2 < stp (I 62 e) (I 62 f) by omega)]; simp)]) (zLk (zLc (by omega) rfl)))) rfl (kkf trivial)
                · refine z_iload_n C 1 rfl dX6_flock_62 rfl ?_
                  refine z_iconst C dX6_flock_63 ?_
                  refine z_iload_n C 2 rfl dX6_flock_64 rfl ?_
                  refine z_ishl C ((2 ^ e : Nat) : Int) dX6_flock_65 (iI_sh1 (by omega)) ?_
                  refine z_ior C (fkV b e (firstN (fkP (I 62) (I 58 2) e) (f + 1)) : Nat) dX6_flock_66 (fkV_s hbl (by omega) (by unfold fkP; rw [decide_eq_false (show ¬ e = f by omega), decide_eq_false (show ¬ I 62 e = I 58 2 by simpa using h32), decide_eq_false (show ¬ I 62 f = I 58 2 by simpa using h40), decide_eq_true (show 2 < stp (I 62 e) (I 62 f) by omega)]; rfl)) ?_
                  refine z_istore_n C [(1, .int (iI ((fkV b e (firstN (fkP (I 62) (I 58 2) e) (f + 1)) : Nat)))), (0, .ref 58), (2, .int (iI ((e : Int)))), (3, .int (iI ((f : Int))))] dX6_flock_67 rfl (by decide) rfl ?_
                  obtain ⟨v5, ev5⟩ : ∃ y : Int, y = (f : Int) + 1 := ⟨_, rfl⟩
                  refine z_iinc C 3 v5 [(3, .int (iI v5)), (1, .int (iI ((fkV b e (firstN (fkP (I 62) (I 58 2) e) (f + 1)) : Nat)))), (0, .ref 58), (2, .int (iI ((e : Int))))] dX6_flock_68 rfl ev5.symm (by decide) rfl ?_
                  refine z_goto C 14 dX6_flock_71 (by decide) ?_
                  refine zZ_sub [2, 1, 3, 0] rfl ?_
                  refine zZ_cast rfl (zLk (zLc rfl (zLk (zLc (by omega) rfl)))) rfl (kkf trivial)
      · intro hpf
        refine z_iload_n C 3 rfl dX6_flock_14 rfl ?_
        refine z_aload_n C 0 rfl dX6_flock_15 rfl ?_
        refine y_getI C zCl6 5 flX6_72 rfl rfl dX6_flock_16 ?_
        refine z_icmp_ge C 74 dX6_flock_19 (by decide) (by omega) (by omega) (fun h19 => ?_) (fun h19 => ?_)
        · obtain ⟨v6, ev6⟩ : ∃ y : Int, y = (e : Int) + 1 := ⟨_, rfl⟩
          refine z_iinc C 2 v6 [(2, .int (iI v6)), (0, .ref 58), (1, .int (iI ((fkV b e (firstN (fkP (I 62) (I 58 2) e) n) : Nat)))), (3, .int (iI ((n : Int))))] dX6_flock_74 rfl ev6.symm (by decide) rfl ?_
          refine z_goto C 4 dX6_flock_77 (by decide) ?_
          refine zZ_sub [1, 2, 0] rfl ?_
          refine zZ_cast rfl (zLk (zLc (by simp only [bitsN]; rw [← hb, hP]; unfold fkV fkQ; split <;> rfl) (zLc (by omega) rfl))) rfl (kke trivial)
        · omega
  · intro hpe
    refine z_iload_n C 2 rfl dX6_flock_4 rfl ?_
    refine z_aload_n C 0 rfl dX6_flock_5 rfl ?_
    refine y_getI C zCl6 5 flX6_72 rfl rfl dX6_flock_6 ?_
    refine z_icmp_ge C 80 dX6_flock_9 (by decide) (by omega) (by omega) (fun h9 => ?_) (fun h9 => ?_)
    · refine z_iload_n C 1 rfl dX6_flock_80 rfl ?_
      exact zZ_iret C hR (Nat.le_refl _) (Nat.le_refl _) dX6_flock_81 rfl (zIs_I rfl rfl)
    · omega
