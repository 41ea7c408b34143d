set_option maxHeartbeats 4000000 in
set_option maxRecDepth 100000 in
theorem c_X6_evening {g : zG} {I : Nat → Nat → Int} {J : Nat → Nat → Int64} {q : Nat × Nat} {n : Int} (hgr : gR I) (hrs : gRS (spR I)) (hrl : gRL I) (hdo : openN (I 58 0) (maskW (I 59)) (I 58 3) = true) (hn : -2147483648 ≤ n ∧ n ≤ 2147483647) : zRun g mX6_evening 7 [.ref 58, .int (iI n)] (zst I J q) (some (.int (iI (uR (fEve n) (inN (hvR I) (evN (hvR I) (I 58 9) (I 58 11, I 58 10, spR I) n.toNat).2.2.2.2 - inN (hvR I) (I 62)))))) (zst (uK I (fEve n) (zEv I (evN (hvR I) (I 58 9) (I 58 11, I 58 10, spR I) n.toNat))) J q) := by
  obtain ⟨b1, b2, b3, b4, b5, b6, b7⟩ := id hgr
  obtain ⟨k1, k2, k3⟩ := id hrs
  have k1 : gC7 (I 58 3) := k1
  have k2 : 0 ≤ I 58 4 ∧ I 58 4 ≤ 4 := k2
  have k3 : ∀ e, e < 5 → gC7 (I 62 e) := k3
  have k1' := k1.1
  have b2' := b2.1
  have v10 : VI I 1 0 = I 58 0 := congrArg (fun x => x) rfl
  have v11 : VI I 1 1 = I 58 2 := congrArg (fun x => x) rfl
  have v12 : VI I 1 2 = I 58 9 := congrArg (fun x => x) rfl
  have v16 : VI I 1 6 = I 58 5 := congrArg (fun x => x) rfl
  have v40 : VI I 4 0 = I 58 3 := congrArg (fun x => x) rfl
  have v41 : VI I 4 1 = I 58 4 := congrArg (fun x => x) rfl
  have v111 : VI I 11 1 = I 58 12 := congrArg (fun x => x) rfl
  have v13 : VI I 1 3 = I 58 10 := congrArg (fun x => x) rfl
  have v14 : VI I 1 4 = I 58 11 := congrArg (fun x => x) rfl
  refine zRuns_intro rfl (Nat.le_of_ble_eq_true rfl) (fun X C hR => ?_)
  show zZ g X 0 0 _ 0 [(0, .ref 58), (1, .int (iI n))] []
  refine z_iload_n C 1 rfl dX6_evening_0 rfl ?_
  refine z_iconst C dX6_evening_1 ?_
  refine z_bipush C dX6_evening_2 (by decide) ?_
  refine y_callS3 C oX6_within sX6_within lkX6_75 (c_X6_within (by first | assumption | omega) (by first | assumption | omega) (by first | assumption | omega)) (by decide) (Nat.le_refl _) (Nat.le_refl _) (Nat.le_of_ble_eq_true rfl) dX6_evening_4 ?_
  refine y_if_neB C 17 dX6_evening_7 (by decide) (fun h7 => ?_) (fun h7 => ?_)
  · refine z_aload_n C 0 rfl dX6_evening_17 rfl ?_
    refine y_callV0 C oX6_in iX6_in eX6_in lkX6_135 (c_X6_in hgr hrs) rfl (by decide) rfl rfl (by decide) (Nat.le_refl _) (Nat.le_refl _) (Nat.le_of_ble_eq_true rfl) dX6_evening_18 ?_
    refine z_topI C (fun w0 ew0 => ?_)
    refine z_istore_n C [(2, .int (iI w0)), (0, .ref 58), (1, .int (iI n))] dX6_evening_21 rfl (by decide) rfl ?_
    refine z_iconst C dX6_evening_22 ?_
    refine z_istore_n C [(3, .int (iI 0)), (2, .int (iI w0)), (0, .ref 58), (1, .int (iI n))] dX6_evening_23 rfl (by decide) rfl ?_
    refine zZ_sub [2, 3, 1, 0] rfl ?_
    refine zZ_cast (σ' := (fun e : Nat => zst (zEv I (evN (hvR I) (I 58 9) (I 58 11, I 58 10, spR I) e)) J q) 0) (L' := (fun e : Nat => [(0, .ref 58), (1, .int (iI n)), (2, .int (iI w0)), (3, .int (iI (e : Int)))]) 0) (by refine congrArg (fun I' => zst I' J q) ?_; exact zEv_self.symm) rfl rfl ?_
    refine zfor (n.toNat) (fun _ => True) (fun e : Nat => zst (zEv I (evN (hvR I) (I 58 9) (I 58 11, I 58 10, spR I) e)) J q) (fun e : Nat => [(0, .ref 58), (1, .int (iI n)), (2, .int (iI w0)), (3, .int (iI (e : Int)))]) trivial ?_ ?_
    · intro e hee hpe kke
      have hek := evN_ok (I := I) (x := (I 58 11, I 58 10, spR I)) hgr hrs hdo e
      obtain ⟨x, hx⟩ : ∃ x, x = evN (hvR I) (I 58 9) (I 58 11, I 58 10, spR I) e := ⟨_, rfl⟩
      rw [← hx] at hek ⊢
      have u1 := ush16_r (seedN x.1)
      have u2 := ush16_r (seedN (seedN x.1))
      have u3 := hek.1.2.1
      refine z_iload_n C 3 rfl dX6_evening_24 rfl ?_
      refine z_iload_n C 1 rfl dX6_evening_25 rfl ?_
      refine z_icmp_ge C 78 dX6_evening_26 (by decide) (by omega) (by omega) (fun h26 => ?_) (fun h26 => ?_)
      · omega
      · refine z_aload_n C 0 rfl dX6_evening_29 rfl ?_
        refine z_iconst C dX6_evening_30 ?_
        refine y_callV1 C oX6_draw iX6_draw eX6_draw lkX6_303 (c_X6_draw (by first | assumption | omega)) rfl (by decide) rfl rfl (by decide) (Nat.le_refl _) (Nat.le_refl _) (Nat.le_of_ble_eq_true rfl) dX6_evening_31 ?_
        refine zZ_cast (σ' := zst (zEv I (seedN x.1, x.2)) J q) (S' := .int (iI (ush16 (seedN x.1) % 5)) :: []) (by refine congrArg (fun I' => zst I' J q) ?_; rw [zEv_11]; rfl) rfl rfl ?_
        refine z_topI C (fun dr edr => ?_)
        have edr2 : dr = ush16 (seedN x.1) % 5 := edr
        refine z_istore C [(4, .int (iI dr)), (0, .ref 58), (1, .int (iI n)), (2, .int (iI w0)), (3, .int (iI ((e : Int))))] dX6_evening_34 (by decide) rfl ?_
        refine z_aload_n C 1 rfl dX6_evening_36 rfl ?_
        refine z_aload_n C 1 rfl dX6_evening_37 rfl ?_
        refine z_bipush C dX6_evening_38 (by decide) ?_
        refine y_callV1 C oX6_draw iX6_draw eX6_draw lkX6_303 (c_X6_draw (by first | assumption | omega)) rfl (by decide) rfl rfl (by decide) (Nat.le_refl _) (Nat.le_refl _) (Nat.le_of_ble_eq_true rfl) dX6_evening_40 ?_
        refine zZ_cast (σ' := zst (zEv I (seedN (seedN x.1), x.2)) J q) (S' := .int (iI (ush16 (seedN (seedN x.1)) % 12)) :: .ref 58 :: []) (by refine congrArg (fun I' => zst I' J q) ?_; rw [zEv_11]; rfl) rfl rfl ?_
        refine z_aload_n C 1 rfl dX6_evening_43 rfl ?_
        refine y_getI C zCl6 9 flX6_64 rfl rfl dX6_evening_44 ?_
        refine z_top C (I 58 9) (rfl) ?_
        refine z_icmp_ge C 57 dX6_evening_47 (by decide) (by omega) (by omega) (fun h47 => ?_) (fun h47 => ?_)
        · refine z_iload C 0 rfl dX6_evening_57 ?_
          obtain ⟨kk, hkk⟩ : ∃ k : Nat, dr = (k : Int) := ⟨(dr).toNat, by omega⟩
          have hkr : kk < 5 := by omega
          refine z_top C ((kk : Nat) : Int) hkk ?_
          refine y_callV1 C oX6_goes iX6_goes eX6_goes lkX6_238 (c_X6_goes (zEv_g hgr) hek.1 (show openN (I 58 0) (maskW (I 59)) x.2.2.1 = true from hek.2) hkr) rfl (by decide) rfl rfl (by decide) (Nat.le_refl _) (Nat.le_refl _) (Nat.le_of_ble_eq_true rfl) dX6_evening_59 ?_
          refine zZ_cast (σ' := zst (zEv I (seedN (seedN x.1), x.2.1, turnS (hvR I) x.2.2 (kk : Int))) J q)  (by refine congrArg (fun I' => zst I' J q) ?_; rw [zEv_q]; rfl) rfl rfl ?_
          refine z_aload_n C 1 rfl dX6_evening_62 rfl ?_
          refine z_dup C dX6_evening_63 rfl ?_
          refine y_getI C zCl6 10 flX6_299 rfl rfl dX6_evening_64 ?_
          refine z_top C (x.2.1) (rfl) ?_
          refine z_iconst C dX6_evening_67 ?_
          refine z_iadd C dX6_evening_68 ?_
          refine y_putI C zCl6 10 flX6_299 rfl rfl rfl rfl dX6_evening_69 ?_
          rw [zEv_10]
          obtain ⟨v1, ev1⟩ : ∃ y : Int, y = (e : Int) + 1 := ⟨_, rfl⟩
          refine z_iinc C 4 v1 [(3, .int (iI v1)), (4, .int (iI dr)), (0, .ref 58), (1, .int (iI n)), (2, .int (iI w0))] dX6_evening_72 rfl ev1.symm (by decide) rfl ?_
          refine z_goto C 24 dX6_evening_75 (by decide) ?_
          refine zZ_sub [2, 3, 4, 0] rfl ?_
          refine zZ_cast (by refine congrArg (fun I' => zst I' J q) ?_; simp only [evN, ← hx]; rw [if_neg (by omega), ← edr2, hkk]) (zLk (zLk (zLk (zLc (by omega) rfl)))) rfl (kke trivial)
        · refine z_aload_n C 1 rfl dX6_evening_50 rfl ?_
          refine y_getI C zCl6 4 flX6_235 rfl rfl dX6_evening_51 ?_
          refine z_top C (x.2.2.2.1) (rfl) ?_
          refine z_goto C 59 dX6_evening_54 (by decide) ?_
          obtain ⟨kk, hkk⟩ : ∃ k : Nat, x.2.2.2.1 = (k : Int) := ⟨(x.2.2.2.1).toNat, by omega⟩
          have hkr : kk < 5 := by omega
          refine z_top C ((kk : Nat) : Int) hkk ?_
          refine y_callV1 C oX6_goes iX6_goes eX6_goes lkX6_238 (c_X6_goes (zEv_g hgr) hek.1 (show openN (I 58 0) (maskW (I 59)) x.2.2.1 = true from hek.2) hkr) rfl (by decide) rfl rfl (by decide) (Nat.le_refl _) (Nat.le_refl _) (Nat.le_of_ble_eq_true rfl) dX6_evening_59 ?_
          refine zZ_cast (σ' := zst (zEv I (seedN (seedN x.1), x.2.1, turnS (hvR I) x.2.2 (kk : Int))) J q)  (by refine congrArg (fun I' => zst I' J q) ?_; rw [zEv_q]; rfl) rfl rfl ?_
          refine z_aload_n C 1 rfl dX6_evening_62 rfl ?_
          refine z_dup C dX6_evening_63 rfl ?_
          refine y_getI C zCl6 10 flX6_299 rfl rfl dX6_evening_64 ?_
          refine z_top C (x.2.1) (rfl) ?_
          refine z_iconst C dX6_evening_67 ?_
          refine z_iadd C dX6_evening_68 ?_
          refine y_putI C zCl6 10 flX6_299 rfl rfl rfl rfl dX6_evening_69 ?_
          rw [zEv_10]
          obtain ⟨v2, ev2⟩ : ∃ y : Int, y = (e : Int) + 1 := ⟨_, rfl⟩
          refine z_iinc C 4 v2 [(3, .int (iI v2)), (4, .int (iI dr)), (0, .ref 58), (1, .int (iI n)), (2, .int (iI w0))] dX6_evening_72 rfl ev2.symm (by decide) rfl ?_
          refine z_goto C 24 dX6_evening_75 (by decide) ?_
          refine zZ_sub [2, 3, 4, 0] rfl ?_
          refine zZ_cast (by refine congrArg (fun I' => zst I' J q) ?_; simp only [evN, ← hx]; rw [if_pos (by omega), hkk]) (zLk (zLk (zLk (zLc (by omega) rfl)))) rfl (kke trivial)
    · intro hpe
      have hek := evN_ok (I := I) (x := (I 58 11, I 58 10, spR I)) hgr hrs hdo n.toNat
      refine z_iload_n C 3 rfl dX6_evening_24 rfl ?_
      refine z_iload_n C 1 rfl dX6_evening_25 rfl ?_
      refine z_icmp_ge C 78 dX6_evening_26 (by decide) (by omega) (by omega) (fun h26 => ?_) (fun h26 => ?_)
      · refine z_aload_n C 0 rfl dX6_evening_78 rfl ?_
        refine y_callV0 C oX6_in iX6_in eX6_in lkX6_135 (c_X6_in (zEv_g hgr) hek.1) rfl (by decide) rfl rfl (by decide) (Nat.le_refl _) (Nat.le_refl _) (Nat.le_of_ble_eq_true rfl) dX6_evening_79 ?_
        refine z_iload_n C 2 rfl dX6_evening_82 rfl ?_
        refine z_isub C dX6_evening_83 ?_
        exact zZ_iret C hR (Nat.le_refl _) (Nat.le_refl _) dX6_evening_84 rfl (zIs_I (by rw [uR0 (show fEve n = 0 by (try simp only [decide_eq_true_eq, decide_eq_false_iff_not, bI] at *); (unfold fEve; (try simp only [v10, v11, v12, v16, v40, v41, v111]); (try simp only [v10]); (repeat' split) <;> first | rfl | omega | (exfalso; simp_all; done) | (exfalso; simp_all; omega)))]; rw [ew0]; rfl) (by rw [uK0 (show fEve n = 0 by (try simp only [decide_eq_true_eq, decide_eq_false_iff_not, bI] at *); (unfold fEve; (try simp only [v10, v11, v12, v16, v40, v41, v111]); (try simp only [v10]); (repeat' split) <;> first | rfl | omega | (exfalso; simp_all; done) | (exfalso; simp_all; omega)))]))
      · omega
  · refine z_aload_n C 0 rfl dX6_evening_10 rfl ?_
    refine z_bipush C dX6_evening_11 (by decide) ?_
    refine y_callV1 C oX6_no iX6_no eX6_no lkX6_83 (c_X6_no (by first | assumption | omega)) rfl (by decide) rfl rfl (by decide) (Nat.le_refl _) (Nat.le_refl _) (Nat.le_of_ble_eq_true rfl) dX6_evening_13 ?_
    exact zZ_iret C hR (Nat.le_refl _) (Nat.le_refl _) dX6_evening_16 rfl (zIs_I (uRc (show fEve n = -2 by (try simp only [decide_eq_true_eq, decide_eq_false_iff_not, bI] at *); (unfold fEve; (try simp only [v10, v11, v12, v16, v40, v41, v111]); (try simp only [v10]); (repeat' split) <;> first | rfl | omega | (exfalso; simp_all; done) | (exfalso; simp_all; omega))) (by decide)).symm (by rw [uKc (show fEve n = -2 by (try simp only [decide_eq_true_eq, decide_eq_false_iff_not, bI] at *); (unfold fEve; (try simp only [v10, v11, v12, v16, v40, v41, v111]); (try simp only [v10]); (repeat' split) <;> first | rfl | omega | (exfalso; simp_all; done) | (exfalso; simp_all; omega))) (by decide)]))
