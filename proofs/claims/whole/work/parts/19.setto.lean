set_option maxHeartbeats 4000000 in
set_option maxRecDepth 100000 in
theorem c_X0_setTo {g : zG} {I : Nat → Nat → Int} {J : Nat → Nat → Int64} {q : Nat × Nat} {h o : Nat} (hh : isH h) (ho : isH o) (hne : h ≠ o) : zRun g mX0_setTo 2 [.ref h, .ref o] (zst I J q) (none) (zst (zHl I h o) (zu J h 5 (J o 5)) q) := by
  have hsep : (o = 1 ∨ o = 6 ∨ o = 13) ∧ (h = 1 ∨ h = 6 ∨ h = 13) := ⟨ho, hh⟩
  have l1 := lay_h1 hh
  have l2 := lay_h2 hh
  refine zRuns_intro rfl (Nat.le_of_ble_eq_true rfl) (fun X C hR => ?_)
  show zZ g X 0 0 _ 0 [(0, .ref h), (1, .ref o)] []
  refine z_aload_n C 0 rfl dX0_setTo_0 rfl ?_
  refine z_aload_n C 1 rfl dX0_setTo_1 rfl ?_
  refine y_getI C zCl0 0 flX0_9 rfl (lay_h ho) dX0_setTo_2 ?_
  refine y_putI C zCl0 0 flX0_9 rfl rfl rfl (lay_h hh) dX0_setTo_5 ?_
  refine z_aload_n C 0 rfl dX0_setTo_8 rfl ?_
  refine z_aload_n C 1 rfl dX0_setTo_9 rfl ?_
  refine y_getI C zCl0 1 flX0_15 rfl (lay_h ho) dX0_setTo_10 ?_
  refine y_putI C zCl0 1 flX0_15 rfl rfl rfl (lay_h hh) dX0_setTo_13 ?_
  refine z_aload_n C 0 rfl dX0_setTo_16 rfl ?_
  refine z_aload_n C 1 rfl dX0_setTo_17 rfl ?_
  refine y_getI C zCl0 2 flX0_18 rfl (lay_h ho) dX0_setTo_18 ?_
  refine y_putI C zCl0 2 flX0_18 rfl rfl rfl (lay_h hh) dX0_setTo_21 ?_
  refine z_aload_n C 0 rfl dX0_setTo_24 rfl ?_
  refine z_aload_n C 1 rfl dX0_setTo_25 rfl ?_
  refine y_getI C zCl0 3 flX0_21 rfl (lay_h ho) dX0_setTo_26 ?_
  refine y_putI C zCl0 3 flX0_21 rfl rfl rfl (lay_h hh) dX0_setTo_29 ?_
  refine z_aload_n C 0 rfl dX0_setTo_32 rfl ?_
  refine z_aload_n C 1 rfl dX0_setTo_33 rfl ?_
  refine y_getI C zCl0 4 flX0_24 rfl (lay_h ho) dX0_setTo_34 ?_
  refine y_putI C zCl0 4 flX0_24 rfl rfl rfl (lay_h hh) dX0_setTo_37 ?_
  refine z_aload_n C 0 rfl dX0_setTo_40 rfl ?_
  refine z_aload_n C 1 rfl dX0_setTo_41 rfl ?_
  refine y_getJ C zCl0 5 flX0_27 rfl (lay_h ho) dX0_setTo_42 ?_
  refine y_putJ C zCl0 5 flX0_27 rfl rfl rfl (lay_h hh) dX0_setTo_45 ?_
  refine z_aload_n C 0 rfl dX0_setTo_48 rfl ?_
  refine z_aload_n C 1 rfl dX0_setTo_49 rfl ?_
  refine y_getI C zCl0 6 flX0_31 rfl (lay_h ho) dX0_setTo_50 ?_
  refine y_putI C zCl0 6 flX0_31 rfl rfl rfl (lay_h hh) dX0_setTo_53 ?_
  refine z_aload_n C 1 rfl dX0_setTo_56 rfl ?_
  refine y_getR C zCl0 7 flX0_34 rfl (lay_h ho) (rt_h7 ho) dX0_setTo_57 ?_
  refine z_iconst C dX0_setTo_60 ?_
  refine z_aload_n C 0 rfl dX0_setTo_61 rfl ?_
  refine y_getR C zCl0 7 flX0_34 rfl (lay_h hh) (rt_h7 hh) dX0_setTo_62 ?_
  refine z_iconst C dX0_setTo_65 ?_
  refine z_iconst C dX0_setTo_66 ?_
  refine y_cpI C lkX0_48 0 0 5 (by omega) (by omega) (by omega) (lay_h1 ho) (lay_h1 hh) (by omega) (by omega) (by decide) (by decide) (by decide) (Nat.le_of_ble_eq_true rfl) dX0_setTo_67 ?_
  refine z_aload_n C 1 rfl dX0_setTo_70 rfl ?_
  refine y_getR C zCl0 8 flX0_38 rfl (lay_h ho) (rt_h8 ho) dX0_setTo_71 ?_
  refine z_iconst C dX0_setTo_74 ?_
  refine z_aload_n C 0 rfl dX0_setTo_75 rfl ?_
  refine y_getR C zCl0 8 flX0_38 rfl (lay_h hh) (rt_h8 hh) dX0_setTo_76 ?_
  refine z_iconst C dX0_setTo_79 ?_
  refine z_iconst C dX0_setTo_80 ?_
  refine y_cpI C lkX0_48 0 0 5 (by omega) (by omega) (by omega) (lay_h2 ho) (lay_h2 hh) (by omega) (by omega) (by decide) (by decide) (by decide) (Nat.le_of_ble_eq_true rfl) dX0_setTo_81 ?_
  refine z_aload_n C 0 rfl dX0_setTo_84 rfl ?_
  refine y_getR C zCl0 9 flX0_44 rfl (lay_h hh) (rt_h9 hh) dX0_setTo_85 ?_
  refine z_aload_n C 1 rfl dX0_setTo_88 rfl ?_
  refine y_getR C zCl0 9 flX0_44 rfl (lay_h ho) (rt_h9 ho) dX0_setTo_89 ?_
  refine y_callV1 C oX3_setTo iX3_setTo eX3_setTo lkX0_54 (c_X3_setTo (isS_h hh) (isS_h ho)) (lay_h3 hh) (by decide) rfl rfl (by decide) (Nat.le_refl _) (Nat.le_refl _) (Nat.le_of_ble_eq_true rfl) dX0_setTo_92 ?_
  refine zZ_st (zst_tail (I' := zHl I h o) (fun i k kd n hn hk => ?_)) ?_
  · have t1 : i = h + 1 → k < 5 := fun e => by subst e; cases l1.symm.trans hn; exact hk
    have t2 : i = h + 2 → k < 5 := fun e => by subst e; cases l2.symm.trans hn; exact hk
    rcases hsep with ⟨rfl | rfl | rfl, rfl | rfl | rfl⟩ <;> first | exact absurd rfl hne | (simp only [zHl, zSp, zcp, va_cpy, zu]; simp only [Nat.reduceAdd] at t1 t2 ⊢; rcases (show k = 0 ∨ k = 1 ∨ k = 2 ∨ k = 3 ∨ k = 4 ∨ k = 5 ∨ k = 6 ∨ 7 ≤ k by omega) with rfl | rfl | rfl | rfl | rfl | rfl | rfl | h7 <;> (try simp) <;> (repeat' split) <;> (first | rfl | omega | (simp_all; done) | (simp_all; omega)))
  exact zZ_vret C hR (Nat.le_refl _) (Nat.le_refl _) dX0_setTo_95 rfl (zIs_V rfl)
