/-! constants of the pools (written by gen_links.py) -/
theorem kcX0_62 : Cond.constantLong RX0 62 (-1 : Int64) ∈ zTb := zTb_of (tb_2 _ (List.mem_of_getElem? (i := 112) rfl)) rfl
theorem kcX5_347 : Cond.constantLong RX5 347 (5 : Int64) ∈ zTb := zTb_of (tb_3 _ (List.mem_of_getElem? (i := 131) rfl)) rfl
theorem kcX0_137 : Cond.constantLong RX0 137 (255 : Int64) ∈ zTb := zTb_of (tb_3 _ (List.mem_of_getElem? (i := 148) rfl)) rfl
theorem kcX0_139 : Cond.constantLong RX0 139 (72340172838076673 : Int64) ∈ zTb := zTb_of (tb_3 _ (List.mem_of_getElem? (i := 152) rfl)) rfl
theorem kcX5_253 : Cond.constantLong RX5 253 (12 : Int64) ∈ zTb := zTb_of (tb_3 _ (List.mem_of_getElem? (i := 157) rfl)) rfl
theorem kcX5_259 : Cond.constantLong RX5 259 (1000000 : Int64) ∈ zTb := zTb_of (tb_3 _ (List.mem_of_getElem? (i := 162) rfl)) rfl
theorem kcJ13_314 : Cond.constantLong RJ13 314 (6148914691236517205 : Int64) ∈ zTb := zTb_of (tb_3 _ (List.mem_of_getElem? (i := 212) rfl)) rfl
theorem kcJ13_316 : Cond.constantLong RJ13 316 (3689348814741910323 : Int64) ∈ zTb := zTb_of (tb_3 _ (List.mem_of_getElem? (i := 213) rfl)) rfl
theorem kcJ13_318 : Cond.constantLong RJ13 318 (1085102592571150095 : Int64) ∈ zTb := zTb_of (tb_3 _ (List.mem_of_getElem? (i := 214) rfl)) rfl
theorem kcX5_349 : Cond.constantLong RX5 349 (67 : Int64) ∈ zTb := zTb_of (tb_4 _ (List.mem_of_getElem? (i := 45) rfl)) rfl
theorem kcX6_70 : Cond.constantLong RX6 70 (10 : Int64) ∈ zTb := zTb_of (tb_5 _ (List.mem_of_getElem? (i := 65) rfl)) rfl
theorem kcX6_260 : Cond.constantLong RX6 260 (4 : Int64) ∈ zTb := zTb_of (tb_5 _ (List.mem_of_getElem? (i := 217) rfl)) rfl
theorem kcX6_262 : Cond.constantLong RX6 262 (12 : Int64) ∈ zTb := zTb_of (tb_5 _ (List.mem_of_getElem? (i := 218) rfl)) rfl
theorem kcX6_264 : Cond.constantLong RX6 264 (1000000 : Int64) ∈ zTb := zTb_of (tb_5 _ (List.mem_of_getElem? (i := 219) rfl)) rfl
theorem kcL_18 : Cond.constantLong RL 18 (4294967295 : Int64) ∈ zTb := zTb_of (tb_6 _ (List.mem_of_getElem? (i := 123) rfl)) rfl
theorem kcJ6_265 : Cond.constant RJ6 265 (iI (1431655765)) ∈ zTb := zTb_of (tb_4 _ (List.mem_of_getElem? (i := 3) rfl)) rfl
theorem kcJ6_266 : Cond.constant RJ6 266 (iI (858993459)) ∈ zTb := zTb_of (tb_4 _ (List.mem_of_getElem? (i := 4) rfl)) rfl
theorem kcJ6_267 : Cond.constant RJ6 267 (iI (252645135)) ∈ zTb := zTb_of (tb_4 _ (List.mem_of_getElem? (i := 5) rfl)) rfl
theorem kcX0_136 : Cond.constant RX0 136 (iI (1103515245)) ∈ zTb := zTb_of (tb_4 _ (List.mem_of_getElem? (i := 82) rfl)) rfl
theorem kcX6_302 : Cond.constant RX6 302 (iI (1103515245)) ∈ zTb := zTb_of (tb_6 _ (List.mem_of_getElem? (i := 102) rfl)) rfl
theorem zLj {i : Nat} {v w : Int64} {L L' : List (Nat × Value)} (h : v = w) (t : L = L') : ((i, Value.long v) :: L) = ((i, Value.long w) :: L') := by subst h; subst t; rfl
/-! the hill's other answers, in numbers -/
def mayWN (I : Nat → Nat → Int) (h : Nat) (c : Int) : Bool := isCellN (I h 0) c && (!decide (c = I h 1) && (!decide (c = I (h + 3) 0) && !eweAtN (I (h + 3 + 1)) c (I h 6).toNat))
def mayPN (I : Nat → Nat → Int) (w : Int64) (h : Nat) (c : Int) : Bool := openN (I h 0) w c && (!decide (c = I (h + 3) 0) && (!eweAtN (I (h + 3 + 1)) c (I h 6).toNat && !eweAtN (I (h + 3 + 1)) (I h 1) (I h 6).toNat))
def farF (C : Nat → Int) (pen : Int) (w : Nat) : Nat → Int
  | 0 => 0
  | k + 1 => if C k = pen then farF C pen w k else max (farF C pen w k) (stp (C k) (C w))
theorem farF_r {C : Nat → Int} {pen : Int} {w k : Nat} (hk : k ≤ 5) (hw : w < 5) (hC : ∀ e, e < 5 → 0 ≤ C e ∧ C e ≤ 66) : 0 ≤ farF C pen w k ∧ farF C pen w k ≤ 18 := by
  induction k with
  | zero => simp [farF]
  | succ k ih =>
    have h1 := ih (by omega)
    have h2 := hC k (by omega)
    have h3 := hC w hw
    have h4 := stp_r (c := C k) (d := C w) (by omega) (by omega)
    simp only [farF]
    split <;> omega
def apF (C : Nat → Int) (pen : Int) (n : Nat) : Nat → Int
  | 0 => 0
  | k + 1 => if C k = pen then apF C pen n k else max (apF C pen n k) (farF C pen k n)
theorem apF_r {C : Nat → Int} {pen : Int} {n k : Nat} (hn : n ≤ 5) (hk : k ≤ 5) (hC : ∀ e, e < 5 → 0 ≤ C e ∧ C e ≤ 66) : 0 ≤ apF C pen n k ∧ apF C pen n k ≤ 18 := by
  induction k with
  | zero => simp [apF]
  | succ k ih =>
    have h1 := ih (by omega)
    have h2 := farF_r (pen := pen) (w := k) hn (by omega) hC
    simp only [apF]
    split <;> omega
def nearF (C : Nat → Int) (pen dog : Int) : Nat → Int × Int
  | 0 => (-1, 0)
  | k + 1 => if ¬ C k = pen ∧ ((nearF C pen dog k).1 = -1 ∨ stp (C k) dog < (nearF C pen dog k).2) then ((k : Int), stp (C k) dog) else nearF C pen dog k
theorem nearF_r {C : Nat → Int} {pen dog : Int} {k : Nat} (hk : k ≤ 5) (hd : 0 ≤ dog ∧ dog ≤ 66) (hC : ∀ e, e < 5 → 0 ≤ C e ∧ C e ≤ 66) : (-1 ≤ (nearF C pen dog k).1 ∧ (nearF C pen dog k).1 ≤ 5) ∧ 0 ≤ (nearF C pen dog k).2 ∧ (nearF C pen dog k).2 ≤ 18 := by
  induction k with
  | zero => simp [nearF]
  | succ k ih =>
    have h1 := ih (by omega)
    have h2 := hC k (by omega)
    have h4 := stp_r (c := C k) (d := dog) (by omega) (by omega)
    simp only [nearF]
    split
    · simp only; omega
    · exact h1
/-- the upper 16 bits -/
def ush16 (s : Int) : Int := ((iI s).toBitVec.toNat / 65536 : Nat)
theorem ush16_r (s : Int) : 0 ≤ ush16 s ∧ ush16 s ≤ 65535 := by
  unfold ush16
  have := (iI s).toBitVec.isLt
  omega
theorem ush16_eq (s : Int) : ((iI s).toUInt32 >>> ((iI 16).toUInt32 &&& Int32.toUInt32 31)).toInt32 = iI (ush16 s) := by
  have h := pk_ushr (iI s) (iI 16) 16 (by decide)
  apply Int32.toBitVec_inj.mp
  apply BitVec.eq_of_toNat_eq
  rw [h]
  unfold ush16
  rw [show (2 : Nat) ^ 16 = 65536 from rfl, ← iI_nI, pk_tn]
  have := (iI s).toBitVec.isLt
  omega
def seedN (s : Int) : Int := s * 1103515245 + 12345
def eweB (C : Nat → Int) : Nat → Int64
  | 0 => 0
  | k + 1 => eweB C k ||| bitL (C k)
def groundB (n : Int) (w : Int64) (pen : Int) : Nat → Int64
  | 0 => 0
  | k + 1 => if dogsN n w pen k = true then groundB n w pen k ||| bitL k else groundB n w pen k
def lsh (x : Int64) (k : Int) : Int64 := x <<< ((iI k).toInt64 &&& 63)
def lus (x : Int64) (k : Int) : Int64 := (x.toUInt64 >>> ((iI k).toInt64.toUInt64 &&& Int64.toUInt64 63)).toInt64
def spreadN (r g : Int64) : Int64 := r ||| ((lsh r 8 ||| lus r 8 ||| lsh r 1 ||| lus r 1) &&& g)
def zHl (I : Nat → Nat → Int) (h o : Nat) : Nat → Nat → Int := fun i k =>
  if i = h then (if k = 0 ∨ k = 1 ∨ k = 2 ∨ k = 3 ∨ k = 4 ∨ k = 6 then I o k else I h k)
  else if i = h + 1 then I (o + 1) k
  else if i = h + 2 then I (o + 2) k
  else if i = h + 3 then (if k = 0 ∨ k = 1 then I (o + 3) k else I (h + 3) k)
  else if i = h + 3 + 1 then I (o + 3 + 1) k
  else I i k
