/-! the whole world: its cells by number (written by gen_layout.py): 0 the class's object; 1, 6, 13 its Hills (now, kept, draft), each with kinds, as, Spots, cells behind it; 11 Tape, 12 its bytes; 18 shelves, 19 + 2 k a Shelf, 20 + 2 k its row; 35 refusals; 36 trial; 38 Search, 39 levels, 40 + 2 k a Spots; 54 tried, 55 found, 56, 57 rows; 58 the reference's object, 59 .. 73 its rows -/
def LAY : List (Nat × Nat) := [(5, 8), (0, 10), (7, 5), (7, 5), (3, 3), (7, 5), (0, 10), (7, 5), (7, 5), (3, 3), (7, 5), (4, 6), (7, 250), (0, 10), (7, 5), (7, 5), (3, 3), (7, 5), (10, 8), (2, 3), (8, 40), (2, 3), (8, 40), (2, 3), (8, 40), (2, 3), (8, 40), (2, 3), (8, 40), (2, 3), (8, 40), (2, 3), (8, 40), (2, 3), (8, 40), (7, 5), (3, 3), (7, 5), (1, 6), (11, 7), (3, 3), (7, 5), (3, 3), (7, 5), (3, 3), (7, 5), (3, 3), (7, 5), (3, 3), (7, 5), (3, 3), (7, 5), (3, 3), (7, 5), (7, 6), (7, 6), (7, 67), (7, 67), (6, 30), (9, 67), (7, 5), (7, 5), (7, 5), (7, 250), (7, 8), (7, 8), (8, 320), (7, 7), (7, 90), (7, 90), (7, 56), (7, 6), (7, 6), (7, 67)]
def zRT (q : Nat × Nat) (i k : Nat) : Option Nat := match (LAY[i]?).map Prod.fst, k with
  | some 0, 7 => some (i + 1)
  | some 0, 8 => some (i + 2)
  | some 0, 9 => some (i + 3)
  | some 1, 0 => some 39
  | some 1, 1 => some 54
  | some 1, 2 => some 55
  | some 1, 4 => some q.1
  | some 1, 5 => some q.2
  | some 2, 2 => some (i + 1)
  | some 3, 2 => some (i + 1)
  | some 4, 0 => some (i + 1)
  | some 4, 2 => some (i + 2)
  | some 5, 0 => some 1
  | some 5, 1 => some 6
  | some 5, 3 => some 11
  | some 5, 4 => some 18
  | some 5, 5 => some 35
  | some 5, 6 => some 36
  | some 5, 7 => some 38
  | some 6, 1 => some 59
  | some 6, 6 => some 60
  | some 6, 7 => some 61
  | some 6, 8 => some 62
  | some 6, 13 => some 63
  | some 6, 18 => some 64
  | some 6, 19 => some 65
  | some 6, 20 => some 66
  | some 6, 21 => some 67
  | some 6, 23 => some 68
  | some 6, 24 => some 69
  | some 6, 25 => some 70
  | some 6, 26 => some 71
  | some 6, 27 => some 72
  | some 6, 29 => some 73
  | some 10, k => if k < 8 then some (19 + 2 * k) else none
  | some 11, k => if k < 7 then some (40 + 2 * k) else none
  | _, _ => none
abbrev zst (I : Nat → Nat → Int) (J : Nat → Nat → Int64) (q : Nat × Nat) : zSt := (LAY, I, J, zRT q)
def isH (h : Nat) : Prop := h = 1 ∨ h = 6 ∨ h = 13
def isS (s : Nat) : Prop := s = 4 ∨ s = 9 ∨ s = 16 ∨ s = 36 ∨ s = 40 ∨ s = 42 ∨ s = 44 ∨ s = 46 ∨ s = 48 ∨ s = 50 ∨ s = 52
def isL (s : Nat) : Prop := s = 19 ∨ s = 21 ∨ s = 23 ∨ s = 25 ∨ s = 27 ∨ s = 29 ∨ s = 31 ∨ s = 33
theorem lay_h {h : Nat} (hh : isH h) : LAY[h]? = some (0, 10) := by rcases hh with rfl | rfl | rfl <;> rfl
theorem lay_h1 {h : Nat} (hh : isH h) : LAY[h + 1]? = some (7, 5) := by rcases hh with rfl | rfl | rfl <;> rfl
theorem lay_h2 {h : Nat} (hh : isH h) : LAY[h + 2]? = some (7, 5) := by rcases hh with rfl | rfl | rfl <;> rfl
theorem lay_h3 {h : Nat} (hh : isH h) : LAY[h + 3]? = some (3, 3) := by rcases hh with rfl | rfl | rfl <;> rfl
theorem lay_h4 {h : Nat} (hh : isH h) : LAY[h + 4]? = some (7, 5) := by rcases hh with rfl | rfl | rfl <;> rfl
theorem isS_h {h : Nat} (hh : isH h) : isS (h + 3) := by rcases hh with rfl | rfl | rfl <;> simp [isS]
theorem lay_s {s : Nat} (hs : isS s) : LAY[s]? = some (3, 3) := by rcases hs with rfl | rfl | rfl | rfl | rfl | rfl | rfl | rfl | rfl | rfl | rfl <;> rfl
theorem lay_s1 {s : Nat} (hs : isS s) : LAY[s + 1]? = some (7, 5) := by rcases hs with rfl | rfl | rfl | rfl | rfl | rfl | rfl | rfl | rfl | rfl | rfl <;> rfl
theorem lay_l {s : Nat} (hs : isL s) : LAY[s]? = some (2, 3) := by rcases hs with rfl | rfl | rfl | rfl | rfl | rfl | rfl | rfl <;> rfl
theorem lay_l1 {s : Nat} (hs : isL s) : LAY[s + 1]? = some (8, 40) := by rcases hs with rfl | rfl | rfl | rfl | rfl | rfl | rfl | rfl <;> rfl
theorem isL_of {k : Nat} (h : k < 8) : isL (19 + 2 * k) := by unfold isL; omega
theorem isS_of {k : Nat} (h : k < 7) : isS (40 + 2 * k) := by unfold isS; omega
theorem rt_h7 {q : Nat × Nat} {h : Nat} (hh : isH h) : zRT q h 7 = some (h + 1) := by simp [zRT, lay_h hh]
theorem rt_h8 {q : Nat × Nat} {h : Nat} (hh : isH h) : zRT q h 8 = some (h + 2) := by simp [zRT, lay_h hh]
theorem rt_h9 {q : Nat × Nat} {h : Nat} (hh : isH h) : zRT q h 9 = some (h + 3) := by simp [zRT, lay_h hh]
theorem rt_h32 {q : Nat × Nat} {h : Nat} (hh : isH h) : zRT q (h + 3) 2 = some (h + 4) := by simp [zRT, lay_h3 hh]
theorem rt_s {q : Nat × Nat} {s : Nat} (hs : isS s) : zRT q s 2 = some (s + 1) := by simp [zRT, lay_s hs]
theorem rt_l {q : Nat × Nat} {s : Nat} (hs : isL s) : zRT q s 2 = some (s + 1) := by simp [zRT, lay_l hs]
theorem rt_18 {q : Nat × Nat} {k : Nat} (h : k < 8) : zRT q 18 k = some (19 + 2 * k) := by simp [zRT, LAY, h]
theorem rt_39 {q : Nat × Nat} {k : Nat} (h : k < 7) : zRT q 39 k = some (40 + 2 * k) := by simp [zRT, LAY, h]
def bI (b : Bool) : Int := if b then 1 else 0
theorem bI_r (b : Bool) : -2147483648 ≤ bI b ∧ bI b ≤ 2147483647 := by cases b <;> decide
theorem bI_01 (b : Bool) : bI b = 0 ∨ bI b = 1 := by cases b <;> decide
theorem zIs_I {σ σ' : zSt} {v w : Int} (h : v = w) (hσ : σ = σ') : zIs (some (.int (iI w))) σ' (some (.int (iI v))) σ := by subst h; subst hσ; exact ⟨rfl, rfl⟩
theorem zIs_J {σ σ' : zSt} {v w : Int64} (h : v = w) (hσ : σ = σ') : zIs (some (.long w)) σ' (some (.long v)) σ := by subst h; subst hσ; exact ⟨rfl, rfl⟩
theorem zIs_V {σ σ' : zSt} (hσ : σ = σ') : zIs none σ' none σ := by subst hσ; exact ⟨rfl, rfl⟩
section YY
variable {g : zG} {X : zX} {M : zM} {d mc ms nc ns : Nat} {I : Nat → Nat → Int} {J : Nat → Nat → Int64} {q : Nat × Nat} {pc : Nat} {L : List (Nat × Value)} {S : List Value} {ci N n i idx : Nat} {R : String} {T : u_T} {ty : Nat → FieldType}
theorem y_getI (C : zC g X M d mc ms) (K : zCl ci R T N ty) (k : Nat) (hlk : Cond.fieldLink M.1.cls idx (T k).1 (T k).2.1 (T k).2.2.1 ∈ zTb) (ht : (zft ci)[k]? = some 0) (hi : LAY[i]? = some (ci, n)) (hd : decode M.2.1 pc = .ok (.getfield idx, 3)) (kk : zZ g X nc ns (zst I J q) (pc + 3) L (.int (iI (I i k)) :: S)) : zZ g X nc ns (zst I J q) pc L (.ref i :: S) := z_getI C K k hlk ht hi hd kk
theorem y_getJ (C : zC g X M d mc ms) (K : zCl ci R T N ty) (k : Nat) (hlk : Cond.fieldLink M.1.cls idx (T k).1 (T k).2.1 (T k).2.2.1 ∈ zTb) (ht : (zft ci)[k]? = some 1) (hi : LAY[i]? = some (ci, n)) (hd : decode M.2.1 pc = .ok (.getfield idx, 3)) (kk : zZ g X nc ns (zst I J q) (pc + 3) L (.long (J i k) :: S)) : zZ g X nc ns (zst I J q) pc L (.ref i :: S) := z_getJ C K k hlk ht hi hd kk
theorem y_getR (C : zC g X M d mc ms) (K : zCl ci R T N ty) (k : Nat) (hlk : Cond.fieldLink M.1.cls idx (T k).1 (T k).2.1 (T k).2.2.1 ∈ zTb) (ht : (zft ci)[k]? = some 2) (hi : LAY[i]? = some (ci, n)) {b : Nat} (hb : zRT q i k = some b) (hd : decode M.2.1 pc = .ok (.getfield idx, 3)) (kk : zZ g X nc ns (zst I J q) (pc + 3) L (.ref b :: S)) : zZ g X nc ns (zst I J q) pc L (.ref i :: S) := z_getR C K k hlk ht hi hb hd kk
theorem y_putI (C : zC g X M d mc ms) (K : zCl ci R T N ty) (k : Nat) (hlk : Cond.fieldLink M.1.cls idx (T k).1 (T k).2.1 (T k).2.2.1 ∈ zTb) (ht : (zft ci)[k]? = some 0) (hty : ty k = .int) (hfin : (T k).2.2.2 = false) (hi : LAY[i]? = some (ci, n)) {v : Int} (hd : decode M.2.1 pc = .ok (.putfield idx, 3)) (kk : zZ g X nc ns (zst (zu I i k v) J q) (pc + 3) L S) : zZ g X nc ns (zst I J q) pc L (.int (iI v) :: .ref i :: S) := z_putI C K k hlk ht hty hfin hi hd kk
theorem y_putZ (C : zC g X M d mc ms) (K : zCl ci R T N ty) (k : Nat) (hlk : Cond.fieldLink M.1.cls idx (T k).1 (T k).2.1 (T k).2.2.1 ∈ zTb) (ht : (zft ci)[k]? = some 0) (hty : ty k = .boolean) (hfin : (T k).2.2.2 = false) (hi : LAY[i]? = some (ci, n)) {v : Int} (hv : v = 0 ∨ v = 1) (hd : decode M.2.1 pc = .ok (.putfield idx, 3)) (kk : zZ g X nc ns (zst (zu I i k v) J q) (pc + 3) L S) : zZ g X nc ns (zst I J q) pc L (.int (iI v) :: .ref i :: S) := z_putZ C K k hlk ht hty hfin hi hv hd kk
theorem y_putJ (C : zC g X M d mc ms) (K : zCl ci R T N ty) (k : Nat) (hlk : Cond.fieldLink M.1.cls idx (T k).1 (T k).2.1 (T k).2.2.1 ∈ zTb) (ht : (zft ci)[k]? = some 1) (hty : ty k = .long) (hfin : (T k).2.2.2 = false) (hi : LAY[i]? = some (ci, n)) {v : Int64} (hd : decode M.2.1 pc = .ok (.putfield idx, 3)) (kk : zZ g X nc ns (zst I (zu J i k v) q) (pc + 3) L S) : zZ g X nc ns (zst I J q) pc L (.long v :: .ref i :: S) := z_putJ C K k hlk ht hty hfin hi hd kk
theorem y_iald (C : zC g X M d mc ms) {j : Int} (e : Nat) (hj : j = e) (hi : LAY[i]? = some (7, n)) (he : e < n) (hn : n < 2 ^ 31) (hd : decode M.2.1 pc = .ok (.iaload, 1)) (kk : zZ g X nc ns (zst I J q) (pc + 1) L (.int (iI (I i e)) :: S)) : zZ g X nc ns (zst I J q) pc L (.int (iI j) :: .ref i :: S) := z_iald C e hj hi he hn hd kk
theorem y_zald (C : zC g X M d mc ms) {j : Int} (e : Nat) (hj : j = e) (hi : LAY[i]? = some (9, n)) (he : e < n) (hn : n < 2 ^ 31) (hd : decode M.2.1 pc = .ok (.baload, 1)) (kk : zZ g X nc ns (zst I J q) (pc + 1) L (.int (iI (I i e)) :: S)) : zZ g X nc ns (zst I J q) pc L (.int (iI j) :: .ref i :: S) := z_zald C e hj hi he hn hd kk
theorem y_lald (C : zC g X M d mc ms) {j : Int} (e : Nat) (hj : j = e) (hi : LAY[i]? = some (8, n)) (he : e < n) (hn : n < 2 ^ 31) (hd : decode M.2.1 pc = .ok (.laload, 1)) (kk : zZ g X nc ns (zst I J q) (pc + 1) L (.long (J i e) :: S)) : zZ g X nc ns (zst I J q) pc L (.int (iI j) :: .ref i :: S) := z_lald C e hj hi he hn hd kk
theorem y_aald (C : zC g X M d mc ms) {j : Int} (e : Nat) (kd : Nat) (hkd : kd = 10 ∨ kd = 11) (hj : j = e) (hi : LAY[i]? = some (kd, n)) (he : e < n) (hn : n < 2 ^ 31) {b : Nat} (hb : zRT q i e = some b) (hd : decode M.2.1 pc = .ok (.aaload, 1)) (kk : zZ g X nc ns (zst I J q) (pc + 1) L (.ref b :: S)) : zZ g X nc ns (zst I J q) pc L (.int (iI j) :: .ref i :: S) := z_aald C e kd hkd hj hi he hn hb hd kk
theorem y_iast (C : zC g X M d mc ms) {j : Int} (e : Nat) (hj : j = e) (hi : LAY[i]? = some (7, n)) (he : e < n) (hn : n < 2 ^ 31) {v : Int} (hd : decode M.2.1 pc = .ok (.iastore, 1)) (kk : zZ g X nc ns (zst (zu I i e v) J q) (pc + 1) L S) : zZ g X nc ns (zst I J q) pc L (.int (iI v) :: .int (iI j) :: .ref i :: S) := z_iast C e hj hi he hn hd kk
theorem y_zast (C : zC g X M d mc ms) {j : Int} (e : Nat) (hj : j = e) (hi : LAY[i]? = some (9, n)) (he : e < n) (hn : n < 2 ^ 31) {v : Int} (hv : v = 0 ∨ v = 1) (hd : decode M.2.1 pc = .ok (.bastore, 1)) (kk : zZ g X nc ns (zst (zu I i e v) J q) (pc + 1) L S) : zZ g X nc ns (zst I J q) pc L (.int (iI v) :: .int (iI j) :: .ref i :: S) := z_zast C e hj hi he hn hv hd kk
theorem y_last (C : zC g X M d mc ms) {j : Int} (e : Nat) (hj : j = e) (hi : LAY[i]? = some (8, n)) (he : e < n) (hn : n < 2 ^ 31) {v : Int64} (hd : decode M.2.1 pc = .ok (.lastore, 1)) (kk : zZ g X nc ns (zst I (zu J i e v) q) (pc + 1) L S) : zZ g X nc ns (zst I J q) pc L (.long v :: .int (iI j) :: .ref i :: S) := z_last C e hj hi he hn hd kk
theorem y_cpI (C : zC g X M d mc ms) (hlk : Cond.methodLink M.1.cls idx arraycopyName ∈ zTb) {x y z : Int} {a b n0 n1 : Nat} (sp dp n : Nat) (hx : x = sp) (hy : y = dp) (hz : z = n) (ha : LAY[a]? = some (7, n0)) (hb : LAY[b]? = some (7, n1)) (h0 : sp + n ≤ n0) (h1 : dp + n ≤ n1) (hs0 : n0 < 2 ^ 30) (hs1 : n1 < 2 ^ 30) (h1d : 1 ≤ d) (hw : (S.map fun v => v.category).sum ≤ 8)
    (hd : decode M.2.1 pc = .ok (.invokestatic idx, 3)) (kk : zZ g X nc ns (zst (zcp I a b sp dp n) J q) (pc + 3) L S) : zZ g X nc ns (zst I J q) pc L (.int (iI z) :: .int (iI y) :: .ref b :: .int (iI x) :: .ref a :: S) := z_cpI C hlk lkAC1 lkAC2 lkAC3 sp dp n hx hy hz ha hb h0 h1 hs0 hs1 (show zNA ≤ LAY.length by decide) h1d hw hd kk
theorem y_cpJ (C : zC g X M d mc ms) (hlk : Cond.methodLink M.1.cls idx arraycopyName ∈ zTb) {x y z : Int} {a b n0 n1 : Nat} (sp dp n : Nat) (hx : x = sp) (hy : y = dp) (hz : z = n) (ha : LAY[a]? = some (8, n0)) (hb : LAY[b]? = some (8, n1)) (h0 : sp + n ≤ n0) (h1 : dp + n ≤ n1) (hs0 : n0 < 2 ^ 30) (hs1 : n1 < 2 ^ 30) (h1d : 1 ≤ d) (hw : (S.map fun v => v.category).sum ≤ 8)
    (hd : decode M.2.1 pc = .ok (.invokestatic idx, 3)) (kk : zZ g X nc ns (zst I (zcp J a b sp dp n) q) (pc + 3) L S) : zZ g X nc ns (zst I J q) pc L (.int (iI z) :: .int (iI y) :: .ref b :: .int (iI x) :: .ref a :: S) := z_cpJ C hlk lkAC1 lkAC2 lkAC3 sp dp n hx hy hz ha hb h0 h1 hs0 hs1 (show zNA ≤ LAY.length by decide) h1d hw hd kk
theorem y_if_eqB (C : zC g X M d mc ms) {σ : zSt} {b : Bool} {off : Int} (tgt : Nat) (hd : decode M.2.1 pc = .ok (.ifCond .eq off, 3)) (ht : (pc : Int) + off = (tgt : Int)) (kt : b = false → zZ g X nc ns σ tgt L S) (kf : b = true → zZ g X nc ns σ (pc + 3) L S) : zZ g X nc ns σ pc L (.int (iI (bI b)) :: S) :=
  z_if_eq C tgt hd ht (bI_r b) (fun h => kt (by cases b; rfl; exact absurd h (by decide))) (fun h => kf (by cases b; exact absurd rfl h; rfl))
theorem y_if_neB (C : zC g X M d mc ms) {σ : zSt} {b : Bool} {off : Int} (tgt : Nat) (hd : decode M.2.1 pc = .ok (.ifCond .ne off, 3)) (ht : (pc : Int) + off = (tgt : Int)) (kt : b = true → zZ g X nc ns σ tgt L S) (kf : b = false → zZ g X nc ns σ (pc + 3) L S) : zZ g X nc ns σ pc L (.int (iI (bI b)) :: S) :=
  z_if_ne C tgt hd ht (bI_r b) (fun h => kt (by cases b; exact absurd rfl h; rfl)) (fun h => kf (by cases b; rfl; exact absurd h (by decide)))
theorem y_callV0 (C : zC g X M d mc ms) {σ σ' : zSt} {M' : zM} {d' k : Nat} {r : Option Value} {cq : vw_C} (ok : zOk M' 0) (hst : Cond.instanceMethod M'.1 ∈ zTb) (hse : Cond.selects M'.1.cls M'.1 M'.1 ∈ zTb) (hlk : Cond.methodLink M.1.cls idx M'.1 ∈ zTb) (hR : zRun g M' d' [.ref i] σ r σ') (hi : σ.1[i]? = some (ci, k)) (hlt : ci < 7) (hq : vwCl[ci]? = some cq) (hcl : cq.1 = M'.1.cls) (hd' : d' + 1 ≤ d) (hc : nc ≤ mc) (hs : ns ≤ ms) (hw : (S.map fun v => v.category).sum ≤ 8) (hd : decode M.2.1 pc = .ok (.invokevirtual idx, 3)) (kk : zZ g X nc ns σ' (pc + 3) L (r.toList ++ S)) : zZ g X nc ns σ pc L (.ref i :: S) :=
  zZ_callV (as := []) C ok hst hse hlk hi hlt hq hcl hR rfl hd' hc hs hw hd (fun r1 σ1 h => by obtain ⟨rfl, rfl⟩ := h; exact kk)
theorem y_callS0 (C : zC g X M d mc ms) {σ σ' : zSt} {M' : zM} {d' : Nat} {r : Option Value} (ok : zOk M' 0) (hst : Cond.static M'.1 ∈ zTb) (hlk : Cond.methodLink M.1.cls idx M'.1 ∈ zTb) (hR : zRun g M' d' [] σ r σ') (hd' : d' + 1 ≤ d) (hc : nc ≤ mc) (hs : ns ≤ ms) (hw : (S.map fun v => v.category).sum ≤ 8) (hd : decode M.2.1 pc = .ok (.invokestatic idx, 3)) (kk : zZ g X nc ns σ' (pc + 3) L (r.toList ++ S)) : zZ g X nc ns σ pc L (S) :=
  zZ_callS (as := []) C ok hst hlk hR rfl hd' hc hs hw hd (fun r1 σ1 h => by obtain ⟨rfl, rfl⟩ := h; exact kk)
theorem y_callN0 (C : zC g X M d mc ms) {σ σ' : zSt} {M' : zM} {d' : Nat} {r : Option Value} {host : String} (ok : zOk M' 0) (hst : Cond.static M'.1 ∈ zTb) (hlk : Cond.methodLinkNest M.1.cls idx M'.1 host ∈ zNw) (hR : zRun g M' d' [] σ r σ') (hd' : d' + 1 ≤ d) (hc : nc ≤ mc) (hs : ns ≤ ms) (hw : (S.map fun v => v.category).sum ≤ 8) (hd : decode M.2.1 pc = .ok (.invokestatic idx, 3)) (kk : zZ g X nc ns σ' (pc + 3) L (r.toList ++ S)) : zZ g X nc ns σ pc L (S) :=
  zZ_callN (as := []) C ok hst hlk hR rfl hd' hc hs hw hd (fun r1 σ1 h => by obtain ⟨rfl, rfl⟩ := h; exact kk)
theorem y_callV1 (C : zC g X M d mc ms) {σ σ' : zSt} {M' : zM} {d' k : Nat} {r : Option Value} {cq : vw_C} {a1 : Value} (ok : zOk M' 1) (hst : Cond.instanceMethod M'.1 ∈ zTb) (hse : Cond.selects M'.1.cls M'.1 M'.1 ∈ zTb) (hlk : Cond.methodLink M.1.cls idx M'.1 ∈ zTb) (hR : zRun g M' d' [.ref i, a1] σ r σ') (hi : σ.1[i]? = some (ci, k)) (hlt : ci < 7) (hq : vwCl[ci]? = some cq) (hcl : cq.1 = M'.1.cls) (hd' : d' + 1 ≤ d) (hc : nc ≤ mc) (hs : ns ≤ ms) (hw : (S.map fun v => v.category).sum ≤ 8) (hd : decode M.2.1 pc = .ok (.invokevirtual idx, 3)) (kk : zZ g X nc ns σ' (pc + 3) L (r.toList ++ S)) : zZ g X nc ns σ pc L (a1 :: .ref i :: S) :=
  zZ_callV (as := [a1]) C ok hst hse hlk hi hlt hq hcl hR rfl hd' hc hs hw hd (fun r1 σ1 h => by obtain ⟨rfl, rfl⟩ := h; exact kk)
theorem y_callS1 (C : zC g X M d mc ms) {σ σ' : zSt} {M' : zM} {d' : Nat} {r : Option Value} {a1 : Value} (ok : zOk M' 1) (hst : Cond.static M'.1 ∈ zTb) (hlk : Cond.methodLink M.1.cls idx M'.1 ∈ zTb) (hR : zRun g M' d' [a1] σ r σ') (hd' : d' + 1 ≤ d) (hc : nc ≤ mc) (hs : ns ≤ ms) (hw : (S.map fun v => v.category).sum ≤ 8) (hd : decode M.2.1 pc = .ok (.invokestatic idx, 3)) (kk : zZ g X nc ns σ' (pc + 3) L (r.toList ++ S)) : zZ g X nc ns σ pc L (a1 :: S) :=
  zZ_callS (as := [a1]) C ok hst hlk hR rfl hd' hc hs hw hd (fun r1 σ1 h => by obtain ⟨rfl, rfl⟩ := h; exact kk)
theorem y_callN1 (C : zC g X M d mc ms) {σ σ' : zSt} {M' : zM} {d' : Nat} {r : Option Value} {host : String} {a1 : Value} (ok : zOk M' 1) (hst : Cond.static M'.1 ∈ zTb) (hlk : Cond.methodLinkNest M.1.cls idx M'.1 host ∈ zNw) (hR : zRun g M' d' [a1] σ r σ') (hd' : d' + 1 ≤ d) (hc : nc ≤ mc) (hs : ns ≤ ms) (hw : (S.map fun v => v.category).sum ≤ 8) (hd : decode M.2.1 pc = .ok (.invokestatic idx, 3)) (kk : zZ g X nc ns σ' (pc + 3) L (r.toList ++ S)) : zZ g X nc ns σ pc L (a1 :: S) :=
  zZ_callN (as := [a1]) C ok hst hlk hR rfl hd' hc hs hw hd (fun r1 σ1 h => by obtain ⟨rfl, rfl⟩ := h; exact kk)
theorem y_callV2 (C : zC g X M d mc ms) {σ σ' : zSt} {M' : zM} {d' k : Nat} {r : Option Value} {cq : vw_C} {a1 a2 : Value} (ok : zOk M' 2) (hst : Cond.instanceMethod M'.1 ∈ zTb) (hse : Cond.selects M'.1.cls M'.1 M'.1 ∈ zTb) (hlk : Cond.methodLink M.1.cls idx M'.1 ∈ zTb) (hR : zRun g M' d' [.ref i, a1, a2] σ r σ') (hi : σ.1[i]? = some (ci, k)) (hlt : ci < 7) (hq : vwCl[ci]? = some cq) (hcl : cq.1 = M'.1.cls) (hd' : d' + 1 ≤ d) (hc : nc ≤ mc) (hs : ns ≤ ms) (hw : (S.map fun v => v.category).sum ≤ 8) (hd : decode M.2.1 pc = .ok (.invokevirtual idx, 3)) (kk : zZ g X nc ns σ' (pc + 3) L (r.toList ++ S)) : zZ g X nc ns σ pc L (a2 :: a1 :: .ref i :: S) :=
  zZ_callV (as := [a1, a2]) C ok hst hse hlk hi hlt hq hcl hR rfl hd' hc hs hw hd (fun r1 σ1 h => by obtain ⟨rfl, rfl⟩ := h; exact kk)
theorem y_callS2 (C : zC g X M d mc ms) {σ σ' : zSt} {M' : zM} {d' : Nat} {r : Option Value} {a1 a2 : Value} (ok : zOk M' 2) (hst : Cond.static M'.1 ∈ zTb) (hlk : Cond.methodLink M.1.cls idx M'.1 ∈ zTb) (hR : zRun g M' d' [a1, a2] σ r σ') (hd' : d' + 1 ≤ d) (hc : nc ≤ mc) (hs : ns ≤ ms) (hw : (S.map fun v => v.category).sum ≤ 8) (hd : decode M.2.1 pc = .ok (.invokestatic idx, 3)) (kk : zZ g X nc ns σ' (pc + 3) L (r.toList ++ S)) : zZ g X nc ns σ pc L (a2 :: a1 :: S) :=
  zZ_callS (as := [a1, a2]) C ok hst hlk hR rfl hd' hc hs hw hd (fun r1 σ1 h => by obtain ⟨rfl, rfl⟩ := h; exact kk)
theorem y_callN2 (C : zC g X M d mc ms) {σ σ' : zSt} {M' : zM} {d' : Nat} {r : Option Value} {host : String} {a1 a2 : Value} (ok : zOk M' 2) (hst : Cond.static M'.1 ∈ zTb) (hlk : Cond.methodLinkNest M.1.cls idx M'.1 host ∈ zNw) (hR : zRun g M' d' [a1, a2] σ r σ') (hd' : d' + 1 ≤ d) (hc : nc ≤ mc) (hs : ns ≤ ms) (hw : (S.map fun v => v.category).sum ≤ 8) (hd : decode M.2.1 pc = .ok (.invokestatic idx, 3)) (kk : zZ g X nc ns σ' (pc + 3) L (r.toList ++ S)) : zZ g X nc ns σ pc L (a2 :: a1 :: S) :=
  zZ_callN (as := [a1, a2]) C ok hst hlk hR rfl hd' hc hs hw hd (fun r1 σ1 h => by obtain ⟨rfl, rfl⟩ := h; exact kk)
theorem y_callV3 (C : zC g X M d mc ms) {σ σ' : zSt} {M' : zM} {d' k : Nat} {r : Option Value} {cq : vw_C} {a1 a2 a3 : Value} (ok : zOk M' 3) (hst : Cond.instanceMethod M'.1 ∈ zTb) (hse : Cond.selects M'.1.cls M'.1 M'.1 ∈ zTb) (hlk : Cond.methodLink M.1.cls idx M'.1 ∈ zTb) (hR : zRun g M' d' [.ref i, a1, a2, a3] σ r σ') (hi : σ.1[i]? = some (ci, k)) (hlt : ci < 7) (hq : vwCl[ci]? = some cq) (hcl : cq.1 = M'.1.cls) (hd' : d' + 1 ≤ d) (hc : nc ≤ mc) (hs : ns ≤ ms) (hw : (S.map fun v => v.category).sum ≤ 8) (hd : decode M.2.1 pc = .ok (.invokevirtual idx, 3)) (kk : zZ g X nc ns σ' (pc + 3) L (r.toList ++ S)) : zZ g X nc ns σ pc L (a3 :: a2 :: a1 :: .ref i :: S) :=
  zZ_callV (as := [a1, a2, a3]) C ok hst hse hlk hi hlt hq hcl hR rfl hd' hc hs hw hd (fun r1 σ1 h => by obtain ⟨rfl, rfl⟩ := h; exact kk)
theorem y_callS3 (C : zC g X M d mc ms) {σ σ' : zSt} {M' : zM} {d' : Nat} {r : Option Value} {a1 a2 a3 : Value} (ok : zOk M' 3) (hst : Cond.static M'.1 ∈ zTb) (hlk : Cond.methodLink M.1.cls idx M'.1 ∈ zTb) (hR : zRun g M' d' [a1, a2, a3] σ r σ') (hd' : d' + 1 ≤ d) (hc : nc ≤ mc) (hs : ns ≤ ms) (hw : (S.map fun v => v.category).sum ≤ 8) (hd : decode M.2.1 pc = .ok (.invokestatic idx, 3)) (kk : zZ g X nc ns σ' (pc + 3) L (r.toList ++ S)) : zZ g X nc ns σ pc L (a3 :: a2 :: a1 :: S) :=
  zZ_callS (as := [a1, a2, a3]) C ok hst hlk hR rfl hd' hc hs hw hd (fun r1 σ1 h => by obtain ⟨rfl, rfl⟩ := h; exact kk)
theorem y_callN3 (C : zC g X M d mc ms) {σ σ' : zSt} {M' : zM} {d' : Nat} {r : Option Value} {host : String} {a1 a2 a3 : Value} (ok : zOk M' 3) (hst : Cond.static M'.1 ∈ zTb) (hlk : Cond.methodLinkNest M.1.cls idx M'.1 host ∈ zNw) (hR : zRun g M' d' [a1, a2, a3] σ r σ') (hd' : d' + 1 ≤ d) (hc : nc ≤ mc) (hs : ns ≤ ms) (hw : (S.map fun v => v.category).sum ≤ 8) (hd : decode M.2.1 pc = .ok (.invokestatic idx, 3)) (kk : zZ g X nc ns σ' (pc + 3) L (r.toList ++ S)) : zZ g X nc ns σ pc L (a3 :: a2 :: a1 :: S) :=
  zZ_callN (as := [a1, a2, a3]) C ok hst hlk hR rfl hd' hc hs hw hd (fun r1 σ1 h => by obtain ⟨rfl, rfl⟩ := h; exact kk)
theorem y_callV4 (C : zC g X M d mc ms) {σ σ' : zSt} {M' : zM} {d' k : Nat} {r : Option Value} {cq : vw_C} {a1 a2 a3 a4 : Value} (ok : zOk M' 4) (hst : Cond.instanceMethod M'.1 ∈ zTb) (hse : Cond.selects M'.1.cls M'.1 M'.1 ∈ zTb) (hlk : Cond.methodLink M.1.cls idx M'.1 ∈ zTb) (hR : zRun g M' d' [.ref i, a1, a2, a3, a4] σ r σ') (hi : σ.1[i]? = some (ci, k)) (hlt : ci < 7) (hq : vwCl[ci]? = some cq) (hcl : cq.1 = M'.1.cls) (hd' : d' + 1 ≤ d) (hc : nc ≤ mc) (hs : ns ≤ ms) (hw : (S.map fun v => v.category).sum ≤ 8) (hd : decode M.2.1 pc = .ok (.invokevirtual idx, 3)) (kk : zZ g X nc ns σ' (pc + 3) L (r.toList ++ S)) : zZ g X nc ns σ pc L (a4 :: a3 :: a2 :: a1 :: .ref i :: S) :=
  zZ_callV (as := [a1, a2, a3, a4]) C ok hst hse hlk hi hlt hq hcl hR rfl hd' hc hs hw hd (fun r1 σ1 h => by obtain ⟨rfl, rfl⟩ := h; exact kk)
theorem y_callS4 (C : zC g X M d mc ms) {σ σ' : zSt} {M' : zM} {d' : Nat} {r : Option Value} {a1 a2 a3 a4 : Value} (ok : zOk M' 4) (hst : Cond.static M'.1 ∈ zTb) (hlk : Cond.methodLink M.1.cls idx M'.1 ∈ zTb) (hR : zRun g M' d' [a1, a2, a3, a4] σ r σ') (hd' : d' + 1 ≤ d) (hc : nc ≤ mc) (hs : ns ≤ ms) (hw : (S.map fun v => v.category).sum ≤ 8) (hd : decode M.2.1 pc = .ok (.invokestatic idx, 3)) (kk : zZ g X nc ns σ' (pc + 3) L (r.toList ++ S)) : zZ g X nc ns σ pc L (a4 :: a3 :: a2 :: a1 :: S) :=
  zZ_callS (as := [a1, a2, a3, a4]) C ok hst hlk hR rfl hd' hc hs hw hd (fun r1 σ1 h => by obtain ⟨rfl, rfl⟩ := h; exact kk)
theorem y_callN4 (C : zC g X M d mc ms) {σ σ' : zSt} {M' : zM} {d' : Nat} {r : Option Value} {host : String} {a1 a2 a3 a4 : Value} (ok : zOk M' 4) (hst : Cond.static M'.1 ∈ zTb) (hlk : Cond.methodLinkNest M.1.cls idx M'.1 host ∈ zNw) (hR : zRun g M' d' [a1, a2, a3, a4] σ r σ') (hd' : d' + 1 ≤ d) (hc : nc ≤ mc) (hs : ns ≤ ms) (hw : (S.map fun v => v.category).sum ≤ 8) (hd : decode M.2.1 pc = .ok (.invokestatic idx, 3)) (kk : zZ g X nc ns σ' (pc + 3) L (r.toList ++ S)) : zZ g X nc ns σ pc L (a4 :: a3 :: a2 :: a1 :: S) :=
  zZ_callN (as := [a1, a2, a3, a4]) C ok hst hlk hR rfl hd' hc hs hw hd (fun r1 σ1 h => by obtain ⟨rfl, rfl⟩ := h; exact kk)
theorem y_callV5 (C : zC g X M d mc ms) {σ σ' : zSt} {M' : zM} {d' k : Nat} {r : Option Value} {cq : vw_C} {a1 a2 a3 a4 a5 : Value} (ok : zOk M' 5) (hst : Cond.instanceMethod M'.1 ∈ zTb) (hse : Cond.selects M'.1.cls M'.1 M'.1 ∈ zTb) (hlk : Cond.methodLink M.1.cls idx M'.1 ∈ zTb) (hR : zRun g M' d' [.ref i, a1, a2, a3, a4, a5] σ r σ') (hi : σ.1[i]? = some (ci, k)) (hlt : ci < 7) (hq : vwCl[ci]? = some cq) (hcl : cq.1 = M'.1.cls) (hd' : d' + 1 ≤ d) (hc : nc ≤ mc) (hs : ns ≤ ms) (hw : (S.map fun v => v.category).sum ≤ 8) (hd : decode M.2.1 pc = .ok (.invokevirtual idx, 3)) (kk : zZ g X nc ns σ' (pc + 3) L (r.toList ++ S)) : zZ g X nc ns σ pc L (a5 :: a4 :: a3 :: a2 :: a1 :: .ref i :: S) :=
  zZ_callV (as := [a1, a2, a3, a4, a5]) C ok hst hse hlk hi hlt hq hcl hR rfl hd' hc hs hw hd (fun r1 σ1 h => by obtain ⟨rfl, rfl⟩ := h; exact kk)
theorem y_callS5 (C : zC g X M d mc ms) {σ σ' : zSt} {M' : zM} {d' : Nat} {r : Option Value} {a1 a2 a3 a4 a5 : Value} (ok : zOk M' 5) (hst : Cond.static M'.1 ∈ zTb) (hlk : Cond.methodLink M.1.cls idx M'.1 ∈ zTb) (hR : zRun g M' d' [a1, a2, a3, a4, a5] σ r σ') (hd' : d' + 1 ≤ d) (hc : nc ≤ mc) (hs : ns ≤ ms) (hw : (S.map fun v => v.category).sum ≤ 8) (hd : decode M.2.1 pc = .ok (.invokestatic idx, 3)) (kk : zZ g X nc ns σ' (pc + 3) L (r.toList ++ S)) : zZ g X nc ns σ pc L (a5 :: a4 :: a3 :: a2 :: a1 :: S) :=
  zZ_callS (as := [a1, a2, a3, a4, a5]) C ok hst hlk hR rfl hd' hc hs hw hd (fun r1 σ1 h => by obtain ⟨rfl, rfl⟩ := h; exact kk)
theorem y_callN5 (C : zC g X M d mc ms) {σ σ' : zSt} {M' : zM} {d' : Nat} {r : Option Value} {host : String} {a1 a2 a3 a4 a5 : Value} (ok : zOk M' 5) (hst : Cond.static M'.1 ∈ zTb) (hlk : Cond.methodLinkNest M.1.cls idx M'.1 host ∈ zNw) (hR : zRun g M' d' [a1, a2, a3, a4, a5] σ r σ') (hd' : d' + 1 ≤ d) (hc : nc ≤ mc) (hs : ns ≤ ms) (hw : (S.map fun v => v.category).sum ≤ 8) (hd : decode M.2.1 pc = .ok (.invokestatic idx, 3)) (kk : zZ g X nc ns σ' (pc + 3) L (r.toList ++ S)) : zZ g X nc ns σ pc L (a5 :: a4 :: a3 :: a2 :: a1 :: S) :=
  zZ_callN (as := [a1, a2, a3, a4, a5]) C ok hst hlk hR rfl hd' hc hs hw hd (fun r1 σ1 h => by obtain ⟨rfl, rfl⟩ := h; exact kk)
end YY
/-- a loop that counts up to N -/
theorem zfor {g : zG} {X : zX} {nc ns pc : Nat} {S : List Value} (N : Nat) (Pr : Nat → Prop) (σf : Nat → zSt) (Lf : Nat → List (Nat × Value)) (h0 : Pr 0) (step : ∀ e, e < N → Pr e → (Pr (e + 1) → zZ g X nc ns (σf (e + 1)) pc (Lf (e + 1)) S) → zZ g X nc ns (σf e) pc (Lf e) S) (exit : Pr N → zZ g X nc ns (σf N) pc (Lf N) S) : zZ g X nc ns (σf 0) pc (Lf 0) S := by
  have key : ∀ n e, e + n = N → Pr e → zZ g X nc ns (σf e) pc (Lf e) S := by
    intro n
    induction n with
    | zero =>
      intro e he hp
      have : e = N := by omega
      subst this
      exact exit hp
    | succ n ih =>
      intro e he hp
      exact step e (by omega) hp (fun h => ih (e + 1) (by omega) h)
  exact key N 0 (by omega) h0
/-- a loop with a measure -/
theorem zloop {g : zG} {X : zX} {nc ns pc : Nat} {S : List Value} {α : Type} (Pr : α → Prop) (μ : α → Nat) (σf : α → zSt) (Lf : α → List (Nat × Value)) (step : ∀ a, Pr a → (∀ b, Pr b → μ b < μ a → zZ g X nc ns (σf b) pc (Lf b) S) → zZ g X nc ns (σf a) pc (Lf a) S) (a0 : α) (h0 : Pr a0) : zZ g X nc ns (σf a0) pc (Lf a0) S := by
  have key : ∀ n a, μ a < n → Pr a → zZ g X nc ns (σf a) pc (Lf a) S := by
    intro n
    induction n with
    | zero => intro a h; omega
    | succ n ih => exact fun a ha hp => step a hp (fun b hb hm => ih b (by omega) hb)
  exact key (μ a0 + 1) a0 (by omega) h0
theorem zLc {i : Nat} {v w : Int} {L L' : List (Nat × Value)} (h : v = w) (t : L = L') : ((i, Value.int (iI v)) :: L) = ((i, Value.int (iI w)) :: L') := by subst h; subst t; rfl
theorem zLk {q : Nat × Value} {L L' : List (Nat × Value)} (t : L = L') : (q :: L) = (q :: L') := by subst t; rfl
theorem isH_1 : isH 1 := by simp [isH]
theorem isH_6 : isH 6 := by simp [isH]
theorem isH_13 : isH 13 := by simp [isH]
theorem isS_4 : isS 4 := by simp [isS]
theorem isS_9 : isS 9 := by simp [isS]
theorem isS_16 : isS 16 := by simp [isS]
theorem isS_36 : isS 36 := by simp [isS]
theorem isS_40 : isS 40 := by simp [isS]
theorem isS_42 : isS 42 := by simp [isS]
theorem isS_44 : isS 44 := by simp [isS]
theorem isS_46 : isS 46 := by simp [isS]
theorem isS_48 : isS 48 := by simp [isS]
theorem isS_50 : isS 50 := by simp [isS]
theorem isS_52 : isS 52 := by simp [isS]
theorem isL_19 : isL 19 := by simp [isL]
theorem isL_21 : isL 21 := by simp [isL]
theorem isL_23 : isL 23 := by simp [isL]
theorem isL_25 : isL 25 := by simp [isL]
theorem isL_27 : isL 27 := by simp [isL]
theorem isL_29 : isL 29 := by simp [isL]
theorem isL_31 : isL 31 := by simp [isL]
theorem isL_33 : isL 33 := by simp [isL]
