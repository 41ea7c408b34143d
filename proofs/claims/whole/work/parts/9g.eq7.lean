/-! how many bits: bytes -/
theorem land_b {a c m d : Nat} (hc : c < 256) (hd : d < 256) : (256 * a + c) &&& (256 * m + d) = 256 * (a &&& m) + (c &&& d) := by
  have h1 : ((256 * a + c) &&& (256 * m + d)) / 2 ^ 8 = a &&& m := by
    rw [Nat.and_div_two_pow, show (256 * a + c) / 2 ^ 8 = a by omega, show (256 * m + d) / 2 ^ 8 = m by omega]
  have h2 : ((256 * a + c) &&& (256 * m + d)) % 2 ^ 8 = c &&& d := by
    rw [Nat.and_mod_two_pow, show (256 * a + c) % 2 ^ 8 = c by omega, show (256 * m + d) % 2 ^ 8 = d by omega]
  have h3 := Nat.div_add_mod ((256 * a + c) &&& (256 * m + d)) (2 ^ 8)
  rw [h1, h2] at h3
  omega
def repN (d : Nat) : Nat → Nat
  | 0 => 0
  | n + 1 => 256 * repN d n + d
def sw1 (n X : Nat) : Nat := X - (X / 2 &&& repN 85 n)
def sw2 (n X : Nat) : Nat := (sw1 n X &&& repN 51 n) + (sw1 n X / 4 &&& repN 51 n)
def sw3 (n X : Nat) : Nat := (sw2 n X + sw2 n X / 16) &&& repN 15 n
def by1 (b : Nat) : Nat := b - (b / 2 &&& 85)
def by2 (b : Nat) : Nat := (by1 b &&& 51) + (by1 b / 4 &&& 51)
def by3 (b : Nat) : Nat := (by2 b + by2 b / 16) &&& 15
theorem and85 : ∀ e, e < 2 → ∀ b, b < 128 → (128 * e + b) &&& 85 = b &&& 85 := by decide +kernel
theorem and51 : ∀ e, e < 4 → ∀ b, b < 64 → (64 * e + b) &&& 51 = b &&& 51 := by decide +kernel
theorem and15 : ∀ e, e < 5 → ∀ b, b < 73 → (b + 16 * e) &&& 15 = b &&& 15 := by decide +kernel
theorem by_r : ∀ b, b < 256 → by1 b < 256 ∧ by2 b ≤ 68 ∧ by2 b % 16 ≤ 4 ∧ by3 b ≤ 8 := by decide +kernel
theorem sw1_s {n Y b : Nat} (hb : b < 256) : sw1 (n + 1) (256 * Y + b) = 256 * sw1 n Y + by1 b := by
  unfold sw1 by1
  rw [repN, show (256 * Y + b) / 2 = 256 * (Y / 2) + (128 * (Y % 2) + b / 2) by omega, land_b (by omega) (by decide), and85 (Y % 2) (by omega) (b / 2) (by omega)]
  have h1 := Nat.and_le_left (n := Y / 2) (m := repN 85 n)
  have h2 := Nat.and_le_left (n := b / 2) (m := 85)
  omega
theorem sw2_s {n Y b : Nat} (hb : b < 256) : sw2 (n + 1) (256 * Y + b) = 256 * sw2 n Y + by2 b := by
  have hr := (by_r b hb).1
  unfold sw2 by2
  rw [sw1_s hb, repN]
  obtain ⟨A, hA⟩ : ∃ A, A = sw1 n Y := ⟨_, rfl⟩
  obtain ⟨u, hu⟩ : ∃ u, u = by1 b := ⟨_, rfl⟩
  rw [← hA, ← hu]
  rw [← hu] at hr
  rw [land_b hr (by decide), show (256 * A + u) / 4 = 256 * (A / 4) + (64 * (A % 4) + u / 4) by omega, land_b (by omega) (by decide), and51 (A % 4) (by omega) (u / 4) (by omega)]
  omega
theorem sw2_m : ∀ (n Y : Nat), Y < 256 ^ n → sw2 n Y % 16 ≤ 4 := by
  intro n Y hY
  cases n with
  | zero =>
    have : Y = 0 := by rw [Nat.pow_zero] at hY; omega
    subst this
    decide
  | succ n =>
    have h := sw2_s (n := n) (Y := Y / 256) (b := Y % 256) (by omega)
    rw [show 256 * (Y / 256) + Y % 256 = Y by omega] at h
    have := (by_r (Y % 256) (by omega)).2.2.1
    omega
theorem sw3_s {n Y b : Nat} (hb : b < 256) (hY : Y < 256 ^ n) : sw3 (n + 1) (256 * Y + b) = 256 * sw3 n Y + by3 b := by
  have hr := by_r b hb
  have hm := sw2_m n Y hY
  unfold sw3 by3
  rw [sw2_s hb, repN]
  obtain ⟨A, hA⟩ : ∃ A, A = sw2 n Y := ⟨_, rfl⟩
  obtain ⟨u, hu⟩ : ∃ u, u = by2 b := ⟨_, rfl⟩
  rw [← hA, ← hu]
  rw [← hu] at hr
  rw [← hA] at hm
  rw [show (256 * A + u) + (256 * A + u) / 16 = 256 * (A + A / 16) + ((u + u / 16) + 16 * (A % 16)) by omega, land_b (by omega) (by decide), and15 (A % 16) (by omega) (u + u / 16) (by omega)]
theorem by_c : ∀ b, b < 256 → by3 b = (List.range 8).foldl (fun s j => s + (b.testBit j).toNat) 0 := by decide +kernel
theorem sw3_8 (b0 b1 b2 b3 b4 b5 b6 b7 : Nat) (h0 : b0 < 256) (h1 : b1 < 256) (h2 : b2 < 256) (h3 : b3 < 256) (h4 : b4 < 256) (h5 : b5 < 256) (h6 : b6 < 256) (h7 : b7 < 256) :
    sw3 8 (256 * (256 * (256 * (256 * (256 * (256 * (256 * b7 + b6) + b5) + b4) + b3) + b2) + b1) + b0) = 256 * (256 * (256 * (256 * (256 * (256 * (256 * by3 b7 + by3 b6) + by3 b5) + by3 b4) + by3 b3) + by3 b2) + by3 b1) + by3 b0 := by
  rw [sw3_s h0 (by omega), sw3_s h1 (by omega), sw3_s h2 (by omega), sw3_s h3 (by omega), sw3_s h4 (by omega), sw3_s h5 (by omega), sw3_s h6 (by omega)]
  have h := sw3_s (n := 0) (Y := 0) (b := b7) h7 (by decide)
  simp only [Nat.mul_zero, Nat.zero_add, show sw3 0 0 = 0 by decide] at h
  rw [h]
theorem sw_end {c0 c1 c2 c3 c4 c5 c6 c7 t1 t2 t3 t4 t5 t6 S a4 a5 : Nat} (h0 : c0 ≤ 8) (h1 : c1 ≤ 8) (h2 : c2 ≤ 8) (h3 : c3 ≤ 8) (h4 : c4 ≤ 8) (h5 : c5 ≤ 8) (h6 : c6 ≤ 8) (h7 : c7 ≤ 8)
    (e6 : t6 = 256 * c7 + c6) (e5 : t5 = 256 * t6 + c5) (e4 : t4 = 256 * t5 + c4) (e3 : t3 = 256 * t4 + c3) (e2 : t2 = 256 * t3 + c2) (e1 : t1 = 256 * t2 + c1) (eS : S = 256 * t1 + c0) (ea : a4 = S + S / 256) (eb : a5 = a4 + a4 / 65536) :
    (a5 + a5 / 4294967296) % 128 = c0 + c1 + c2 + c3 + c4 + c5 + c6 + c7 ∧ S < 2 ^ 60 ∧ a4 < 2 ^ 61 ∧ a5 < 2 ^ 62 := by
  have b6 : t6 < 2 ^ 12 := by omega
  have b5 : t5 < 2 ^ 20 := by omega
  have b4 : t4 < 2 ^ 28 := by omega
  have b3 : t3 < 2 ^ 36 := by omega
  have b2 : t2 < 2 ^ 44 := by omega
  have b1 : t1 < 2 ^ 52 := by omega
  have b0 : S < 2 ^ 60 := by omega
  have d1 : S / 256 = t1 := by clear e1 e2 e3 e4 e5 e6 ea eb; omega
  rw [d1] at ea
  clear d1
  obtain ⟨u6, f6⟩ : ∃ u, u = t6 + c7 := ⟨_, rfl⟩
  obtain ⟨u5, f5⟩ : ∃ u, u = t5 + t6 := ⟨_, rfl⟩
  obtain ⟨u4, f4⟩ : ∃ u, u = t4 + t5 := ⟨_, rfl⟩
  obtain ⟨u3, f3⟩ : ∃ u, u = t3 + t4 := ⟨_, rfl⟩
  obtain ⟨u2, f2⟩ : ∃ u, u = t2 + t3 := ⟨_, rfl⟩
  obtain ⟨u1, f1⟩ : ∃ u, u = t1 + t2 := ⟨_, rfl⟩
  have g6 : u6 = 256 * c7 + (c6 + c7) := by omega
  have g5 : u5 = 256 * u6 + (c5 + c6) := by omega
  have g4 : u4 = 256 * u5 + (c4 + c5) := by omega
  have g3 : u3 = 256 * u4 + (c3 + c4) := by omega
  have g2 : u2 = 256 * u3 + (c2 + c3) := by omega
  have g1 : u1 = 256 * u2 + (c1 + c2) := by omega
  have g0 : a4 = 256 * u1 + (c0 + c1) := by omega
  have ba : a4 < 2 ^ 61 := by omega
  have bu : u2 < 2 ^ 45 := by omega
  clear e1 e2 e3 e4 e5 e6 eS ea f1 f2 f3 f4 f5 f6 b1 b2 b3 b4 b5 b6
  have d2 : a4 / 65536 = u2 := by clear g2 g3 g4 g5 g6 eb; omega
  rw [d2] at eb
  clear d2
  obtain ⟨v5, k5⟩ : ∃ u, u = u5 + c7 := ⟨_, rfl⟩
  obtain ⟨v4, k4⟩ : ∃ u, u = u4 + u6 := ⟨_, rfl⟩
  obtain ⟨v3, k3⟩ : ∃ u, u = u3 + u5 := ⟨_, rfl⟩
  obtain ⟨v2, k2⟩ : ∃ u, u = u2 + u4 := ⟨_, rfl⟩
  obtain ⟨v1, k1⟩ : ∃ u, u = u1 + u3 := ⟨_, rfl⟩
  have l4 : v4 = 256 * v5 + (c4 + c5 + c6 + c7) := by omega
  have l3 : v3 = 256 * v4 + (c3 + c4 + c5 + c6) := by omega
  have l2 : v2 = 256 * v3 + (c2 + c3 + c4 + c5) := by omega
  have l1 : v1 = 256 * v2 + (c1 + c2 + c3 + c4) := by omega
  have l0 : a5 = 256 * v1 + (c0 + c1 + c2 + c3) := by omega
  have bb : a5 < 2 ^ 62 := by omega
  clear g0 g1 g2 g3 g4 g5 g6 k1 k2 k3 k4 k5 eb
  have d3 : a5 / 4294967296 = v4 := by
    have q1 : a5 / 256 = v1 := by clear l1 l2 l3 l4; omega
    have q2 : v1 / 256 = v2 := by clear l0 l2 l3 l4; omega
    have q3 : v2 / 256 = v3 := by clear l0 l1 l3 l4; omega
    have q4 : v3 / 256 = v4 := by clear l0 l1 l2 l4; omega
    rw [show (4294967296 : Nat) = 256 * 256 * 256 * 256 from rfl, ← Nat.div_div_eq_div_mul, ← Nat.div_div_eq_div_mul, ← Nat.div_div_eq_div_mul, q1, q2, q3, q4]
  rw [d3]
  refine ⟨?_, b0, ba, bb⟩
  clear l1 l2 l3 b0 ba bb d3 bu
  omega
