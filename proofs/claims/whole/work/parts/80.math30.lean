/-! the reference's odds -/
theorem lost_ok {I : Nat → Nat → Int} {f : Nat → Int64} {lost m : Nat} {p : SP} (hg : gR I) (hp : gRS p) (hd : gDO (hvR I) p.1) (hf : ∀ e, e < m → 0 ≤ (f e).toInt ∧ (f e).toInt ≤ 4) : ∀ k, k ≤ m → gRS (lostS (hvR I) p f lost k) ∧ gDO (hvR I) (lostS (hvR I) p f lost k).1
  | 0, _ => ⟨hp, hd⟩
  | k + 1, h => by
    have h1 := lost_ok (lost := lost) hg hp hd hf k (by omega)
    have h2 := hf k (by omega)
    have h3 : 0 ≤ (if lostAt lost k then (lostS (hvR I) p f lost k).2.1 else (f k).toInt) ∧ (if lostAt lost k then (lostS (hvR I) p f lost k).2.1 else (f k).toInt) ≤ 4 := by
      split
      · exact h1.1.2.1
      · exact h2
    exact ⟨gRS_turn hg h1.1 h3, gDO_c h1.2 h3.1⟩
def roF (J : Nat → Nat → Int64) (s : Nat) : Nat → Int64 := fun k => J 66 (40 * s + k)
def oddsR (I : Nat → Nat → Int) (J : Nat → Nat → Int64) (s m : Nat) : Int := (1000000 * sumL (fun k => weightN (hvR I) (I 58 9) (spR I) (roF J s) k m) (2 ^ m) / pow12 m).toInt
theorem pow12_0 : ∀ m, m ≤ 6 → pow12 m ≠ 0 ∧ ¬ pow12 m < 1 := by decide
theorem in_b {I : Nat → Nat → Int} {C : Nat → Int} (hg : gR I) : 0 ≤ inN (hvR I) C ∧ inN (hvR I) C ≤ 5 := by
  have h := cnt_r (fun e => decide (C e = I 58 2)) (I 58 5).toNat
  have h2 : (I 58 5).toNat ≤ 5 := by have := hg.2.2.2.1; omega
  show 0 ≤ cnt (fun e => decide (C e = I 58 2)) (I 58 5).toNat ∧ cnt (fun e => decide (C e = I 58 2)) (I 58 5).toNat ≤ 5
  omega
