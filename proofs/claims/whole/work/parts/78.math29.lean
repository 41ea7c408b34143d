theorem frG_tr {I I1 I2 : Nat → Nat → Int} {d1 dd : Nat} (h : dd ≤ d1) (a : frG I I1 dd) (b : frG I1 I2 d1) : frG I I2 dd :=
  ⟨fun i h1 h2 => (b.1 i h1 h2).trans (a.1 i h1 h2), fun j hj => (b.2.1 j (by omega)).trans (a.2.1 j hj), fun j hj => (b.2.2 j (by omega)).trans (a.2.2 j hj)⟩
