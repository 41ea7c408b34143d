theorem gR_im {I : Nat → Nat → Int} {v : Int} (h : gR I) : gR (zu I 58 22 v) := h
