/-! More of the reference's rows. -/
/-- the men that need a SHIRT: each a man's number -/
def wN (g : Nat → Int32) : Prop := ∀ j : Nat, Rg (g j) 0 9
theorem wN_rd {g : Nat → Int32} {z : Int32} {j : Nat} (h : wN g) (e : z = g j) : Rg z 0 9 := by rw [e]; exact h j
theorem wN_upd {g : Nat → Int32} {k : Nat} {v : Int32} (h : wN g) (hv : Rg v 0 9) : wN (upd g k v) := by
  intro j
  unfold upd
  split
  · exact hv
  · exact h j
theorem wL_505 {g : Nat → Int32} {z : Int32} (h : wL g) (e : z = g (505 : Int32).toNatClampNeg) : Rg z 0 12 := by
  have q : (505 : Int32).toNatClampNeg = 505 := by decide
  rw [e, q]
  exact h.1
theorem lt_505 {g : Nat → Int32} {z n : Int32} (e : z = g (505 : Int32).toNatClampNeg) (h : n.toInt < z.toInt) : (n : Int32).toInt < (g 505).toInt := by
  have q : (505 : Int32).toNatClampNeg = 505 := by decide
  rw [e, q] at h
  exact h
