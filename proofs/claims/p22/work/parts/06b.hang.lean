/-! hang: what the TAPE tells. -/
theorem hg_97 {s z : Int32} (e : s = z - 97) (hs : Rg s 0 11) : s.toInt = z.toInt - 97 := by
  have h : z = s + 97 := by rw [e, Int32.sub_add_cancel]
  have q : (97 : Int32).toInt = 97 := by decide
  obtain ⟨h1, h2⟩ := hs
  rw [h, Int32.toInt_add, q, rg_bm (by omega) (by omega)]
  omega
theorem hg_step {ft : Nat → Int32} {k k' s z : Int32} (h : ∀ j : Nat, (j : Int) < k.toInt → Rg (ft j) 97 108) (e : k'.toInt = k.toInt + 1) (hk : 0 ≤ k.toInt) (ez : z = ft k.toNatClampNeg) (hc : k.toNatClampNeg = cN k) (hs : Rg s 0 11) (t : s.toInt = z.toInt - 97) : ∀ j : Nat, (j : Int) < k'.toInt → Rg (ft j) 97 108 := by
  intro j hj
  by_cases c : (j : Int) < k.toInt
  · exact h j c
  · have q : j = cN k := by simp only [cN]; omega
    rw [q, ← hc, ← ez]
    obtain ⟨s1, s2⟩ := hs
    exact ⟨by omega, by omega⟩
