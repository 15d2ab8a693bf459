/-! What is remembered: the camps that the class keeps, the slices that the reference keeps. -/
section PA
variable {mc sc tx nr ra ru dy wa se : Int} {f1 f2 : Nat → Int} {f3 : Nat → Int64} {g : Nat → Int}
theorem RC_cg {d1 d2 : Nat → Int} {d3 : Nat → Int64} {g' : Nat → Int} (h : RC mc sc tx nr ra ru dy wa se f1 f2 f3 g) (h1 : ∀ i, i < 50 → d1 i = f1 i) (h2 : ∀ i, i < 72 → d2 i = f2 i) (h3 : ∀ i, i < 30 → d3 i = f3 i) (hg : ∀ i, i < 505 → g' i = g i) : RC mc sc tx nr ra ru dy wa se d1 d2 d3 g' := by
  obtain ⟨⟨a0, a1, a2, a4, a5, a6, a7, a8, a9, a10⟩, hM, hS, hW, hA, b1, b2, b3, b4, b5, b6⟩ := h
  refine ⟨⟨by rw [hg _ (by decide)]; exact a0, by rw [hg _ (by decide)]; exact a1, by rw [hg _ (by decide)]; exact a2, by rw [hg _ (by decide)]; exact a4, by rw [hg _ (by decide)]; exact a5, by rw [hg _ (by decide)]; exact a6, by rw [hg _ (by decide)]; exact a7, by rw [hg _ (by decide)]; exact a8, by rw [hg _ (by decide)]; exact a9, by rw [hg _ (by decide)]; exact a10⟩, ?_, ?_, ?_, ?_, b1, b2, b3, b4, ?_, ?_⟩
  · intro i hi
    rw [hg _ (by omega), h1 i hi]
    exact hM i hi
  · intro s k hs hk
    rw [hg _ (by omega), h2 _ (by omega)]
    exact hS s k hs hk
  · intro a s ha hs
    rw [hg _ (by omega), h3 a ha]
    exact hW a s ha hs
  · intro s hs h12
    rw [hg _ (by omega), h3 0 (by decide)]
    exact hA s hs h12
  · intro m hm
    rw [h1 _ (by omega)]
    rcases b5 m hm with q | ⟨s, q1, q2, q3⟩
    · exact Or.inl q
    · exact Or.inr ⟨s, q1, q2, by rw [h2 _ (by omega)]; exact q3⟩
  · intro s hs
    rw [h2 _ (by omega)]
    rcases b6 s hs with q | ⟨m, q1, q2, q3⟩
    · exact Or.inl q
    · exact Or.inr ⟨m, q1, q2, by rw [h1 _ (by omega)]; exact q3⟩
end PA
theorem r_rem2 {fw g : Nat → Int} {r : Int} : ∀ m y : Nat, 505 - y = m → y ≤ 505 → F_r_remembers_l2 fw r g (y : Int) = (r, va_cpy fw g 0 (505 * (r.toNat - 1)) 505)
  | 0, y, hm, hy => by
    have : y = 505 := by omega
    subst this
    unfold F_r_remembers_l2
    apply kIter_out
    unfold F_r_remembers_l2_s
    simp only [kLet, Int32.reduceToInt]
    rfl
  | m + 1, y, hm, hy => by
    have st : F_r_remembers_l2_s fw r g (y : Int) = Sum.inl (((y + 1 : Nat) : Int)) := by
      unfold F_r_remembers_l2_s
      simp only [kLet, Int32.reduceToInt]
      rw [if_neg (by omega)]
      rfl
    have ih := r_rem2 (fw := fw) (g := g) (r := r) m (y + 1) (by omega) (by omega)
    unfold F_r_remembers_l2 at ih ⊢
    rw [kIter_go st, ih]
theorem r_remj {fw g : Nat → Int} {r : Int} : F_r_remembers_j1 fw r g = (r, va_cpy fw g 0 (505 * (r.toNat - 1)) 505) := by
  unfold F_r_remembers_j1
  simp only [kLet, Int32.reduceToInt]
  exact r_rem2 _ 0 rfl (by decide)
theorem r_rem3 {fw fc : Nat → Int} {r : Int} : ∀ m y : Nat, 5555 - y = m → y ≤ 5555 → F_r_remembers_l3 r fw fc (y : Int) = F_r_remembers_j1 fw r (va_cpy fc fc 505 0 5555)
  | 0, y, hm, hy => by
    have : y = 5555 := by omega
    subst this
    unfold F_r_remembers_l3
    apply kIter_out
    unfold F_r_remembers_l3_s
    simp only [kLet, Int32.reduceToInt]
    rfl
  | m + 1, y, hm, hy => by
    have st : F_r_remembers_l3_s r fw fc (y : Int) = Sum.inl (((y + 1 : Nat) : Int)) := by
      unfold F_r_remembers_l3_s
      simp only [kLet, Int32.reduceToInt]
      rw [if_neg (by omega)]
      rfl
    have ih := r_rem3 (fw := fw) (fc := fc) (r := r) m (y + 1) (by omega) (by omega)
    unfold F_r_remembers_l3 at ih ⊢
    rw [kIter_go st, ih]
/-- slice j of what the reference keeps, 0 the latest -/
def rSl (re : Nat) (fc : Nat → Int) (j : Nat) : Nat → Int := fun i => fc (505 * (re - 1 - j) + i)
theorem r_remembers_ok {re : Nat} {fw fc : Nat → Int} (hr : re ≤ 12) : ∃ (re' : Nat) (fc' : Nat → Int), F_r_remembers (re : Int) fw fc = ((re' : Int), fc') ∧ re' = (if re = 12 then 12 else re + 1) ∧ (∀ i, i < 505 → rSl re' fc' 0 i = fw i) ∧ (∀ j, j + 1 < re' → ∀ i, i < 505 → rSl re' fc' (j + 1) i = rSl re fc j i) := by
  by_cases c : re = 12
  · subst c
    refine ⟨12, va_cpy fw (va_cpy fc fc 505 0 5555) 0 5555 505, ?_, by rw [if_pos rfl], fun i hi => ?_, fun j hj i hi => ?_⟩
    · unfold F_r_remembers
      simp only [kLet, Int32.reduceToInt]
      rw [if_pos (by decide)]
      have q := r_rem3 (fw := fw) (fc := fc) (r := ((12 : Nat) : Int)) _ 0 rfl (by decide)
      exact q.trans r_remj
    · show va_cpy fw (va_cpy fc fc 505 0 5555) 0 5555 505 (505 * (12 - 1 - 0) + i) = fw i
      unfold va_cpy
      rw [if_pos (by omega)]
      exact congrArg _ (by omega)
    · show va_cpy fw (va_cpy fc fc 505 0 5555) 0 5555 505 (505 * (12 - 1 - (j + 1)) + i) = fc (505 * (12 - 1 - j) + i)
      unfold va_cpy
      rw [if_neg (by omega), if_pos (by omega)]
      exact congrArg _ (by omega)
  · refine ⟨re + 1, va_cpy fw fc 0 (505 * re) 505, ?_, by rw [if_neg c], fun i hi => ?_, fun j hj i hi => ?_⟩
    · unfold F_r_remembers
      simp only [kLet, Int32.reduceToInt]
      rw [if_neg (by omega), r_remj]
      rfl
    · show va_cpy fw fc 0 (505 * re) 505 (505 * (re + 1 - 1 - 0) + i) = fw i
      unfold va_cpy
      rw [if_pos (by omega)]
      exact congrArg _ (by omega)
    · show va_cpy fw fc 0 (505 * re) 505 (505 * (re + 1 - 1 - (j + 1)) + i) = fc (505 * (re - 1 - j) + i)
      unfold va_cpy
      rw [if_neg (by omega)]
      exact congrArg _ (by omega)
